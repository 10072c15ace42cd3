/-! Layer 2: the cases and the loop of the law; printed by wip/gen/zlaw.py. -/
theorem kz_ok_v {α β : Type} {x : Option α} {u : α} {k : α → Option β} {P : β → Prop} (h : x = some u) (h2 : kz_ok (k u) P) : kz_ok (x.bind k) P := by
  subst h
  exact h2
theorem kz_li {L i j : Nat} {k : Int32} (hL : 6 * i + 6 ≤ L) (hM : L ≤ 3072) (hj : j < 6) (hk : k = nI j) : kb_in (nI (6 * i) + k) L = true := by
  subst hk
  rw [nI_add]
  exact kb_in_n (by omega) (by omega)
theorem kz_sR9 {α β γ : Type} {b : β} {f : α → γ} {g : β → γ} : kb_s (.inr b) f g = g b := rfl
theorem kz_sL9 {α β γ : Type} {a : α} {f : α → γ} {g : β → γ} : kb_s (.inl a) f g = f a := rfl
theorem kz_thr (c : Int32) : kFX5_thrown c = some c := rfl
theorem kz_end1 {T : Type} {P : T → Prop} {r k cmp : Int32} {t : T} (h1 : r = k) (h2 : k = 0 → cmp = 0) (hp : P t) : kz_ok (kb_b (decide (r = k)) (kb_b (decide (k = 0)) (kb_b (decide (cmp = 0)) (some t) none) (some t)) none) P := by
  rw [kb_b_tt (decide_eq_true h1)]
  by_cases h : k = 0
  · rw [kb_b_tt (decide_eq_true h), kb_b_tt (decide_eq_true (h2 h))]
    exact kz_ok_s hp
  · rw [kb_b_ff (decide_eq_false h)]
    exact kz_ok_s hp
theorem kz_end2 {T : Type} {P : T → Prop} {r k v c0 c1 : Int32} {t : T} (h1 : r = k) (h2 : k = 0 → v = 0 → c0 = 0) (h3 : k = 0 → ¬ v = 0 → c1 = 0) (hp : P t) : kz_ok (kb_b (decide (r = k)) (kb_b (decide (k = 0)) (kb_b (decide (v = 0)) (kb_b (decide (c0 = 0)) (some t) none) (kb_b (decide (c1 = 0)) (some t) none)) (some t)) none) P := by
  rw [kb_b_tt (decide_eq_true h1)]
  by_cases h : k = 0
  · rw [kb_b_tt (decide_eq_true h)]
    by_cases hv : v = 0
    · rw [kb_b_tt (decide_eq_true hv), kb_b_tt (decide_eq_true (h2 h hv))]
      exact kz_ok_s hp
    · rw [kb_b_ff (decide_eq_false hv), kb_b_tt (decide_eq_true (h3 h hv))]
      exact kz_ok_s hp
  · rw [kb_b_ff (decide_eq_false h)]
    exact kz_ok_s hp
theorem kz_cmpl {v w : Int64} (h : v = w) (z : Nat → Int64) : lg_cmp (vp_updL z (0 : Int32).toNatClampNeg v (0 : Int32).toNatClampNeg) w = 0 := by
  subst h
  have e : vp_updL z (0 : Int32).toNatClampNeg v (0 : Int32).toNatClampNeg = v := if_pos rfl
  rw [e]
  unfold lg_cmp
  rw [if_neg Int64.lt_irrefl, if_pos rfl]
theorem kz_cmpi {v w : Int32} (h : v = w) (z : Nat → Int64) : lg_cmp (vp_updL z (0 : Int32).toNatClampNeg v.toInt64 (0 : Int32).toNatClampNeg) w.toInt64 = 0 := kz_cmpl (congrArg Int32.toInt64 h) z
set_option maxHeartbeats 4000000 in
set_option maxRecDepth 100000 in
theorem kz_L_100 {x_tapeSize : Int32} {f_x_sizes : Nat → Int32} {f_x_tape : Nat → Int32} {y_taped : Int32} {f_y_tape : Nat → Int32} {f_y_length : Nat → Int32} {f_z : Nat → Int64} {m_x_slots : Nat → Nat → Int32} {m_y_slot : Nat → Nat → Int32} (h : kz_rel x_tapeSize f_x_sizes f_x_tape m_x_slots y_taped f_y_length f_y_tape m_y_slot) {L i : Nat} (hL : 6 * i + 6 ≤ L) (hM : L ≤ 3072) (xs : Nat → Int32) : kz_ok (kJX7_law_100 L xs (nI (6 * i)) x_tapeSize f_x_tape y_taped f_y_tape f_z) (fun o => kz_rel o.1 f_x_sizes o.2.1 m_x_slots o.2.2.2.1 f_y_length o.2.2.2.2.1 m_y_slot) := by
  unfold kJX7_law_100
  refine kz_ok_g (kz_li (j := 1) hL hM (by decide) rfl) ?_
  refine kz_ok_g (kz_li (j := 2) hL hM (by decide) rfl) ?_
  refine kz_ok_g (kz_li (j := 3) hL hM (by decide) rfl) ?_
  refine kz_ok_g (kz_li (j := 4) hL hM (by decide) rfl) ?_
  refine kz_ok_g (kz_li (j := 5) hL hM (by decide) rfl) ?_
  rcases kz_T_feed h (xs (nI (6 * i) + (1 : Int32)).toNatClampNeg) (xs (nI (6 * i) + (2 : Int32)).toNatClampNeg) (xs (nI (6 * i) + (3 : Int32)).toNatClampNeg) (xs (nI (6 * i) + (4 : Int32)).toNatClampNeg) (xs (nI (6 * i) + (5 : Int32)).toNatClampNeg) with ⟨v, x_tapeSize', f_x_tape', y_taped', f_y_tape', e1, e2, e3⟩ | ⟨e1, v, e2⟩
  · have H : kFX7_feed (xs (nI (6 * i) + (1 : Int32)).toNatClampNeg) (xs (nI (6 * i) + (2 : Int32)).toNatClampNeg) (xs (nI (6 * i) + (3 : Int32)).toNatClampNeg) (xs (nI (6 * i) + (4 : Int32)).toNatClampNeg) (xs (nI (6 * i) + (5 : Int32)).toNatClampNeg) x_tapeSize f_x_tape f_z = some ((0 : Int32), x_tapeSize', f_x_tape', vp_updL f_z (0 : Int32).toNatClampNeg (v.toInt64)) := by
      unfold kFX7_feed
      exact (kb_o_v e1).trans rfl
    refine kz_ok_v H ?_
    refine kz_ok_g (kz_li (j := 1) hL hM (by decide) rfl) ?_
    refine kz_ok_g (kz_li (j := 2) hL hM (by decide) rfl) ?_
    refine kz_ok_g (kz_li (j := 3) hL hM (by decide) rfl) ?_
    refine kz_ok_g (kz_li (j := 4) hL hM (by decide) rfl) ?_
    refine kz_ok_g (kz_li (j := 5) hL hM (by decide) rfl) ?_
    refine kz_ok_v e2 (kz_ok_v (kz_thr _) ?_)
    exact kz_end1 rfl (fun _ => kz_cmpi rfl f_z) e3
  · have H : kFX7_feed (xs (nI (6 * i) + (1 : Int32)).toNatClampNeg) (xs (nI (6 * i) + (2 : Int32)).toNatClampNeg) (xs (nI (6 * i) + (3 : Int32)).toNatClampNeg) (xs (nI (6 * i) + (4 : Int32)).toNatClampNeg) (xs (nI (6 * i) + (5 : Int32)).toNatClampNeg) x_tapeSize f_x_tape f_z = some ((1 : Int32), x_tapeSize, f_x_tape, f_z) := by
      unfold kFX7_feed
      exact (kb_o_v e1).trans (kz_sR9.trans ((kb_b_tt (decide_eq_true (show kz_IOB = "java/lang/IndexOutOfBoundsException" from rfl))).trans rfl))
    refine kz_ok_v H ?_
    refine kz_ok_g (kz_li (j := 1) hL hM (by decide) rfl) ?_
    refine kz_ok_g (kz_li (j := 2) hL hM (by decide) rfl) ?_
    refine kz_ok_g (kz_li (j := 3) hL hM (by decide) rfl) ?_
    refine kz_ok_g (kz_li (j := 4) hL hM (by decide) rfl) ?_
    refine kz_ok_g (kz_li (j := 5) hL hM (by decide) rfl) ?_
    refine kz_ok_v e2 (kz_ok_v (kz_thr _) ?_)
    exact kz_end1 rfl (fun hc => absurd hc (show ¬ (1 : Int32) = 0 by decide)) h
set_option maxHeartbeats 4000000 in
set_option maxRecDepth 100000 in
theorem kz_L_204 {x_tapeSize : Int32} {f_x_sizes : Nat → Int32} {f_x_tape : Nat → Int32} {y_taped : Int32} {f_y_tape : Nat → Int32} {f_y_length : Nat → Int32} {f_z : Nat → Int64} {m_x_slots : Nat → Nat → Int32} {m_y_slot : Nat → Nat → Int32} (h : kz_rel x_tapeSize f_x_sizes f_x_tape m_x_slots y_taped f_y_length f_y_tape m_y_slot) {L i : Nat} (hL : 6 * i + 6 ≤ L) (hM : L ≤ 3072) (xs : Nat → Int32) : kz_ok (kJX7_law_204 L xs (nI (6 * i)) x_tapeSize f_x_sizes f_x_tape y_taped f_y_tape f_y_length f_z m_x_slots m_y_slot) (fun o => kz_rel o.1 o.2.1 f_x_tape o.2.2.2.2.2.2.1 o.2.2.2.1 o.2.2.2.2.1 f_y_tape o.2.2.2.2.2.2.2) := by
  unfold kJX7_law_204
  refine kz_ok_g (kz_li (j := 1) hL hM (by decide) rfl) ?_
  refine kz_ok_g (kz_li (j := 2) hL hM (by decide) rfl) ?_
  rcases kz_T_end h (xs (nI (6 * i) + (1 : Int32)).toNatClampNeg) (xs (nI (6 * i) + (2 : Int32)).toNatClampNeg) with ⟨v, x_tapeSize', f_x_sizes', m_x_slots', y_taped', f_y_length', m_y_slot', e1, e2, e3⟩ | ⟨e1, v, e2⟩ | ⟨e1, v, e2⟩
  · have H : kFX7_end (xs (nI (6 * i) + (1 : Int32)).toNatClampNeg) (xs (nI (6 * i) + (2 : Int32)).toNatClampNeg) x_tapeSize f_x_sizes f_x_tape f_z m_x_slots = some ((0 : Int32), x_tapeSize', f_x_sizes', vp_updL f_z (0 : Int32).toNatClampNeg (v.toInt64), m_x_slots') := by
      unfold kFX7_end
      exact (kb_o_v e1).trans rfl
    refine kz_ok_v H ?_
    refine kz_ok_g (kz_li (j := 1) hL hM (by decide) rfl) ?_
    refine kz_ok_g (kz_li (j := 2) hL hM (by decide) rfl) ?_
    refine kz_ok_v e2 (kz_ok_v (kz_thr _) ?_)
    exact kz_end1 rfl (fun _ => kz_cmpi rfl f_z) e3
  · have H : kFX7_end (xs (nI (6 * i) + (1 : Int32)).toNatClampNeg) (xs (nI (6 * i) + (2 : Int32)).toNatClampNeg) x_tapeSize f_x_sizes f_x_tape f_z m_x_slots = some ((1 : Int32), x_tapeSize, f_x_sizes, f_z, m_x_slots) := by
      unfold kFX7_end
      exact (kb_o_v e1).trans (kz_sR9.trans ((kb_b_tt (decide_eq_true (show kz_IAE = "java/lang/IllegalArgumentException" from rfl))).trans rfl))
    refine kz_ok_v H ?_
    refine kz_ok_g (kz_li (j := 1) hL hM (by decide) rfl) ?_
    refine kz_ok_g (kz_li (j := 2) hL hM (by decide) rfl) ?_
    refine kz_ok_v e2 (kz_ok_v (kz_thr _) ?_)
    exact kz_end1 rfl (fun hc => absurd hc (show ¬ (1 : Int32) = 0 by decide)) h
  · have H : kFX7_end (xs (nI (6 * i) + (1 : Int32)).toNatClampNeg) (xs (nI (6 * i) + (2 : Int32)).toNatClampNeg) x_tapeSize f_x_sizes f_x_tape f_z m_x_slots = some ((2 : Int32), x_tapeSize, f_x_sizes, f_z, m_x_slots) := by
      unfold kFX7_end
      exact (kb_o_v e1).trans (kz_sR9.trans ((kb_b_ff (decide_eq_false (show ¬ kz_IOB = "java/lang/IllegalArgumentException" by decide))).trans ((kb_b_tt (decide_eq_true (show kz_IOB = "java/lang/IndexOutOfBoundsException" from rfl))).trans rfl)))
    refine kz_ok_v H ?_
    refine kz_ok_g (kz_li (j := 1) hL hM (by decide) rfl) ?_
    refine kz_ok_g (kz_li (j := 2) hL hM (by decide) rfl) ?_
    refine kz_ok_v e2 (kz_ok_v (kz_thr _) ?_)
    exact kz_end1 rfl (fun hc => absurd hc (show ¬ (2 : Int32) = 0 by decide)) h
set_option maxHeartbeats 4000000 in
set_option maxRecDepth 100000 in
theorem kz_L_272 {x_tapeSize : Int32} {f_x_sizes : Nat → Int32} {f_x_tape : Nat → Int32} {y_taped : Int32} {f_y_tape : Nat → Int32} {f_y_length : Nat → Int32} {f_z : Nat → Int64} {m_x_slots : Nat → Nat → Int32} {m_y_slot : Nat → Nat → Int32} (h : kz_rel x_tapeSize f_x_sizes f_x_tape m_x_slots y_taped f_y_length f_y_tape m_y_slot) {L i : Nat} (hL : 6 * i + 6 ≤ L) (hM : L ≤ 3072) (xs : Nat → Int32) : kz_ok (kJX7_law_272 L xs (nI (6 * i)) f_x_sizes f_y_length f_z m_x_slots m_y_slot) (fun o => kz_rel x_tapeSize o.1 f_x_tape o.2.2.2.2.1 y_taped o.2.2.1 f_y_tape o.2.2.2.2.2) := by
  unfold kJX7_law_272
  refine kz_ok_g (kz_li (j := 1) hL hM (by decide) rfl) ?_
  refine kz_ok_g (kz_li (j := 2) hL hM (by decide) rfl) ?_
  rcases kz_T_copy h (xs (nI (6 * i) + (1 : Int32)).toNatClampNeg) (xs (nI (6 * i) + (2 : Int32)).toNatClampNeg) with ⟨v, f_x_sizes', m_x_slots', f_y_length', m_y_slot', e1, e2, e3⟩ | ⟨e1, v, e2⟩
  · have H : kFX7_copy (xs (nI (6 * i) + (1 : Int32)).toNatClampNeg) (xs (nI (6 * i) + (2 : Int32)).toNatClampNeg) f_x_sizes f_z m_x_slots = some ((0 : Int32), f_x_sizes', vp_updL f_z (0 : Int32).toNatClampNeg (v.toInt64), m_x_slots') := by
      unfold kFX7_copy
      exact (kb_o_v e1).trans rfl
    refine kz_ok_v H ?_
    refine kz_ok_g (kz_li (j := 1) hL hM (by decide) rfl) ?_
    refine kz_ok_g (kz_li (j := 2) hL hM (by decide) rfl) ?_
    refine kz_ok_v e2 (kz_ok_v (kz_thr _) ?_)
    exact kz_end1 rfl (fun _ => kz_cmpi rfl f_z) e3
  · have H : kFX7_copy (xs (nI (6 * i) + (1 : Int32)).toNatClampNeg) (xs (nI (6 * i) + (2 : Int32)).toNatClampNeg) f_x_sizes f_z m_x_slots = some ((1 : Int32), f_x_sizes, f_z, m_x_slots) := by
      unfold kFX7_copy
      exact (kb_o_v e1).trans (kz_sR9.trans ((kb_b_tt (decide_eq_true (show kz_IAE = "java/lang/IllegalArgumentException" from rfl))).trans rfl))
    refine kz_ok_v H ?_
    refine kz_ok_g (kz_li (j := 1) hL hM (by decide) rfl) ?_
    refine kz_ok_g (kz_li (j := 2) hL hM (by decide) rfl) ?_
    refine kz_ok_v e2 (kz_ok_v (kz_thr _) ?_)
    exact kz_end1 rfl (fun hc => absurd hc (show ¬ (1 : Int32) = 0 by decide)) h
set_option maxHeartbeats 4000000 in
set_option maxRecDepth 100000 in
theorem kz_L_340 {x_tapeSize : Int32} {f_x_sizes : Nat → Int32} {f_x_tape : Nat → Int32} {y_taped : Int32} {f_y_tape : Nat → Int32} {f_y_length : Nat → Int32} {f_z : Nat → Int64} {m_x_slots : Nat → Nat → Int32} {m_y_slot : Nat → Nat → Int32} (h : kz_rel x_tapeSize f_x_sizes f_x_tape m_x_slots y_taped f_y_length f_y_tape m_y_slot) {L i : Nat} (hL : 6 * i + 6 ≤ L) (hM : L ≤ 3072) (xs : Nat → Int32) : kz_ok (kJX7_law_340 L xs (nI (6 * i)) f_x_sizes f_y_length f_z m_x_slots m_y_slot) (fun o => kz_rel x_tapeSize o.1 f_x_tape o.2.2.2.2.1 y_taped o.2.2.1 f_y_tape o.2.2.2.2.2) := by
  unfold kJX7_law_340
  refine kz_ok_g (kz_li (j := 1) hL hM (by decide) rfl) ?_
  refine kz_ok_g (kz_li (j := 2) hL hM (by decide) rfl) ?_
  rcases kz_T_resize h (xs (nI (6 * i) + (1 : Int32)).toNatClampNeg) (xs (nI (6 * i) + (2 : Int32)).toNatClampNeg) with ⟨v, f_x_sizes', m_x_slots', f_y_length', m_y_slot', e1, e2, e3⟩ | ⟨e1, v, e2⟩
  · have H : kFX7_resize (xs (nI (6 * i) + (1 : Int32)).toNatClampNeg) (xs (nI (6 * i) + (2 : Int32)).toNatClampNeg) f_x_sizes f_z m_x_slots = some ((0 : Int32), f_x_sizes', vp_updL f_z (0 : Int32).toNatClampNeg (v.toInt64), m_x_slots') := by
      unfold kFX7_resize
      exact (kb_o_v e1).trans rfl
    refine kz_ok_v H ?_
    refine kz_ok_g (kz_li (j := 1) hL hM (by decide) rfl) ?_
    refine kz_ok_g (kz_li (j := 2) hL hM (by decide) rfl) ?_
    refine kz_ok_v e2 (kz_ok_v (kz_thr _) ?_)
    exact kz_end1 rfl (fun _ => kz_cmpi rfl f_z) e3
  · have H : kFX7_resize (xs (nI (6 * i) + (1 : Int32)).toNatClampNeg) (xs (nI (6 * i) + (2 : Int32)).toNatClampNeg) f_x_sizes f_z m_x_slots = some ((1 : Int32), f_x_sizes, f_z, m_x_slots) := by
      unfold kFX7_resize
      exact (kb_o_v e1).trans (kz_sR9.trans ((kb_b_tt (decide_eq_true (show kz_IAE = "java/lang/IllegalArgumentException" from rfl))).trans rfl))
    refine kz_ok_v H ?_
    refine kz_ok_g (kz_li (j := 1) hL hM (by decide) rfl) ?_
    refine kz_ok_g (kz_li (j := 2) hL hM (by decide) rfl) ?_
    refine kz_ok_v e2 (kz_ok_v (kz_thr _) ?_)
    exact kz_end1 rfl (fun hc => absurd hc (show ¬ (1 : Int32) = 0 by decide)) h
set_option maxHeartbeats 4000000 in
set_option maxRecDepth 100000 in
theorem kz_L_408 {x_tapeSize : Int32} {f_x_sizes : Nat → Int32} {f_x_tape : Nat → Int32} {y_taped : Int32} {f_y_tape : Nat → Int32} {f_y_length : Nat → Int32} {f_z : Nat → Int64} {m_x_slots : Nat → Nat → Int32} {m_y_slot : Nat → Nat → Int32} (h : kz_rel x_tapeSize f_x_sizes f_x_tape m_x_slots y_taped f_y_length f_y_tape m_y_slot) {L i : Nat} (hL : 6 * i + 6 ≤ L) (hM : L ≤ 3072) (xs : Nat → Int32) : kz_ok (kJX7_law_408 L xs (nI (6 * i)) f_x_sizes f_y_length f_z m_x_slots m_y_slot) (fun o => kz_rel x_tapeSize f_x_sizes f_x_tape o.2.2.1 y_taped f_y_length f_y_tape o.2.2.2) := by
  unfold kJX7_law_408
  refine kz_ok_g (kz_li (j := 1) hL hM (by decide) rfl) ?_
  refine kz_ok_g (kz_li (j := 2) hL hM (by decide) rfl) ?_
  refine kz_ok_g (kz_li (j := 3) hL hM (by decide) rfl) ?_
  rcases kz_T_alter h (xs (nI (6 * i) + (1 : Int32)).toNatClampNeg) (xs (nI (6 * i) + (2 : Int32)).toNatClampNeg) (xs (nI (6 * i) + (3 : Int32)).toNatClampNeg) with ⟨v, m_x_slots', m_y_slot', e1, e2, e3⟩ | ⟨e1, v, e2⟩ | ⟨e1, v, e2⟩
  · have H : kFX7_alter (xs (nI (6 * i) + (1 : Int32)).toNatClampNeg) (xs (nI (6 * i) + (2 : Int32)).toNatClampNeg) (xs (nI (6 * i) + (3 : Int32)).toNatClampNeg) f_x_sizes f_z m_x_slots = some ((0 : Int32), vp_updL f_z (0 : Int32).toNatClampNeg (v.toInt64), m_x_slots') := by
      unfold kFX7_alter
      exact (kb_o_v e1).trans rfl
    refine kz_ok_v H ?_
    refine kz_ok_g (kz_li (j := 1) hL hM (by decide) rfl) ?_
    refine kz_ok_g (kz_li (j := 2) hL hM (by decide) rfl) ?_
    refine kz_ok_g (kz_li (j := 3) hL hM (by decide) rfl) ?_
    refine kz_ok_v e2 (kz_ok_v (kz_thr _) ?_)
    exact kz_end1 rfl (fun _ => kz_cmpi rfl f_z) e3
  · have H : kFX7_alter (xs (nI (6 * i) + (1 : Int32)).toNatClampNeg) (xs (nI (6 * i) + (2 : Int32)).toNatClampNeg) (xs (nI (6 * i) + (3 : Int32)).toNatClampNeg) f_x_sizes f_z m_x_slots = some ((1 : Int32), f_z, m_x_slots) := by
      unfold kFX7_alter
      exact (kb_o_v e1).trans (kz_sR9.trans ((kb_b_tt (decide_eq_true (show kz_IAE = "java/lang/IllegalArgumentException" from rfl))).trans rfl))
    refine kz_ok_v H ?_
    refine kz_ok_g (kz_li (j := 1) hL hM (by decide) rfl) ?_
    refine kz_ok_g (kz_li (j := 2) hL hM (by decide) rfl) ?_
    refine kz_ok_g (kz_li (j := 3) hL hM (by decide) rfl) ?_
    refine kz_ok_v e2 (kz_ok_v (kz_thr _) ?_)
    exact kz_end1 rfl (fun hc => absurd hc (show ¬ (1 : Int32) = 0 by decide)) h
  · have H : kFX7_alter (xs (nI (6 * i) + (1 : Int32)).toNatClampNeg) (xs (nI (6 * i) + (2 : Int32)).toNatClampNeg) (xs (nI (6 * i) + (3 : Int32)).toNatClampNeg) f_x_sizes f_z m_x_slots = some ((2 : Int32), f_z, m_x_slots) := by
      unfold kFX7_alter
      exact (kb_o_v e1).trans (kz_sR9.trans ((kb_b_ff (decide_eq_false (show ¬ kz_IOB = "java/lang/IllegalArgumentException" by decide))).trans ((kb_b_tt (decide_eq_true (show kz_IOB = "java/lang/IndexOutOfBoundsException" from rfl))).trans rfl)))
    refine kz_ok_v H ?_
    refine kz_ok_g (kz_li (j := 1) hL hM (by decide) rfl) ?_
    refine kz_ok_g (kz_li (j := 2) hL hM (by decide) rfl) ?_
    refine kz_ok_g (kz_li (j := 3) hL hM (by decide) rfl) ?_
    refine kz_ok_v e2 (kz_ok_v (kz_thr _) ?_)
    exact kz_end1 rfl (fun hc => absurd hc (show ¬ (2 : Int32) = 0 by decide)) h
set_option maxHeartbeats 4000000 in
set_option maxRecDepth 100000 in
theorem kz_L_488 {x_tapeSize : Int32} {f_x_sizes : Nat → Int32} {f_x_tape : Nat → Int32} {y_taped : Int32} {f_y_tape : Nat → Int32} {f_y_length : Nat → Int32} {f_z : Nat → Int64} {m_x_slots : Nat → Nat → Int32} {m_y_slot : Nat → Nat → Int32} (h : kz_rel x_tapeSize f_x_sizes f_x_tape m_x_slots y_taped f_y_length f_y_tape m_y_slot) {L i : Nat} (hL : 6 * i + 6 ≤ L) (hM : L ≤ 3072) (xs : Nat → Int32) : kz_ok (kJX7_law_488 L xs (nI (6 * i)) f_x_sizes f_y_length f_z) (fun o => kz_rel x_tapeSize f_x_sizes f_x_tape m_x_slots y_taped f_y_length f_y_tape m_y_slot) := by
  unfold kJX7_law_488
  refine kz_ok_g (kz_li (j := 1) hL hM (by decide) rfl) ?_
  rcases kz_T_length h (xs (nI (6 * i) + (1 : Int32)).toNatClampNeg) with ⟨v, e1, e2⟩ | ⟨e1, v, e2⟩
  · have H : kFX7_length (xs (nI (6 * i) + (1 : Int32)).toNatClampNeg) f_x_sizes f_z = some ((0 : Int32), vp_updL f_z (0 : Int32).toNatClampNeg (v.toInt64)) := by
      unfold kFX7_length
      exact (kb_o_v e1).trans rfl
    refine kz_ok_v H ?_
    refine kz_ok_g (kz_li (j := 1) hL hM (by decide) rfl) ?_
    refine kz_ok_v e2 (kz_ok_v (kz_thr _) ?_)
    exact kz_end1 rfl (fun _ => kz_cmpi rfl f_z) h
  · have H : kFX7_length (xs (nI (6 * i) + (1 : Int32)).toNatClampNeg) f_x_sizes f_z = some ((1 : Int32), f_z) := by
      unfold kFX7_length
      exact (kb_o_v e1).trans (kz_sR9.trans ((kb_b_tt (decide_eq_true (show kz_IAE = "java/lang/IllegalArgumentException" from rfl))).trans rfl))
    refine kz_ok_v H ?_
    refine kz_ok_g (kz_li (j := 1) hL hM (by decide) rfl) ?_
    refine kz_ok_v e2 (kz_ok_v (kz_thr _) ?_)
    exact kz_end1 rfl (fun hc => absurd hc (show ¬ (1 : Int32) = 0 by decide)) h
set_option maxHeartbeats 4000000 in
set_option maxRecDepth 100000 in
theorem kz_L_544 {x_tapeSize : Int32} {f_x_sizes : Nat → Int32} {f_x_tape : Nat → Int32} {y_taped : Int32} {f_y_tape : Nat → Int32} {f_y_length : Nat → Int32} {f_z : Nat → Int64} {m_x_slots : Nat → Nat → Int32} {m_y_slot : Nat → Nat → Int32} (h : kz_rel x_tapeSize f_x_sizes f_x_tape m_x_slots y_taped f_y_length f_y_tape m_y_slot) {L i : Nat} (hL : 6 * i + 6 ≤ L) (hM : L ≤ 3072) (xs : Nat → Int32) : kz_ok (kJX7_law_544 L xs (nI (6 * i)) f_x_sizes f_y_length f_z m_x_slots m_y_slot) (fun o => kz_rel x_tapeSize f_x_sizes f_x_tape m_x_slots y_taped f_y_length f_y_tape m_y_slot) := by
  unfold kJX7_law_544
  refine kz_ok_g (kz_li (j := 1) hL hM (by decide) rfl) ?_
  refine kz_ok_g (kz_li (j := 2) hL hM (by decide) rfl) ?_
  rcases kz_T_word h (xs (nI (6 * i) + (1 : Int32)).toNatClampNeg) (xs (nI (6 * i) + (2 : Int32)).toNatClampNeg) with ⟨v, e1, e2⟩ | ⟨e1, v, e2⟩ | ⟨e1, v, e2⟩
  · have H : kFX7_word (xs (nI (6 * i) + (1 : Int32)).toNatClampNeg) (xs (nI (6 * i) + (2 : Int32)).toNatClampNeg) f_x_sizes f_z m_x_slots = some ((0 : Int32), vp_updL f_z (0 : Int32).toNatClampNeg v) := by
      unfold kFX7_word
      exact (kb_o_v e1).trans rfl
    refine kz_ok_v H ?_
    refine kz_ok_g (kz_li (j := 1) hL hM (by decide) rfl) ?_
    refine kz_ok_g (kz_li (j := 2) hL hM (by decide) rfl) ?_
    refine kz_ok_v e2 (kz_ok_v (kz_thr _) ?_)
    exact kz_end1 rfl (fun _ => kz_cmpl rfl f_z) h
  · have H : kFX7_word (xs (nI (6 * i) + (1 : Int32)).toNatClampNeg) (xs (nI (6 * i) + (2 : Int32)).toNatClampNeg) f_x_sizes f_z m_x_slots = some ((1 : Int32), f_z) := by
      unfold kFX7_word
      exact (kb_o_v e1).trans (kz_sR9.trans ((kb_b_tt (decide_eq_true (show kz_IAE = "java/lang/IllegalArgumentException" from rfl))).trans rfl))
    refine kz_ok_v H ?_
    refine kz_ok_g (kz_li (j := 1) hL hM (by decide) rfl) ?_
    refine kz_ok_g (kz_li (j := 2) hL hM (by decide) rfl) ?_
    refine kz_ok_v e2 (kz_ok_v (kz_thr _) ?_)
    exact kz_end1 rfl (fun hc => absurd hc (show ¬ (1 : Int32) = 0 by decide)) h
  · have H : kFX7_word (xs (nI (6 * i) + (1 : Int32)).toNatClampNeg) (xs (nI (6 * i) + (2 : Int32)).toNatClampNeg) f_x_sizes f_z m_x_slots = some ((2 : Int32), f_z) := by
      unfold kFX7_word
      exact (kb_o_v e1).trans (kz_sR9.trans ((kb_b_ff (decide_eq_false (show ¬ kz_IOB = "java/lang/IllegalArgumentException" by decide))).trans ((kb_b_tt (decide_eq_true (show kz_IOB = "java/lang/IndexOutOfBoundsException" from rfl))).trans rfl)))
    refine kz_ok_v H ?_
    refine kz_ok_g (kz_li (j := 1) hL hM (by decide) rfl) ?_
    refine kz_ok_g (kz_li (j := 2) hL hM (by decide) rfl) ?_
    refine kz_ok_v e2 (kz_ok_v (kz_thr _) ?_)
    exact kz_end1 rfl (fun hc => absurd hc (show ¬ (2 : Int32) = 0 by decide)) h
set_option maxHeartbeats 4000000 in
set_option maxRecDepth 100000 in
theorem kz_L_611 {x_tapeSize : Int32} {f_x_sizes : Nat → Int32} {f_x_tape : Nat → Int32} {y_taped : Int32} {f_y_tape : Nat → Int32} {f_y_length : Nat → Int32} {f_z : Nat → Int64} {m_x_slots : Nat → Nat → Int32} {m_y_slot : Nat → Nat → Int32} (h : kz_rel x_tapeSize f_x_sizes f_x_tape m_x_slots y_taped f_y_length f_y_tape m_y_slot) {L i : Nat} (hL : 6 * i + 6 ≤ L) (hM : L ≤ 3072) (xs : Nat → Int32) : kz_ok (kJX7_law_611 L xs (nI (6 * i)) f_x_sizes f_y_length f_z m_x_slots m_y_slot) (fun o => kz_rel x_tapeSize f_x_sizes f_x_tape m_x_slots y_taped f_y_length f_y_tape m_y_slot) := by
  unfold kJX7_law_611
  refine kz_ok_g (kz_li (j := 1) hL hM (by decide) rfl) ?_
  refine kz_ok_g (kz_li (j := 2) hL hM (by decide) rfl) ?_
  rcases kz_T_same h (xs (nI (6 * i) + (1 : Int32)).toNatClampNeg) (xs (nI (6 * i) + (2 : Int32)).toNatClampNeg) with ⟨v, hv, e1, e2⟩ | ⟨e1, v, hv, e2⟩
  · have H : kFX7_same (xs (nI (6 * i) + (1 : Int32)).toNatClampNeg) (xs (nI (6 * i) + (2 : Int32)).toNatClampNeg) f_x_sizes f_z m_x_slots = some ((0 : Int32), vp_updL f_z (0 : Int32).toNatClampNeg (if v = 0 then 0 else 1)) := by
      unfold kFX7_same
      refine (kb_o_v e1).trans ?_
      rcases hv with rfl | rfl
      · exact kz_sL9.trans ((kb_b_tt kz_t00).trans rfl)
      · exact kz_sL9.trans ((kb_b_ff kz_f10).trans rfl)
    refine kz_ok_v H ?_
    refine kz_ok_g (kz_li (j := 1) hL hM (by decide) rfl) ?_
    refine kz_ok_g (kz_li (j := 2) hL hM (by decide) rfl) ?_
    refine kz_ok_v e2 (kz_ok_v (kz_thr _) ?_)
    exact kz_end2 rfl (fun _ hv0 => kz_cmpl (if_pos hv0) f_z) (fun _ hv0 => kz_cmpl (if_neg hv0) f_z) h
  · have H : kFX7_same (xs (nI (6 * i) + (1 : Int32)).toNatClampNeg) (xs (nI (6 * i) + (2 : Int32)).toNatClampNeg) f_x_sizes f_z m_x_slots = some ((1 : Int32), f_z) := by
      unfold kFX7_same
      exact (kb_o_v e1).trans (kz_sR9.trans ((kb_b_tt (decide_eq_true (show kz_IAE = "java/lang/IllegalArgumentException" from rfl))).trans rfl))
    refine kz_ok_v H ?_
    refine kz_ok_g (kz_li (j := 1) hL hM (by decide) rfl) ?_
    refine kz_ok_g (kz_li (j := 2) hL hM (by decide) rfl) ?_
    refine kz_ok_v e2 (kz_ok_v (kz_thr _) ?_)
    exact kz_end2 rfl (fun hc => absurd hc (show ¬ (1 : Int32) = 0 by decide)) (fun hc => absurd hc (show ¬ (1 : Int32) = 0 by decide)) h
set_option maxHeartbeats 4000000 in
set_option maxRecDepth 100000 in
theorem kz_L_686 {x_tapeSize : Int32} {f_x_sizes : Nat → Int32} {f_x_tape : Nat → Int32} {x_kem_sponge_rate : Int32} {x_kem_sponge_place : Int32} {f_x_kem_sponge_lanes : Nat → Int64} {f_x_kem_sponge_moved : Nat → Int64} {f_x_kem_sponge_columns : Nat → Int64} {f_x_kem_sponge_turns : Nat → Int32} {f_x_kem_sponge_targets : Nat → Int32} {f_x_kem_sponge_roundConstants : Nat → Int64} {f_x_kem_ring_powers : Nat → Int32} {f_x_kem_sum : Nat → Int32} {f_x_kem_counters : Nat → Int32} {f_x_kem_three : Nat → Int32} {f_x_kem_noiseBytes : Nat → Int32} {f_x_kem_hash : Nat → Int32} {f_x_kem_seeds : Nat → Int32} {y_taped : Int32} {y_kind : Int32} {y_rate : Int32} {y_filled : Int32} {y_total : Int64} {y_bitAt : Int32} {y_k : Int32} {y_e1 : Int32} {y_du : Int32} {y_dv : Int32} {f_y_tape : Nat → Int32} {f_y_length : Nat → Int32} {f_y_roots : Nat → Int64} {f_y_cubes : Nat → Int64} {f_y_start224 : Nat → Int64} {f_y_start256 : Nat → Int64} {f_y_turns : Nat → Int32} {f_y_round : Nat → Int64} {f_y_state : Nat → Int64} {f_y_other : Nat → Int64} {f_y_column : Nat → Int64} {f_y_words : Nat → Int64} {f_y_block : Nat → Int32} {f_y_sum : Nat → Int64} {f_y_points : Nat → Int32} {f_y_seed : Nat → Int32} {f_y_noise : Nat → Int32} {f_y_packet : Nat → Int32} {f_z : Nat → Int64} {m_x_slots : Nat → Nat → Int32} {g0_x_shapes : Nat → Int32} {g1_x_shapes : Nat → Int32} {g2_x_shapes : Nat → Int32} {g3_x_shapes : Nat → Int32} {m_x_kem_matrix : Nat → Nat → Int32} {m_x_kem_vector : Nat → Nat → Int32} {m_y_slot : Nat → Nat → Int32} {m_y_f : Nat → Nat → Int32} (h : kz_rel x_tapeSize f_x_sizes f_x_tape m_x_slots y_taped f_y_length f_y_tape m_y_slot) (hC : kz_ctab f_x_kem_sponge_turns f_x_kem_sponge_targets f_x_kem_sponge_roundConstants f_x_kem_ring_powers g0_x_shapes g1_x_shapes g2_x_shapes g3_x_shapes) (hR : kz_rtab f_y_turns f_y_round) {L i : Nat} (hL : 6 * i + 6 ≤ L) (hM : L ≤ 3072) (xs : Nat → Int32) : kz_ok (kJX7_law_686 L xs (nI (6 * i)) f_x_sizes x_kem_sponge_rate x_kem_sponge_place f_x_kem_sponge_lanes f_x_kem_sponge_moved f_x_kem_sponge_columns f_x_kem_sponge_turns f_x_kem_sponge_targets f_x_kem_sponge_roundConstants f_x_kem_ring_powers f_x_kem_sum f_x_kem_counters f_x_kem_three f_x_kem_noiseBytes f_x_kem_hash f_x_kem_seeds y_kind y_rate y_filled y_total y_bitAt y_k y_e1 y_du y_dv f_y_length f_y_roots f_y_cubes f_y_start224 f_y_start256 f_y_turns f_y_round f_y_state f_y_other f_y_column f_y_words f_y_block f_y_sum f_y_points f_y_seed f_y_noise f_y_packet f_z m_x_slots g0_x_shapes g1_x_shapes m_x_kem_matrix m_x_kem_vector m_y_slot m_y_f) (fun o => kz_rel x_tapeSize o.1 f_x_tape o.2.2.2.2.2.2.2.2.2.2.2.2.2.2.2.2.2.2.2.2.2.2.2.2.2.2.2.2.2.2.2.2.2.2.1 y_taped o.2.2.2.2.2.2.2.2.2.2.2.2.2.2.2.2.2.2.2.2.2.2.1 f_y_tape o.2.2.2.2.2.2.2.2.2.2.2.2.2.2.2.2.2.2.2.2.2.2.2.2.2.2.2.2.2.2.2.2.2.2.2.2.2.1) := by
  unfold kJX7_law_686
  refine kz_ok_g (kz_li (j := 1) hL hM (by decide) rfl) ?_
  obtain ⟨o, r, e1, e2, hor⟩ := kz_T_keys h (lanes := f_x_kem_sponge_lanes) (moved := f_x_kem_sponge_moved) (columns := f_x_kem_sponge_columns) (sum := f_x_kem_sum) (counters := f_x_kem_counters) (three := f_x_kem_three) (nbytes := f_x_kem_noiseBytes) (hash := f_x_kem_hash) (seeds := f_x_kem_seeds) (M := m_x_kem_matrix) (V := m_x_kem_vector) (rt := x_kem_sponge_rate) (pl := x_kem_sponge_place) hC (roots := f_y_roots) (cubes := f_y_cubes) (s224 := f_y_start224) (s256 := f_y_start256) (state := f_y_state) (other := f_y_other) (column := f_y_column) (words := f_y_words) (sum2 := f_y_sum) (block := f_y_block) (pts := f_y_points) (seed := f_y_seed) (noise := f_y_noise) (pk := f_y_packet) (F := m_y_f) (kd := y_kind) (rt2 := y_rate) (fl := y_filled) (bt := y_bitAt) (k0 := y_k) (e0 := y_e1) (du0 := y_du) (dv0 := y_dv) (tot := y_total) hR (xs (nI (6 * i) + (1 : Int32)).toNatClampNeg)
  rcases hor with ⟨v, rfl, hc, hv, e3⟩ | ⟨E, x, rfl, q1, q2, q3, q4, hE⟩
  · have H : kFX7_kemKeys (xs (nI (6 * i) + (1 : Int32)).toNatClampNeg) f_x_sizes x_kem_sponge_rate x_kem_sponge_place f_x_kem_sponge_lanes f_x_kem_sponge_moved f_x_kem_sponge_columns f_x_kem_sponge_turns f_x_kem_sponge_targets f_x_kem_sponge_roundConstants f_x_kem_ring_powers f_x_kem_sum f_x_kem_counters f_x_kem_three f_x_kem_noiseBytes f_x_kem_hash f_x_kem_seeds f_z m_x_slots g0_x_shapes g1_x_shapes m_x_kem_matrix m_x_kem_vector = some ((0 : Int32), v.2.1, v.2.2.1, v.2.2.2.1, v.2.2.2.2.1, v.2.2.2.2.2.1, v.2.2.2.2.2.2.1, v.2.2.2.2.2.2.2.1, v.2.2.2.2.2.2.2.2.1, v.2.2.2.2.2.2.2.2.2.1, v.2.2.2.2.2.2.2.2.2.2.1, v.2.2.2.2.2.2.2.2.2.2.2.1, v.2.2.2.2.2.2.2.2.2.2.2.2.1, vp_updL f_z (0 : Int32).toNatClampNeg (v.1.toInt64), v.2.2.2.2.2.2.2.2.2.2.2.2.2.1, v.2.2.2.2.2.2.2.2.2.2.2.2.2.2.1, v.2.2.2.2.2.2.2.2.2.2.2.2.2.2.2) := by
      unfold kFX7_kemKeys
      exact (kb_o_v e1).trans rfl
    refine kz_ok_v H ?_
    refine kz_ok_g (kz_li (j := 1) hL hM (by decide) rfl) ?_
    refine kz_ok_v e2 (kz_ok_v (kz_thr _) ?_)
    exact kz_end1 hc (fun _ => kz_cmpi hv f_z) e3
  · have h9 : kz_rel x_tapeSize x.1 f_x_tape x.2.2.2.2.2.2.2.2.2.2.2.2.1 y_taped r.2.2.2.2.2.2.2.2.2.2.2.1 f_y_tape r.2.2.2.2.2.2.2.2.2.2.2.2.2.2.2.2.2.2.2.2.2.2.1 := by
      rw [q1, q2, q3, q4]
      exact h
    rcases hE with ⟨rfl, hc⟩ | ⟨rfl, hc⟩ | ⟨rfl, hc⟩
    · have H : kFX7_kemKeys (xs (nI (6 * i) + (1 : Int32)).toNatClampNeg) f_x_sizes x_kem_sponge_rate x_kem_sponge_place f_x_kem_sponge_lanes f_x_kem_sponge_moved f_x_kem_sponge_columns f_x_kem_sponge_turns f_x_kem_sponge_targets f_x_kem_sponge_roundConstants f_x_kem_ring_powers f_x_kem_sum f_x_kem_counters f_x_kem_three f_x_kem_noiseBytes f_x_kem_hash f_x_kem_seeds f_z m_x_slots g0_x_shapes g1_x_shapes m_x_kem_matrix m_x_kem_vector = some ((1 : Int32), x.1, x.2.1, x.2.2.1, x.2.2.2.1, x.2.2.2.2.1, x.2.2.2.2.2.1, x.2.2.2.2.2.2.1, x.2.2.2.2.2.2.2.1, x.2.2.2.2.2.2.2.2.1, x.2.2.2.2.2.2.2.2.2.1, x.2.2.2.2.2.2.2.2.2.2.1, x.2.2.2.2.2.2.2.2.2.2.2.1, f_z, x.2.2.2.2.2.2.2.2.2.2.2.2.1, x.2.2.2.2.2.2.2.2.2.2.2.2.2.1, x.2.2.2.2.2.2.2.2.2.2.2.2.2.2) := by
        unfold kFX7_kemKeys
        exact (kb_o_v e1).trans (kz_sR9.trans ((kb_b_tt (decide_eq_true (show kz_IAE = "java/lang/IllegalArgumentException" from rfl))).trans rfl))
      refine kz_ok_v H ?_
      refine kz_ok_g (kz_li (j := 1) hL hM (by decide) rfl) ?_
      refine kz_ok_v e2 (kz_ok_v (kz_thr _) ?_)
      exact kz_end1 hc (fun hc => absurd hc (show ¬ (1 : Int32) = 0 by decide)) h9
    · have H : kFX7_kemKeys (xs (nI (6 * i) + (1 : Int32)).toNatClampNeg) f_x_sizes x_kem_sponge_rate x_kem_sponge_place f_x_kem_sponge_lanes f_x_kem_sponge_moved f_x_kem_sponge_columns f_x_kem_sponge_turns f_x_kem_sponge_targets f_x_kem_sponge_roundConstants f_x_kem_ring_powers f_x_kem_sum f_x_kem_counters f_x_kem_three f_x_kem_noiseBytes f_x_kem_hash f_x_kem_seeds f_z m_x_slots g0_x_shapes g1_x_shapes m_x_kem_matrix m_x_kem_vector = some ((2 : Int32), x.1, x.2.1, x.2.2.1, x.2.2.2.1, x.2.2.2.2.1, x.2.2.2.2.2.1, x.2.2.2.2.2.2.1, x.2.2.2.2.2.2.2.1, x.2.2.2.2.2.2.2.2.1, x.2.2.2.2.2.2.2.2.2.1, x.2.2.2.2.2.2.2.2.2.2.1, x.2.2.2.2.2.2.2.2.2.2.2.1, f_z, x.2.2.2.2.2.2.2.2.2.2.2.2.1, x.2.2.2.2.2.2.2.2.2.2.2.2.2.1, x.2.2.2.2.2.2.2.2.2.2.2.2.2.2) := by
        unfold kFX7_kemKeys
        exact (kb_o_v e1).trans (kz_sR9.trans ((kb_b_ff (decide_eq_false (show ¬ kz_ISE = "java/lang/IllegalArgumentException" by decide))).trans ((kb_b_tt (decide_eq_true (show kz_ISE = "java/lang/IllegalStateException" from rfl))).trans rfl)))
      refine kz_ok_v H ?_
      refine kz_ok_g (kz_li (j := 1) hL hM (by decide) rfl) ?_
      refine kz_ok_v e2 (kz_ok_v (kz_thr _) ?_)
      exact kz_end1 hc (fun hc => absurd hc (show ¬ (2 : Int32) = 0 by decide)) h9
    · have H : kFX7_kemKeys (xs (nI (6 * i) + (1 : Int32)).toNatClampNeg) f_x_sizes x_kem_sponge_rate x_kem_sponge_place f_x_kem_sponge_lanes f_x_kem_sponge_moved f_x_kem_sponge_columns f_x_kem_sponge_turns f_x_kem_sponge_targets f_x_kem_sponge_roundConstants f_x_kem_ring_powers f_x_kem_sum f_x_kem_counters f_x_kem_three f_x_kem_noiseBytes f_x_kem_hash f_x_kem_seeds f_z m_x_slots g0_x_shapes g1_x_shapes m_x_kem_matrix m_x_kem_vector = some ((3 : Int32), x.1, x.2.1, x.2.2.1, x.2.2.2.1, x.2.2.2.2.1, x.2.2.2.2.2.1, x.2.2.2.2.2.2.1, x.2.2.2.2.2.2.2.1, x.2.2.2.2.2.2.2.2.1, x.2.2.2.2.2.2.2.2.2.1, x.2.2.2.2.2.2.2.2.2.2.1, x.2.2.2.2.2.2.2.2.2.2.2.1, f_z, x.2.2.2.2.2.2.2.2.2.2.2.2.1, x.2.2.2.2.2.2.2.2.2.2.2.2.2.1, x.2.2.2.2.2.2.2.2.2.2.2.2.2.2) := by
        unfold kFX7_kemKeys
        exact (kb_o_v e1).trans (kz_sR9.trans ((kb_b_ff (decide_eq_false (show ¬ kz_ARE = "java/lang/IllegalArgumentException" by decide))).trans ((kb_b_ff (decide_eq_false (show ¬ kz_ARE = "java/lang/IllegalStateException" by decide))).trans ((kb_b_tt (decide_eq_true (show kz_ARE = "java/lang/ArithmeticException" from rfl))).trans rfl))))
      refine kz_ok_v H ?_
      refine kz_ok_g (kz_li (j := 1) hL hM (by decide) rfl) ?_
      refine kz_ok_v e2 (kz_ok_v (kz_thr _) ?_)
      exact kz_end1 hc (fun hc => absurd hc (show ¬ (3 : Int32) = 0 by decide)) h9
set_option maxHeartbeats 4000000 in
set_option maxRecDepth 100000 in
theorem kz_L_742 {x_tapeSize : Int32} {f_x_sizes : Nat → Int32} {f_x_tape : Nat → Int32} {x_kem_sponge_rate : Int32} {x_kem_sponge_place : Int32} {f_x_kem_sponge_lanes : Nat → Int64} {f_x_kem_sponge_moved : Nat → Int64} {f_x_kem_sponge_columns : Nat → Int64} {f_x_kem_sponge_turns : Nat → Int32} {f_x_kem_sponge_targets : Nat → Int32} {f_x_kem_sponge_roundConstants : Nat → Int64} {f_x_kem_ring_powers : Nat → Int32} {f_x_kem_sum : Nat → Int32} {f_x_kem_term : Nat → Int32} {f_x_kem_counters : Nat → Int32} {f_x_kem_three : Nat → Int32} {f_x_kem_noiseBytes : Nat → Int32} {f_x_kem_hash : Nat → Int32} {f_x_kem_encrypted : Nat → Int32} {f_x_kem_seeds : Nat → Int32} {y_taped : Int32} {y_kind : Int32} {y_rate : Int32} {y_filled : Int32} {y_total : Int64} {y_bitAt : Int32} {y_k : Int32} {y_e1 : Int32} {y_du : Int32} {y_dv : Int32} {f_y_tape : Nat → Int32} {f_y_length : Nat → Int32} {f_y_roots : Nat → Int64} {f_y_cubes : Nat → Int64} {f_y_start224 : Nat → Int64} {f_y_start256 : Nat → Int64} {f_y_turns : Nat → Int32} {f_y_round : Nat → Int64} {f_y_state : Nat → Int64} {f_y_other : Nat → Int64} {f_y_column : Nat → Int64} {f_y_words : Nat → Int64} {f_y_block : Nat → Int32} {f_y_sum : Nat → Int64} {f_y_points : Nat → Int32} {f_y_seed : Nat → Int32} {f_y_noise : Nat → Int32} {f_y_back : Nat → Int32} {f_z : Nat → Int64} {m_x_slots : Nat → Nat → Int32} {g0_x_shapes : Nat → Int32} {g1_x_shapes : Nat → Int32} {g2_x_shapes : Nat → Int32} {g3_x_shapes : Nat → Int32} {m_x_kem_matrix : Nat → Nat → Int32} {m_x_kem_vector : Nat → Nat → Int32} {m_y_slot : Nat → Nat → Int32} {m_y_f : Nat → Nat → Int32} (h : kz_rel x_tapeSize f_x_sizes f_x_tape m_x_slots y_taped f_y_length f_y_tape m_y_slot) (hC : kz_ctab f_x_kem_sponge_turns f_x_kem_sponge_targets f_x_kem_sponge_roundConstants f_x_kem_ring_powers g0_x_shapes g1_x_shapes g2_x_shapes g3_x_shapes) (hR : kz_rtab f_y_turns f_y_round) {L i : Nat} (hL : 6 * i + 6 ≤ L) (hM : L ≤ 3072) (xs : Nat → Int32) : kz_ok (kJX7_law_742 L xs (nI (6 * i)) f_x_sizes x_kem_sponge_rate x_kem_sponge_place f_x_kem_sponge_lanes f_x_kem_sponge_moved f_x_kem_sponge_columns f_x_kem_sponge_turns f_x_kem_sponge_targets f_x_kem_sponge_roundConstants f_x_kem_ring_powers f_x_kem_sum f_x_kem_term f_x_kem_counters f_x_kem_three f_x_kem_noiseBytes f_x_kem_hash f_x_kem_encrypted f_x_kem_seeds y_kind y_rate y_filled y_total y_bitAt y_k y_e1 y_du y_dv f_y_length f_y_roots f_y_cubes f_y_start224 f_y_start256 f_y_turns f_y_round f_y_state f_y_other f_y_column f_y_words f_y_block f_y_sum f_y_points f_y_seed f_y_noise f_y_back f_z m_x_slots g0_x_shapes g1_x_shapes g2_x_shapes g3_x_shapes m_x_kem_matrix m_x_kem_vector m_y_slot m_y_f) (fun o => kz_rel x_tapeSize o.1 f_x_tape o.2.2.2.2.2.2.2.2.2.2.2.2.2.2.2.2.2.2.2.2.2.2.2.2.2.2.2.2.2.2.2.2.2.2.2.2.1 y_taped o.2.2.2.2.2.2.2.2.2.2.2.2.2.2.2.2.2.2.2.2.2.2.2.2.1 f_y_tape o.2.2.2.2.2.2.2.2.2.2.2.2.2.2.2.2.2.2.2.2.2.2.2.2.2.2.2.2.2.2.2.2.2.2.2.2.2.2.2.1) := by
  unfold kJX7_law_742
  refine kz_ok_g (kz_li (j := 1) hL hM (by decide) rfl) ?_
  obtain ⟨o, r, e1, e2, hor⟩ := kz_T_wrap h (lanes := f_x_kem_sponge_lanes) (moved := f_x_kem_sponge_moved) (columns := f_x_kem_sponge_columns) (sum := f_x_kem_sum) (term := f_x_kem_term) (counters := f_x_kem_counters) (three := f_x_kem_three) (nbytes := f_x_kem_noiseBytes) (hash := f_x_kem_hash) (enc := f_x_kem_encrypted) (seeds := f_x_kem_seeds) (M := m_x_kem_matrix) (V := m_x_kem_vector) (rt := x_kem_sponge_rate) (pl := x_kem_sponge_place) hC (roots := f_y_roots) (cubes := f_y_cubes) (s224 := f_y_start224) (s256 := f_y_start256) (state := f_y_state) (other := f_y_other) (column := f_y_column) (words := f_y_words) (sum2 := f_y_sum) (block := f_y_block) (pts := f_y_points) (seed := f_y_seed) (noise := f_y_noise) (back := f_y_back) (F := m_y_f) (kd := y_kind) (rt2 := y_rate) (fl := y_filled) (bt := y_bitAt) (k0 := y_k) (e0 := y_e1) (du0 := y_du) (dv0 := y_dv) (tot := y_total) hR (xs (nI (6 * i) + (1 : Int32)).toNatClampNeg)
  rcases hor with ⟨v, rfl, hc, hv, e3⟩ | ⟨E, x, rfl, q1, q2, q3, q4, hE⟩
  · have H : kFX7_kemWrap (xs (nI (6 * i) + (1 : Int32)).toNatClampNeg) f_x_sizes x_kem_sponge_rate x_kem_sponge_place f_x_kem_sponge_lanes f_x_kem_sponge_moved f_x_kem_sponge_columns f_x_kem_sponge_turns f_x_kem_sponge_targets f_x_kem_sponge_roundConstants f_x_kem_ring_powers f_x_kem_sum f_x_kem_term f_x_kem_counters f_x_kem_three f_x_kem_noiseBytes f_x_kem_hash f_x_kem_encrypted f_x_kem_seeds f_z m_x_slots g0_x_shapes g1_x_shapes g2_x_shapes g3_x_shapes m_x_kem_matrix m_x_kem_vector = some ((0 : Int32), v.2.1, v.2.2.1, v.2.2.2.1, v.2.2.2.2.1, v.2.2.2.2.2.1, v.2.2.2.2.2.2.1, v.2.2.2.2.2.2.2.1, v.2.2.2.2.2.2.2.2.1, v.2.2.2.2.2.2.2.2.2.1, v.2.2.2.2.2.2.2.2.2.2.1, v.2.2.2.2.2.2.2.2.2.2.2.1, v.2.2.2.2.2.2.2.2.2.2.2.2.1, v.2.2.2.2.2.2.2.2.2.2.2.2.2.1, v.2.2.2.2.2.2.2.2.2.2.2.2.2.2.1, vp_updL f_z (0 : Int32).toNatClampNeg (v.1.toInt64), v.2.2.2.2.2.2.2.2.2.2.2.2.2.2.2.1, v.2.2.2.2.2.2.2.2.2.2.2.2.2.2.2.2.1, v.2.2.2.2.2.2.2.2.2.2.2.2.2.2.2.2.2) := by
      unfold kFX7_kemWrap
      exact (kb_o_v e1).trans rfl
    refine kz_ok_v H ?_
    refine kz_ok_g (kz_li (j := 1) hL hM (by decide) rfl) ?_
    refine kz_ok_v e2 (kz_ok_v (kz_thr _) ?_)
    exact kz_end1 hc (fun _ => kz_cmpi hv f_z) e3
  · have h9 : kz_rel x_tapeSize x.1 f_x_tape x.2.2.2.2.2.2.2.2.2.2.2.2.2.2.1 y_taped r.2.2.2.2.2.2.2.2.2.2.2.1 f_y_tape r.2.2.2.2.2.2.2.2.2.2.2.2.2.2.2.2.2.2.2.2.2.2.1 := by
      rw [q1, q2, q3, q4]
      exact h
    rcases hE with ⟨rfl, hc⟩ | ⟨rfl, hc⟩ | ⟨rfl, hc⟩ | ⟨rfl, hc⟩
    · have H : kFX7_kemWrap (xs (nI (6 * i) + (1 : Int32)).toNatClampNeg) f_x_sizes x_kem_sponge_rate x_kem_sponge_place f_x_kem_sponge_lanes f_x_kem_sponge_moved f_x_kem_sponge_columns f_x_kem_sponge_turns f_x_kem_sponge_targets f_x_kem_sponge_roundConstants f_x_kem_ring_powers f_x_kem_sum f_x_kem_term f_x_kem_counters f_x_kem_three f_x_kem_noiseBytes f_x_kem_hash f_x_kem_encrypted f_x_kem_seeds f_z m_x_slots g0_x_shapes g1_x_shapes g2_x_shapes g3_x_shapes m_x_kem_matrix m_x_kem_vector = some ((1 : Int32), x.1, x.2.1, x.2.2.1, x.2.2.2.1, x.2.2.2.2.1, x.2.2.2.2.2.1, x.2.2.2.2.2.2.1, x.2.2.2.2.2.2.2.1, x.2.2.2.2.2.2.2.2.1, x.2.2.2.2.2.2.2.2.2.1, x.2.2.2.2.2.2.2.2.2.2.1, x.2.2.2.2.2.2.2.2.2.2.2.1, x.2.2.2.2.2.2.2.2.2.2.2.2.1, x.2.2.2.2.2.2.2.2.2.2.2.2.2.1, f_z, x.2.2.2.2.2.2.2.2.2.2.2.2.2.2.1, x.2.2.2.2.2.2.2.2.2.2.2.2.2.2.2.1, x.2.2.2.2.2.2.2.2.2.2.2.2.2.2.2.2) := by
        unfold kFX7_kemWrap
        exact (kb_o_v e1).trans (kz_sR9.trans ((kb_b_tt (decide_eq_true (show kz_IAE = "java/lang/IllegalArgumentException" from rfl))).trans rfl))
      refine kz_ok_v H ?_
      refine kz_ok_g (kz_li (j := 1) hL hM (by decide) rfl) ?_
      refine kz_ok_v e2 (kz_ok_v (kz_thr _) ?_)
      exact kz_end1 hc (fun hc => absurd hc (show ¬ (1 : Int32) = 0 by decide)) h9
    · have H : kFX7_kemWrap (xs (nI (6 * i) + (1 : Int32)).toNatClampNeg) f_x_sizes x_kem_sponge_rate x_kem_sponge_place f_x_kem_sponge_lanes f_x_kem_sponge_moved f_x_kem_sponge_columns f_x_kem_sponge_turns f_x_kem_sponge_targets f_x_kem_sponge_roundConstants f_x_kem_ring_powers f_x_kem_sum f_x_kem_term f_x_kem_counters f_x_kem_three f_x_kem_noiseBytes f_x_kem_hash f_x_kem_encrypted f_x_kem_seeds f_z m_x_slots g0_x_shapes g1_x_shapes g2_x_shapes g3_x_shapes m_x_kem_matrix m_x_kem_vector = some ((2 : Int32), x.1, x.2.1, x.2.2.1, x.2.2.2.1, x.2.2.2.2.1, x.2.2.2.2.2.1, x.2.2.2.2.2.2.1, x.2.2.2.2.2.2.2.1, x.2.2.2.2.2.2.2.2.1, x.2.2.2.2.2.2.2.2.2.1, x.2.2.2.2.2.2.2.2.2.2.1, x.2.2.2.2.2.2.2.2.2.2.2.1, x.2.2.2.2.2.2.2.2.2.2.2.2.1, x.2.2.2.2.2.2.2.2.2.2.2.2.2.1, f_z, x.2.2.2.2.2.2.2.2.2.2.2.2.2.2.1, x.2.2.2.2.2.2.2.2.2.2.2.2.2.2.2.1, x.2.2.2.2.2.2.2.2.2.2.2.2.2.2.2.2) := by
        unfold kFX7_kemWrap
        exact (kb_o_v e1).trans (kz_sR9.trans ((kb_b_ff (decide_eq_false (show ¬ kz_ISE = "java/lang/IllegalArgumentException" by decide))).trans ((kb_b_tt (decide_eq_true (show kz_ISE = "java/lang/IllegalStateException" from rfl))).trans rfl)))
      refine kz_ok_v H ?_
      refine kz_ok_g (kz_li (j := 1) hL hM (by decide) rfl) ?_
      refine kz_ok_v e2 (kz_ok_v (kz_thr _) ?_)
      exact kz_end1 hc (fun hc => absurd hc (show ¬ (2 : Int32) = 0 by decide)) h9
    · have H : kFX7_kemWrap (xs (nI (6 * i) + (1 : Int32)).toNatClampNeg) f_x_sizes x_kem_sponge_rate x_kem_sponge_place f_x_kem_sponge_lanes f_x_kem_sponge_moved f_x_kem_sponge_columns f_x_kem_sponge_turns f_x_kem_sponge_targets f_x_kem_sponge_roundConstants f_x_kem_ring_powers f_x_kem_sum f_x_kem_term f_x_kem_counters f_x_kem_three f_x_kem_noiseBytes f_x_kem_hash f_x_kem_encrypted f_x_kem_seeds f_z m_x_slots g0_x_shapes g1_x_shapes g2_x_shapes g3_x_shapes m_x_kem_matrix m_x_kem_vector = some ((3 : Int32), x.1, x.2.1, x.2.2.1, x.2.2.2.1, x.2.2.2.2.1, x.2.2.2.2.2.1, x.2.2.2.2.2.2.1, x.2.2.2.2.2.2.2.1, x.2.2.2.2.2.2.2.2.1, x.2.2.2.2.2.2.2.2.2.1, x.2.2.2.2.2.2.2.2.2.2.1, x.2.2.2.2.2.2.2.2.2.2.2.1, x.2.2.2.2.2.2.2.2.2.2.2.2.1, x.2.2.2.2.2.2.2.2.2.2.2.2.2.1, f_z, x.2.2.2.2.2.2.2.2.2.2.2.2.2.2.1, x.2.2.2.2.2.2.2.2.2.2.2.2.2.2.2.1, x.2.2.2.2.2.2.2.2.2.2.2.2.2.2.2.2) := by
        unfold kFX7_kemWrap
        exact (kb_o_v e1).trans (kz_sR9.trans ((kb_b_ff (decide_eq_false (show ¬ kz_UOE = "java/lang/IllegalArgumentException" by decide))).trans ((kb_b_ff (decide_eq_false (show ¬ kz_UOE = "java/lang/IllegalStateException" by decide))).trans ((kb_b_tt (decide_eq_true (show kz_UOE = "java/lang/UnsupportedOperationException" from rfl))).trans rfl))))
      refine kz_ok_v H ?_
      refine kz_ok_g (kz_li (j := 1) hL hM (by decide) rfl) ?_
      refine kz_ok_v e2 (kz_ok_v (kz_thr _) ?_)
      exact kz_end1 hc (fun hc => absurd hc (show ¬ (3 : Int32) = 0 by decide)) h9
    · have H : kFX7_kemWrap (xs (nI (6 * i) + (1 : Int32)).toNatClampNeg) f_x_sizes x_kem_sponge_rate x_kem_sponge_place f_x_kem_sponge_lanes f_x_kem_sponge_moved f_x_kem_sponge_columns f_x_kem_sponge_turns f_x_kem_sponge_targets f_x_kem_sponge_roundConstants f_x_kem_ring_powers f_x_kem_sum f_x_kem_term f_x_kem_counters f_x_kem_three f_x_kem_noiseBytes f_x_kem_hash f_x_kem_encrypted f_x_kem_seeds f_z m_x_slots g0_x_shapes g1_x_shapes g2_x_shapes g3_x_shapes m_x_kem_matrix m_x_kem_vector = some ((4 : Int32), x.1, x.2.1, x.2.2.1, x.2.2.2.1, x.2.2.2.2.1, x.2.2.2.2.2.1, x.2.2.2.2.2.2.1, x.2.2.2.2.2.2.2.1, x.2.2.2.2.2.2.2.2.1, x.2.2.2.2.2.2.2.2.2.1, x.2.2.2.2.2.2.2.2.2.2.1, x.2.2.2.2.2.2.2.2.2.2.2.1, x.2.2.2.2.2.2.2.2.2.2.2.2.1, x.2.2.2.2.2.2.2.2.2.2.2.2.2.1, f_z, x.2.2.2.2.2.2.2.2.2.2.2.2.2.2.1, x.2.2.2.2.2.2.2.2.2.2.2.2.2.2.2.1, x.2.2.2.2.2.2.2.2.2.2.2.2.2.2.2.2) := by
        unfold kFX7_kemWrap
        exact (kb_o_v e1).trans (kz_sR9.trans ((kb_b_ff (decide_eq_false (show ¬ kz_ARE = "java/lang/IllegalArgumentException" by decide))).trans ((kb_b_ff (decide_eq_false (show ¬ kz_ARE = "java/lang/IllegalStateException" by decide))).trans ((kb_b_ff (decide_eq_false (show ¬ kz_ARE = "java/lang/UnsupportedOperationException" by decide))).trans ((kb_b_tt (decide_eq_true (show kz_ARE = "java/lang/ArithmeticException" from rfl))).trans rfl)))))
      refine kz_ok_v H ?_
      refine kz_ok_g (kz_li (j := 1) hL hM (by decide) rfl) ?_
      refine kz_ok_v e2 (kz_ok_v (kz_thr _) ?_)
      exact kz_end1 hc (fun hc => absurd hc (show ¬ (4 : Int32) = 0 by decide)) h9
set_option maxHeartbeats 4000000 in
set_option maxRecDepth 100000 in
theorem kz_L_798 {x_tapeSize : Int32} {f_x_sizes : Nat → Int32} {f_x_tape : Nat → Int32} {x_kem_sponge_rate : Int32} {x_kem_sponge_place : Int32} {f_x_kem_sponge_lanes : Nat → Int64} {f_x_kem_sponge_moved : Nat → Int64} {f_x_kem_sponge_columns : Nat → Int64} {f_x_kem_sponge_turns : Nat → Int32} {f_x_kem_sponge_targets : Nat → Int32} {f_x_kem_sponge_roundConstants : Nat → Int64} {f_x_kem_ring_powers : Nat → Int32} {f_x_kem_sum : Nat → Int32} {f_x_kem_term : Nat → Int32} {f_x_kem_counters : Nat → Int32} {f_x_kem_three : Nat → Int32} {f_x_kem_noiseBytes : Nat → Int32} {f_x_kem_hash : Nat → Int32} {f_x_kem_message : Nat → Int32} {f_x_kem_encrypted : Nat → Int32} {f_x_kem_seeds : Nat → Int32} {y_taped : Int32} {y_kind : Int32} {y_rate : Int32} {y_filled : Int32} {y_total : Int64} {y_bitAt : Int32} {y_k : Int32} {y_e1 : Int32} {y_du : Int32} {y_dv : Int32} {f_y_tape : Nat → Int32} {f_y_length : Nat → Int32} {f_y_roots : Nat → Int64} {f_y_cubes : Nat → Int64} {f_y_start224 : Nat → Int64} {f_y_start256 : Nat → Int64} {f_y_turns : Nat → Int32} {f_y_round : Nat → Int64} {f_y_state : Nat → Int64} {f_y_other : Nat → Int64} {f_y_column : Nat → Int64} {f_y_words : Nat → Int64} {f_y_block : Nat → Int32} {f_y_sum : Nat → Int64} {f_y_points : Nat → Int32} {f_y_seed : Nat → Int32} {f_y_noise : Nat → Int32} {f_y_back : Nat → Int32} {f_y_message : Nat → Int32} {f_z : Nat → Int64} {m_x_slots : Nat → Nat → Int32} {g0_x_shapes : Nat → Int32} {g1_x_shapes : Nat → Int32} {g2_x_shapes : Nat → Int32} {g3_x_shapes : Nat → Int32} {m_x_kem_matrix : Nat → Nat → Int32} {m_x_kem_vector : Nat → Nat → Int32} {m_y_slot : Nat → Nat → Int32} {m_y_f : Nat → Nat → Int32} (h : kz_rel x_tapeSize f_x_sizes f_x_tape m_x_slots y_taped f_y_length f_y_tape m_y_slot) (hC : kz_ctab f_x_kem_sponge_turns f_x_kem_sponge_targets f_x_kem_sponge_roundConstants f_x_kem_ring_powers g0_x_shapes g1_x_shapes g2_x_shapes g3_x_shapes) (hR : kz_rtab f_y_turns f_y_round) {L i : Nat} (hL : 6 * i + 6 ≤ L) (hM : L ≤ 3072) (xs : Nat → Int32) : kz_ok (kJX7_law_798 L xs (nI (6 * i)) f_x_sizes x_kem_sponge_rate x_kem_sponge_place f_x_kem_sponge_lanes f_x_kem_sponge_moved f_x_kem_sponge_columns f_x_kem_sponge_turns f_x_kem_sponge_targets f_x_kem_sponge_roundConstants f_x_kem_ring_powers f_x_kem_sum f_x_kem_term f_x_kem_counters f_x_kem_three f_x_kem_noiseBytes f_x_kem_hash f_x_kem_message f_x_kem_encrypted f_x_kem_seeds y_kind y_rate y_filled y_total y_bitAt y_k y_e1 y_du y_dv f_y_length f_y_roots f_y_cubes f_y_start224 f_y_start256 f_y_turns f_y_round f_y_state f_y_other f_y_column f_y_words f_y_block f_y_sum f_y_points f_y_seed f_y_noise f_y_back f_y_message f_z m_x_slots g0_x_shapes g1_x_shapes g2_x_shapes g3_x_shapes m_x_kem_matrix m_x_kem_vector m_y_slot m_y_f) (fun o => kz_rel x_tapeSize o.1 f_x_tape o.2.2.2.2.2.2.2.2.2.2.2.2.2.2.2.2.2.2.2.2.2.2.2.2.2.2.2.2.2.2.2.2.2.2.2.2.2.2.1 y_taped o.2.2.2.2.2.2.2.2.2.2.2.2.2.2.2.2.2.2.2.2.2.2.2.2.2.1 f_y_tape o.2.2.2.2.2.2.2.2.2.2.2.2.2.2.2.2.2.2.2.2.2.2.2.2.2.2.2.2.2.2.2.2.2.2.2.2.2.2.2.2.2.1) := by
  unfold kJX7_law_798
  refine kz_ok_g (kz_li (j := 1) hL hM (by decide) rfl) ?_
  obtain ⟨o, r, e1, e2, hor⟩ := kz_T_open h (lanes := f_x_kem_sponge_lanes) (moved := f_x_kem_sponge_moved) (columns := f_x_kem_sponge_columns) (sum := f_x_kem_sum) (term := f_x_kem_term) (counters := f_x_kem_counters) (three := f_x_kem_three) (nbytes := f_x_kem_noiseBytes) (hash := f_x_kem_hash) (msg := f_x_kem_message) (enc := f_x_kem_encrypted) (seeds := f_x_kem_seeds) (M := m_x_kem_matrix) (V := m_x_kem_vector) (rt := x_kem_sponge_rate) (pl := x_kem_sponge_place) hC (roots := f_y_roots) (cubes := f_y_cubes) (s224 := f_y_start224) (s256 := f_y_start256) (state := f_y_state) (other := f_y_other) (column := f_y_column) (words := f_y_words) (sum2 := f_y_sum) (block := f_y_block) (pts := f_y_points) (seed := f_y_seed) (noise := f_y_noise) (back := f_y_back) (msg2 := f_y_message) (F := m_y_f) (kd := y_kind) (rt2 := y_rate) (fl := y_filled) (bt := y_bitAt) (k0 := y_k) (e0 := y_e1) (du0 := y_du) (dv0 := y_dv) (tot := y_total) hR (xs (nI (6 * i) + (1 : Int32)).toNatClampNeg)
  rcases hor with ⟨v, rfl, hc, hv, e3⟩ | ⟨E, x, rfl, q1, q2, q3, q4, hE⟩
  · have H : kFX7_kemOpen (xs (nI (6 * i) + (1 : Int32)).toNatClampNeg) f_x_sizes x_kem_sponge_rate x_kem_sponge_place f_x_kem_sponge_lanes f_x_kem_sponge_moved f_x_kem_sponge_columns f_x_kem_sponge_turns f_x_kem_sponge_targets f_x_kem_sponge_roundConstants f_x_kem_ring_powers f_x_kem_sum f_x_kem_term f_x_kem_counters f_x_kem_three f_x_kem_noiseBytes f_x_kem_hash f_x_kem_message f_x_kem_encrypted f_x_kem_seeds f_z m_x_slots g0_x_shapes g1_x_shapes g2_x_shapes g3_x_shapes m_x_kem_matrix m_x_kem_vector = some ((0 : Int32), v.2.1, v.2.2.1, v.2.2.2.1, v.2.2.2.2.1, v.2.2.2.2.2.1, v.2.2.2.2.2.2.1, v.2.2.2.2.2.2.2.1, v.2.2.2.2.2.2.2.2.1, v.2.2.2.2.2.2.2.2.2.1, v.2.2.2.2.2.2.2.2.2.2.1, v.2.2.2.2.2.2.2.2.2.2.2.1, v.2.2.2.2.2.2.2.2.2.2.2.2.1, v.2.2.2.2.2.2.2.2.2.2.2.2.2.1, v.2.2.2.2.2.2.2.2.2.2.2.2.2.2.1, v.2.2.2.2.2.2.2.2.2.2.2.2.2.2.2.1, vp_updL f_z (0 : Int32).toNatClampNeg (v.1.toInt64), v.2.2.2.2.2.2.2.2.2.2.2.2.2.2.2.2.1, v.2.2.2.2.2.2.2.2.2.2.2.2.2.2.2.2.2.1, v.2.2.2.2.2.2.2.2.2.2.2.2.2.2.2.2.2.2) := by
      unfold kFX7_kemOpen
      exact (kb_o_v e1).trans rfl
    refine kz_ok_v H ?_
    refine kz_ok_g (kz_li (j := 1) hL hM (by decide) rfl) ?_
    refine kz_ok_v e2 (kz_ok_v (kz_thr _) ?_)
    exact kz_end1 hc (fun _ => kz_cmpi hv f_z) e3
  · have h9 : kz_rel x_tapeSize x.1 f_x_tape x.2.2.2.2.2.2.2.2.2.2.2.2.2.2.2.1 y_taped r.2.2.2.2.2.2.2.2.2.2.2.1 f_y_tape r.2.2.2.2.2.2.2.2.2.2.2.2.2.2.2.2.2.2.2.2.2.2.2.1 := by
      rw [q1, q2, q3, q4]
      exact h
    rcases hE with ⟨rfl, hc⟩ | ⟨rfl, hc⟩ | ⟨rfl, hc⟩
    · have H : kFX7_kemOpen (xs (nI (6 * i) + (1 : Int32)).toNatClampNeg) f_x_sizes x_kem_sponge_rate x_kem_sponge_place f_x_kem_sponge_lanes f_x_kem_sponge_moved f_x_kem_sponge_columns f_x_kem_sponge_turns f_x_kem_sponge_targets f_x_kem_sponge_roundConstants f_x_kem_ring_powers f_x_kem_sum f_x_kem_term f_x_kem_counters f_x_kem_three f_x_kem_noiseBytes f_x_kem_hash f_x_kem_message f_x_kem_encrypted f_x_kem_seeds f_z m_x_slots g0_x_shapes g1_x_shapes g2_x_shapes g3_x_shapes m_x_kem_matrix m_x_kem_vector = some ((1 : Int32), x.1, x.2.1, x.2.2.1, x.2.2.2.1, x.2.2.2.2.1, x.2.2.2.2.2.1, x.2.2.2.2.2.2.1, x.2.2.2.2.2.2.2.1, x.2.2.2.2.2.2.2.2.1, x.2.2.2.2.2.2.2.2.2.1, x.2.2.2.2.2.2.2.2.2.2.1, x.2.2.2.2.2.2.2.2.2.2.2.1, x.2.2.2.2.2.2.2.2.2.2.2.2.1, x.2.2.2.2.2.2.2.2.2.2.2.2.2.1, x.2.2.2.2.2.2.2.2.2.2.2.2.2.2.1, f_z, x.2.2.2.2.2.2.2.2.2.2.2.2.2.2.2.1, x.2.2.2.2.2.2.2.2.2.2.2.2.2.2.2.2.1, x.2.2.2.2.2.2.2.2.2.2.2.2.2.2.2.2.2) := by
        unfold kFX7_kemOpen
        exact (kb_o_v e1).trans (kz_sR9.trans ((kb_b_tt (decide_eq_true (show kz_IAE = "java/lang/IllegalArgumentException" from rfl))).trans rfl))
      refine kz_ok_v H ?_
      refine kz_ok_g (kz_li (j := 1) hL hM (by decide) rfl) ?_
      refine kz_ok_v e2 (kz_ok_v (kz_thr _) ?_)
      exact kz_end1 hc (fun hc => absurd hc (show ¬ (1 : Int32) = 0 by decide)) h9
    · have H : kFX7_kemOpen (xs (nI (6 * i) + (1 : Int32)).toNatClampNeg) f_x_sizes x_kem_sponge_rate x_kem_sponge_place f_x_kem_sponge_lanes f_x_kem_sponge_moved f_x_kem_sponge_columns f_x_kem_sponge_turns f_x_kem_sponge_targets f_x_kem_sponge_roundConstants f_x_kem_ring_powers f_x_kem_sum f_x_kem_term f_x_kem_counters f_x_kem_three f_x_kem_noiseBytes f_x_kem_hash f_x_kem_message f_x_kem_encrypted f_x_kem_seeds f_z m_x_slots g0_x_shapes g1_x_shapes g2_x_shapes g3_x_shapes m_x_kem_matrix m_x_kem_vector = some ((2 : Int32), x.1, x.2.1, x.2.2.1, x.2.2.2.1, x.2.2.2.2.1, x.2.2.2.2.2.1, x.2.2.2.2.2.2.1, x.2.2.2.2.2.2.2.1, x.2.2.2.2.2.2.2.2.1, x.2.2.2.2.2.2.2.2.2.1, x.2.2.2.2.2.2.2.2.2.2.1, x.2.2.2.2.2.2.2.2.2.2.2.1, x.2.2.2.2.2.2.2.2.2.2.2.2.1, x.2.2.2.2.2.2.2.2.2.2.2.2.2.1, x.2.2.2.2.2.2.2.2.2.2.2.2.2.2.1, f_z, x.2.2.2.2.2.2.2.2.2.2.2.2.2.2.2.1, x.2.2.2.2.2.2.2.2.2.2.2.2.2.2.2.2.1, x.2.2.2.2.2.2.2.2.2.2.2.2.2.2.2.2.2) := by
        unfold kFX7_kemOpen
        exact (kb_o_v e1).trans (kz_sR9.trans ((kb_b_ff (decide_eq_false (show ¬ kz_UOE = "java/lang/IllegalArgumentException" by decide))).trans ((kb_b_tt (decide_eq_true (show kz_UOE = "java/lang/UnsupportedOperationException" from rfl))).trans rfl)))
      refine kz_ok_v H ?_
      refine kz_ok_g (kz_li (j := 1) hL hM (by decide) rfl) ?_
      refine kz_ok_v e2 (kz_ok_v (kz_thr _) ?_)
      exact kz_end1 hc (fun hc => absurd hc (show ¬ (2 : Int32) = 0 by decide)) h9
    · have H : kFX7_kemOpen (xs (nI (6 * i) + (1 : Int32)).toNatClampNeg) f_x_sizes x_kem_sponge_rate x_kem_sponge_place f_x_kem_sponge_lanes f_x_kem_sponge_moved f_x_kem_sponge_columns f_x_kem_sponge_turns f_x_kem_sponge_targets f_x_kem_sponge_roundConstants f_x_kem_ring_powers f_x_kem_sum f_x_kem_term f_x_kem_counters f_x_kem_three f_x_kem_noiseBytes f_x_kem_hash f_x_kem_message f_x_kem_encrypted f_x_kem_seeds f_z m_x_slots g0_x_shapes g1_x_shapes g2_x_shapes g3_x_shapes m_x_kem_matrix m_x_kem_vector = some ((3 : Int32), x.1, x.2.1, x.2.2.1, x.2.2.2.1, x.2.2.2.2.1, x.2.2.2.2.2.1, x.2.2.2.2.2.2.1, x.2.2.2.2.2.2.2.1, x.2.2.2.2.2.2.2.2.1, x.2.2.2.2.2.2.2.2.2.1, x.2.2.2.2.2.2.2.2.2.2.1, x.2.2.2.2.2.2.2.2.2.2.2.1, x.2.2.2.2.2.2.2.2.2.2.2.2.1, x.2.2.2.2.2.2.2.2.2.2.2.2.2.1, x.2.2.2.2.2.2.2.2.2.2.2.2.2.2.1, f_z, x.2.2.2.2.2.2.2.2.2.2.2.2.2.2.2.1, x.2.2.2.2.2.2.2.2.2.2.2.2.2.2.2.2.1, x.2.2.2.2.2.2.2.2.2.2.2.2.2.2.2.2.2) := by
        unfold kFX7_kemOpen
        exact (kb_o_v e1).trans (kz_sR9.trans ((kb_b_ff (decide_eq_false (show ¬ kz_ARE = "java/lang/IllegalArgumentException" by decide))).trans ((kb_b_ff (decide_eq_false (show ¬ kz_ARE = "java/lang/UnsupportedOperationException" by decide))).trans ((kb_b_tt (decide_eq_true (show kz_ARE = "java/lang/ArithmeticException" from rfl))).trans rfl))))
      refine kz_ok_v H ?_
      refine kz_ok_g (kz_li (j := 1) hL hM (by decide) rfl) ?_
      refine kz_ok_v e2 (kz_ok_v (kz_thr _) ?_)
      exact kz_end1 hc (fun hc => absurd hc (show ¬ (3 : Int32) = 0 by decide)) h9
theorem kz_lc {L i : Nat} (hM : L ≤ 3072) (hi : 6 * i ≤ L) : decide (Int32.ofNat L - (6 : Int32) < nI (6 * i)) = decide (L < 6 * i + 6) := by
  by_cases h : 6 ≤ L
  · have e : Int32.ofNat L - (6 : Int32) = nI (L - 6) := pk_sub (b := 6) h
    rw [e]
    have key := nI_ltI (a := L - 6) (b := 6 * i) (by omega) (by omega)
    by_cases h2 : L < 6 * i + 6
    · rw [decide_eq_true h2]
      exact decide_eq_true (key.mpr (by omega))
    · rw [decide_eq_false h2]
      exact decide_eq_false (fun q => h2 (by have := key.mp q; omega))
  · obtain rfl : i = 0 := by omega
    have h2 : L = 0 ∨ L = 1 ∨ L = 2 ∨ L = 3 ∨ L = 4 ∨ L = 5 := by omega
    rcases h2 with rfl | rfl | rfl | rfl | rfl | rfl <;> decide
theorem kz_x6 (i : Nat) : nI (6 * i) + Int32.ofInt 6 = nI (6 * (i + 1)) := nI_add (6 * i) 6
set_option maxHeartbeats 4000000 in
set_option maxRecDepth 100000 in
theorem kz_round {f_x_kem_sponge_turns : Nat → Int32} {f_x_kem_sponge_targets : Nat → Int32} {f_x_kem_sponge_roundConstants : Nat → Int64} {f_x_kem_ring_powers : Nat → Int32} {f_y_roots : Nat → Int64} {f_y_cubes : Nat → Int64} {f_y_start224 : Nat → Int64} {f_y_start256 : Nat → Int64} {f_y_turns : Nat → Int32} {f_y_round : Nat → Int64} {g0_x_shapes : Nat → Int32} {g1_x_shapes : Nat → Int32} {g2_x_shapes : Nat → Int32} {g3_x_shapes : Nat → Int32} {x_tapeSize : Int32} {f_x_sizes : Nat → Int32} {f_x_tape : Nat → Int32} {x_kem_sponge_place : Int32} {x_kem_sponge_rate : Int32} {f_x_kem_sponge_lanes : Nat → Int64} {f_x_kem_sponge_moved : Nat → Int64} {f_x_kem_sponge_columns : Nat → Int64} {f_x_kem_sum : Nat → Int32} {f_x_kem_term : Nat → Int32} {f_x_kem_counters : Nat → Int32} {f_x_kem_three : Nat → Int32} {f_x_kem_noiseBytes : Nat → Int32} {f_x_kem_hash : Nat → Int32} {f_x_kem_message : Nat → Int32} {f_x_kem_encrypted : Nat → Int32} {f_x_kem_seeds : Nat → Int32} {y_bitAt : Int32} {y_code : Int32} {y_du : Int32} {y_dv : Int32} {y_e1 : Int32} {y_filled : Int32} {y_k : Int32} {y_kind : Int32} {y_rate : Int32} {y_taped : Int32} {y_total : Int64} {f_y_tape : Nat → Int32} {f_y_length : Nat → Int32} {f_y_state : Nat → Int64} {f_y_other : Nat → Int64} {f_y_column : Nat → Int64} {f_y_words : Nat → Int64} {f_y_block : Nat → Int32} {f_y_sum : Nat → Int64} {f_y_points : Nat → Int32} {f_y_seed : Nat → Int32} {f_y_noise : Nat → Int32} {f_y_packet : Nat → Int32} {f_y_back : Nat → Int32} {f_y_message : Nat → Int32} {f_z : Nat → Int64} {m_x_slots : Nat → Nat → Int32} {m_x_kem_matrix : Nat → Nat → Int32} {m_x_kem_vector : Nat → Nat → Int32} {m_y_slot : Nat → Nat → Int32} {m_y_f : Nat → Nat → Int32} (hC : kz_ctab f_x_kem_sponge_turns f_x_kem_sponge_targets f_x_kem_sponge_roundConstants f_x_kem_ring_powers g0_x_shapes g1_x_shapes g2_x_shapes g3_x_shapes) (hR : kz_rtab f_y_turns f_y_round) (h : kz_rel x_tapeSize f_x_sizes f_x_tape m_x_slots y_taped f_y_length f_y_tape m_y_slot) {L i : Nat} (hM : L ≤ 3072) (xs : Nat → Int32) (hL : 6 * i + 6 ≤ L) : kz_ok (kSX7_law_23 L xs f_x_kem_sponge_turns f_x_kem_sponge_targets f_x_kem_sponge_roundConstants f_x_kem_ring_powers f_y_roots f_y_cubes f_y_start224 f_y_start256 f_y_turns f_y_round g0_x_shapes g1_x_shapes g2_x_shapes g3_x_shapes (nI (6 * i)) x_tapeSize f_x_sizes f_x_tape x_kem_sponge_place x_kem_sponge_rate f_x_kem_sponge_lanes f_x_kem_sponge_moved f_x_kem_sponge_columns f_x_kem_sum f_x_kem_term f_x_kem_counters f_x_kem_three f_x_kem_noiseBytes f_x_kem_hash f_x_kem_message f_x_kem_encrypted f_x_kem_seeds y_bitAt y_code y_du y_dv y_e1 y_filled y_k y_kind y_rate y_taped y_total f_y_tape f_y_length f_y_state f_y_other f_y_column f_y_words f_y_block f_y_sum f_y_points f_y_seed f_y_noise f_y_packet f_y_back f_y_message f_z m_x_slots m_x_kem_matrix m_x_kem_vector m_y_slot m_y_f) (fun o => ∃ s', o = .inl s' ∧ s'.1 = nI (6 * (i + 1)) ∧ kz_rel s'.2.1 s'.2.2.1 s'.2.2.2.1 s'.2.2.2.2.2.2.2.2.2.2.2.2.2.2.2.2.2.2.2.2.2.2.2.2.2.2.2.2.2.2.2.2.2.2.2.2.2.2.2.2.2.2.2.2.1 s'.2.2.2.2.2.2.2.2.2.2.2.2.2.2.2.2.2.2.2.2.2.2.2.2.2.2.2.1 s'.2.2.2.2.2.2.2.2.2.2.2.2.2.2.2.2.2.2.2.2.2.2.2.2.2.2.2.2.2.2.1 s'.2.2.2.2.2.2.2.2.2.2.2.2.2.2.2.2.2.2.2.2.2.2.2.2.2.2.2.2.2.1 s'.2.2.2.2.2.2.2.2.2.2.2.2.2.2.2.2.2.2.2.2.2.2.2.2.2.2.2.2.2.2.2.2.2.2.2.2.2.2.2.2.2.2.2.2.2.2.2.1) := by
  unfold kSX7_law_23
  refine kz_ok_f ((kz_lc hM (by omega)).trans (decide_eq_false (by omega))) ?_
  refine kz_ok_g (kb_in_n (by omega) (by omega)) ?_
  refine kz_ok_b (kz_ok_o (kz_L_100 h hL hM xs) (fun o ho => kz_ok_n (kz_ok_s ⟨_, rfl, kz_x6 i, ho⟩))) ?_
  refine kz_ok_b (kz_ok_o (kz_L_204 h hL hM xs) (fun o ho => kz_ok_n (kz_ok_s ⟨_, rfl, kz_x6 i, ho⟩))) ?_
  refine kz_ok_b (kz_ok_o (kz_L_272 h hL hM xs) (fun o ho => kz_ok_n (kz_ok_s ⟨_, rfl, kz_x6 i, ho⟩))) ?_
  refine kz_ok_b (kz_ok_o (kz_L_340 h hL hM xs) (fun o ho => kz_ok_n (kz_ok_s ⟨_, rfl, kz_x6 i, ho⟩))) ?_
  refine kz_ok_b (kz_ok_o (kz_L_408 h hL hM xs) (fun o ho => kz_ok_n (kz_ok_s ⟨_, rfl, kz_x6 i, ho⟩))) ?_
  refine kz_ok_b (kz_ok_o (kz_L_488 h hL hM xs) (fun o ho => kz_ok_n (kz_ok_s ⟨_, rfl, kz_x6 i, ho⟩))) ?_
  refine kz_ok_b (kz_ok_o (kz_L_544 h hL hM xs) (fun o ho => kz_ok_n (kz_ok_s ⟨_, rfl, kz_x6 i, ho⟩))) ?_
  refine kz_ok_b (kz_ok_o (kz_L_611 h hL hM xs) (fun o ho => kz_ok_n (kz_ok_s ⟨_, rfl, kz_x6 i, ho⟩))) ?_
  refine kz_ok_b (kz_ok_o (kz_L_686 h hC hR hL hM xs) (fun o ho => kz_ok_n (kz_ok_s ⟨_, rfl, kz_x6 i, ho⟩))) ?_
  refine kz_ok_b (kz_ok_o (kz_L_742 h hC hR hL hM xs) (fun o ho => kz_ok_n (kz_ok_s ⟨_, rfl, kz_x6 i, ho⟩))) ?_
  refine kz_ok_b (kz_ok_o (kz_L_798 h hC hR hL hM xs) (fun o ho => kz_ok_n (kz_ok_s ⟨_, rfl, kz_x6 i, ho⟩))) ?_
  exact kz_ok_n (kz_ok_s ⟨_, rfl, kz_x6 i, h⟩)
set_option maxHeartbeats 4000000 in
set_option maxRecDepth 100000 in
theorem kz_round_x {f_x_kem_sponge_turns : Nat → Int32} {f_x_kem_sponge_targets : Nat → Int32} {f_x_kem_sponge_roundConstants : Nat → Int64} {f_x_kem_ring_powers : Nat → Int32} {f_y_roots : Nat → Int64} {f_y_cubes : Nat → Int64} {f_y_start224 : Nat → Int64} {f_y_start256 : Nat → Int64} {f_y_turns : Nat → Int32} {f_y_round : Nat → Int64} {g0_x_shapes : Nat → Int32} {g1_x_shapes : Nat → Int32} {g2_x_shapes : Nat → Int32} {g3_x_shapes : Nat → Int32} {x_tapeSize : Int32} {f_x_sizes : Nat → Int32} {f_x_tape : Nat → Int32} {x_kem_sponge_place : Int32} {x_kem_sponge_rate : Int32} {f_x_kem_sponge_lanes : Nat → Int64} {f_x_kem_sponge_moved : Nat → Int64} {f_x_kem_sponge_columns : Nat → Int64} {f_x_kem_sum : Nat → Int32} {f_x_kem_term : Nat → Int32} {f_x_kem_counters : Nat → Int32} {f_x_kem_three : Nat → Int32} {f_x_kem_noiseBytes : Nat → Int32} {f_x_kem_hash : Nat → Int32} {f_x_kem_message : Nat → Int32} {f_x_kem_encrypted : Nat → Int32} {f_x_kem_seeds : Nat → Int32} {y_bitAt : Int32} {y_code : Int32} {y_du : Int32} {y_dv : Int32} {y_e1 : Int32} {y_filled : Int32} {y_k : Int32} {y_kind : Int32} {y_rate : Int32} {y_taped : Int32} {y_total : Int64} {f_y_tape : Nat → Int32} {f_y_length : Nat → Int32} {f_y_state : Nat → Int64} {f_y_other : Nat → Int64} {f_y_column : Nat → Int64} {f_y_words : Nat → Int64} {f_y_block : Nat → Int32} {f_y_sum : Nat → Int64} {f_y_points : Nat → Int32} {f_y_seed : Nat → Int32} {f_y_noise : Nat → Int32} {f_y_packet : Nat → Int32} {f_y_back : Nat → Int32} {f_y_message : Nat → Int32} {f_z : Nat → Int64} {m_x_slots : Nat → Nat → Int32} {m_x_kem_matrix : Nat → Nat → Int32} {m_x_kem_vector : Nat → Nat → Int32} {m_y_slot : Nat → Nat → Int32} {m_y_f : Nat → Nat → Int32} {L i : Nat} (hM : L ≤ 3072) (xs : Nat → Int32) (hi : 6 * i ≤ L) (hL : L < 6 * i + 6) : kz_ok (kSX7_law_23 L xs f_x_kem_sponge_turns f_x_kem_sponge_targets f_x_kem_sponge_roundConstants f_x_kem_ring_powers f_y_roots f_y_cubes f_y_start224 f_y_start256 f_y_turns f_y_round g0_x_shapes g1_x_shapes g2_x_shapes g3_x_shapes (nI (6 * i)) x_tapeSize f_x_sizes f_x_tape x_kem_sponge_place x_kem_sponge_rate f_x_kem_sponge_lanes f_x_kem_sponge_moved f_x_kem_sponge_columns f_x_kem_sum f_x_kem_term f_x_kem_counters f_x_kem_three f_x_kem_noiseBytes f_x_kem_hash f_x_kem_message f_x_kem_encrypted f_x_kem_seeds y_bitAt y_code y_du y_dv y_e1 y_filled y_k y_kind y_rate y_taped y_total f_y_tape f_y_length f_y_state f_y_other f_y_column f_y_words f_y_block f_y_sum f_y_points f_y_seed f_y_noise f_y_packet f_y_back f_y_message f_z m_x_slots m_x_kem_matrix m_x_kem_vector m_y_slot m_y_f) (fun o => ∃ r, o = .inr r) := by
  unfold kSX7_law_23
  refine kz_ok_t ((kz_lc hM hi).trans (decide_eq_true hL)) ?_
  exact kz_ok_s ⟨_, rfl⟩
set_option maxHeartbeats 4000000 in
set_option maxRecDepth 100000 in
theorem kz_law {f_x_kem_sponge_turns : Nat → Int32} {f_x_kem_sponge_targets : Nat → Int32} {f_x_kem_sponge_roundConstants : Nat → Int64} {f_x_kem_ring_powers : Nat → Int32} {f_y_roots : Nat → Int64} {f_y_cubes : Nat → Int64} {f_y_start224 : Nat → Int64} {f_y_start256 : Nat → Int64} {f_y_turns : Nat → Int32} {f_y_round : Nat → Int64} {g0_x_shapes : Nat → Int32} {g1_x_shapes : Nat → Int32} {g2_x_shapes : Nat → Int32} {g3_x_shapes : Nat → Int32} {x_tapeSize : Int32} {f_x_sizes : Nat → Int32} {f_x_tape : Nat → Int32} {x_kem_sponge_place : Int32} {x_kem_sponge_rate : Int32} {f_x_kem_sponge_lanes : Nat → Int64} {f_x_kem_sponge_moved : Nat → Int64} {f_x_kem_sponge_columns : Nat → Int64} {f_x_kem_sum : Nat → Int32} {f_x_kem_term : Nat → Int32} {f_x_kem_counters : Nat → Int32} {f_x_kem_three : Nat → Int32} {f_x_kem_noiseBytes : Nat → Int32} {f_x_kem_hash : Nat → Int32} {f_x_kem_message : Nat → Int32} {f_x_kem_encrypted : Nat → Int32} {f_x_kem_seeds : Nat → Int32} {y_bitAt : Int32} {y_code : Int32} {y_du : Int32} {y_dv : Int32} {y_e1 : Int32} {y_filled : Int32} {y_k : Int32} {y_kind : Int32} {y_rate : Int32} {y_taped : Int32} {y_total : Int64} {f_y_tape : Nat → Int32} {f_y_length : Nat → Int32} {f_y_state : Nat → Int64} {f_y_other : Nat → Int64} {f_y_column : Nat → Int64} {f_y_words : Nat → Int64} {f_y_block : Nat → Int32} {f_y_sum : Nat → Int64} {f_y_points : Nat → Int32} {f_y_seed : Nat → Int32} {f_y_noise : Nat → Int32} {f_y_packet : Nat → Int32} {f_y_back : Nat → Int32} {f_y_message : Nat → Int32} {f_z : Nat → Int64} {m_x_slots : Nat → Nat → Int32} {m_x_kem_matrix : Nat → Nat → Int32} {m_x_kem_vector : Nat → Nat → Int32} {m_y_slot : Nat → Nat → Int32} {m_y_f : Nat → Nat → Int32} (hC : kz_ctab f_x_kem_sponge_turns f_x_kem_sponge_targets f_x_kem_sponge_roundConstants f_x_kem_ring_powers g0_x_shapes g1_x_shapes g2_x_shapes g3_x_shapes) (hR : kz_rtab f_y_turns f_y_round) (h : kz_rel x_tapeSize f_x_sizes f_x_tape m_x_slots y_taped f_y_length f_y_tape m_y_slot) {L : Nat} (hM : L ≤ 3072) (xs : Nat → Int32) : ∃ r, kb_w (fun u : Int32 × Int32 × (Nat → Int32) × (Nat → Int32) × Int32 × Int32 × (Nat → Int64) × (Nat → Int64) × (Nat → Int64) × (Nat → Int32) × (Nat → Int32) × (Nat → Int32) × (Nat → Int32) × (Nat → Int32) × (Nat → Int32) × (Nat → Int32) × (Nat → Int32) × (Nat → Int32) × Int32 × Int32 × Int32 × Int32 × Int32 × Int32 × Int32 × Int32 × Int32 × Int32 × Int64 × (Nat → Int32) × (Nat → Int32) × (Nat → Int64) × (Nat → Int64) × (Nat → Int64) × (Nat → Int64) × (Nat → Int32) × (Nat → Int64) × (Nat → Int32) × (Nat → Int32) × (Nat → Int32) × (Nat → Int32) × (Nat → Int32) × (Nat → Int32) × (Nat → Int64) × (Nat → Nat → Int32) × (Nat → Nat → Int32) × (Nat → Nat → Int32) × (Nat → Nat → Int32) × (Nat → Nat → Int32) => kSX7_law_23 L xs f_x_kem_sponge_turns f_x_kem_sponge_targets f_x_kem_sponge_roundConstants f_x_kem_ring_powers f_y_roots f_y_cubes f_y_start224 f_y_start256 f_y_turns f_y_round g0_x_shapes g1_x_shapes g2_x_shapes g3_x_shapes u.1 u.2.1 u.2.2.1 u.2.2.2.1 u.2.2.2.2.1 u.2.2.2.2.2.1 u.2.2.2.2.2.2.1 u.2.2.2.2.2.2.2.1 u.2.2.2.2.2.2.2.2.1 u.2.2.2.2.2.2.2.2.2.1 u.2.2.2.2.2.2.2.2.2.2.1 u.2.2.2.2.2.2.2.2.2.2.2.1 u.2.2.2.2.2.2.2.2.2.2.2.2.1 u.2.2.2.2.2.2.2.2.2.2.2.2.2.1 u.2.2.2.2.2.2.2.2.2.2.2.2.2.2.1 u.2.2.2.2.2.2.2.2.2.2.2.2.2.2.2.1 u.2.2.2.2.2.2.2.2.2.2.2.2.2.2.2.2.1 u.2.2.2.2.2.2.2.2.2.2.2.2.2.2.2.2.2.1 u.2.2.2.2.2.2.2.2.2.2.2.2.2.2.2.2.2.2.1 u.2.2.2.2.2.2.2.2.2.2.2.2.2.2.2.2.2.2.2.1 u.2.2.2.2.2.2.2.2.2.2.2.2.2.2.2.2.2.2.2.2.1 u.2.2.2.2.2.2.2.2.2.2.2.2.2.2.2.2.2.2.2.2.2.1 u.2.2.2.2.2.2.2.2.2.2.2.2.2.2.2.2.2.2.2.2.2.2.1 u.2.2.2.2.2.2.2.2.2.2.2.2.2.2.2.2.2.2.2.2.2.2.2.1 u.2.2.2.2.2.2.2.2.2.2.2.2.2.2.2.2.2.2.2.2.2.2.2.2.1 u.2.2.2.2.2.2.2.2.2.2.2.2.2.2.2.2.2.2.2.2.2.2.2.2.2.1 u.2.2.2.2.2.2.2.2.2.2.2.2.2.2.2.2.2.2.2.2.2.2.2.2.2.2.1 u.2.2.2.2.2.2.2.2.2.2.2.2.2.2.2.2.2.2.2.2.2.2.2.2.2.2.2.1 u.2.2.2.2.2.2.2.2.2.2.2.2.2.2.2.2.2.2.2.2.2.2.2.2.2.2.2.2.1 u.2.2.2.2.2.2.2.2.2.2.2.2.2.2.2.2.2.2.2.2.2.2.2.2.2.2.2.2.2.1 u.2.2.2.2.2.2.2.2.2.2.2.2.2.2.2.2.2.2.2.2.2.2.2.2.2.2.2.2.2.2.1 u.2.2.2.2.2.2.2.2.2.2.2.2.2.2.2.2.2.2.2.2.2.2.2.2.2.2.2.2.2.2.2.1 u.2.2.2.2.2.2.2.2.2.2.2.2.2.2.2.2.2.2.2.2.2.2.2.2.2.2.2.2.2.2.2.2.1 u.2.2.2.2.2.2.2.2.2.2.2.2.2.2.2.2.2.2.2.2.2.2.2.2.2.2.2.2.2.2.2.2.2.1 u.2.2.2.2.2.2.2.2.2.2.2.2.2.2.2.2.2.2.2.2.2.2.2.2.2.2.2.2.2.2.2.2.2.2.1 u.2.2.2.2.2.2.2.2.2.2.2.2.2.2.2.2.2.2.2.2.2.2.2.2.2.2.2.2.2.2.2.2.2.2.2.1 u.2.2.2.2.2.2.2.2.2.2.2.2.2.2.2.2.2.2.2.2.2.2.2.2.2.2.2.2.2.2.2.2.2.2.2.2.1 u.2.2.2.2.2.2.2.2.2.2.2.2.2.2.2.2.2.2.2.2.2.2.2.2.2.2.2.2.2.2.2.2.2.2.2.2.2.1 u.2.2.2.2.2.2.2.2.2.2.2.2.2.2.2.2.2.2.2.2.2.2.2.2.2.2.2.2.2.2.2.2.2.2.2.2.2.2.1 u.2.2.2.2.2.2.2.2.2.2.2.2.2.2.2.2.2.2.2.2.2.2.2.2.2.2.2.2.2.2.2.2.2.2.2.2.2.2.2.1 u.2.2.2.2.2.2.2.2.2.2.2.2.2.2.2.2.2.2.2.2.2.2.2.2.2.2.2.2.2.2.2.2.2.2.2.2.2.2.2.2.1 u.2.2.2.2.2.2.2.2.2.2.2.2.2.2.2.2.2.2.2.2.2.2.2.2.2.2.2.2.2.2.2.2.2.2.2.2.2.2.2.2.2.1 u.2.2.2.2.2.2.2.2.2.2.2.2.2.2.2.2.2.2.2.2.2.2.2.2.2.2.2.2.2.2.2.2.2.2.2.2.2.2.2.2.2.2.1 u.2.2.2.2.2.2.2.2.2.2.2.2.2.2.2.2.2.2.2.2.2.2.2.2.2.2.2.2.2.2.2.2.2.2.2.2.2.2.2.2.2.2.2.1 u.2.2.2.2.2.2.2.2.2.2.2.2.2.2.2.2.2.2.2.2.2.2.2.2.2.2.2.2.2.2.2.2.2.2.2.2.2.2.2.2.2.2.2.2.1 u.2.2.2.2.2.2.2.2.2.2.2.2.2.2.2.2.2.2.2.2.2.2.2.2.2.2.2.2.2.2.2.2.2.2.2.2.2.2.2.2.2.2.2.2.2.1 u.2.2.2.2.2.2.2.2.2.2.2.2.2.2.2.2.2.2.2.2.2.2.2.2.2.2.2.2.2.2.2.2.2.2.2.2.2.2.2.2.2.2.2.2.2.2.1 u.2.2.2.2.2.2.2.2.2.2.2.2.2.2.2.2.2.2.2.2.2.2.2.2.2.2.2.2.2.2.2.2.2.2.2.2.2.2.2.2.2.2.2.2.2.2.2.1 u.2.2.2.2.2.2.2.2.2.2.2.2.2.2.2.2.2.2.2.2.2.2.2.2.2.2.2.2.2.2.2.2.2.2.2.2.2.2.2.2.2.2.2.2.2.2.2.2) 600 ((0 : Int32), x_tapeSize, f_x_sizes, f_x_tape, x_kem_sponge_place, x_kem_sponge_rate, f_x_kem_sponge_lanes, f_x_kem_sponge_moved, f_x_kem_sponge_columns, f_x_kem_sum, f_x_kem_term, f_x_kem_counters, f_x_kem_three, f_x_kem_noiseBytes, f_x_kem_hash, f_x_kem_message, f_x_kem_encrypted, f_x_kem_seeds, y_bitAt, y_code, y_du, y_dv, y_e1, y_filled, y_k, y_kind, y_rate, y_taped, y_total, f_y_tape, f_y_length, f_y_state, f_y_other, f_y_column, f_y_words, f_y_block, f_y_sum, f_y_points, f_y_seed, f_y_noise, f_y_packet, f_y_back, f_y_message, f_z, m_x_slots, m_x_kem_matrix, m_x_kem_vector, m_y_slot, m_y_f) = some r := by
  have key := kb_w_inv (step := (fun u : Int32 × Int32 × (Nat → Int32) × (Nat → Int32) × Int32 × Int32 × (Nat → Int64) × (Nat → Int64) × (Nat → Int64) × (Nat → Int32) × (Nat → Int32) × (Nat → Int32) × (Nat → Int32) × (Nat → Int32) × (Nat → Int32) × (Nat → Int32) × (Nat → Int32) × (Nat → Int32) × Int32 × Int32 × Int32 × Int32 × Int32 × Int32 × Int32 × Int32 × Int32 × Int32 × Int64 × (Nat → Int32) × (Nat → Int32) × (Nat → Int64) × (Nat → Int64) × (Nat → Int64) × (Nat → Int64) × (Nat → Int32) × (Nat → Int64) × (Nat → Int32) × (Nat → Int32) × (Nat → Int32) × (Nat → Int32) × (Nat → Int32) × (Nat → Int32) × (Nat → Int64) × (Nat → Nat → Int32) × (Nat → Nat → Int32) × (Nat → Nat → Int32) × (Nat → Nat → Int32) × (Nat → Nat → Int32) => kSX7_law_23 L xs f_x_kem_sponge_turns f_x_kem_sponge_targets f_x_kem_sponge_roundConstants f_x_kem_ring_powers f_y_roots f_y_cubes f_y_start224 f_y_start256 f_y_turns f_y_round g0_x_shapes g1_x_shapes g2_x_shapes g3_x_shapes u.1 u.2.1 u.2.2.1 u.2.2.2.1 u.2.2.2.2.1 u.2.2.2.2.2.1 u.2.2.2.2.2.2.1 u.2.2.2.2.2.2.2.1 u.2.2.2.2.2.2.2.2.1 u.2.2.2.2.2.2.2.2.2.1 u.2.2.2.2.2.2.2.2.2.2.1 u.2.2.2.2.2.2.2.2.2.2.2.1 u.2.2.2.2.2.2.2.2.2.2.2.2.1 u.2.2.2.2.2.2.2.2.2.2.2.2.2.1 u.2.2.2.2.2.2.2.2.2.2.2.2.2.2.1 u.2.2.2.2.2.2.2.2.2.2.2.2.2.2.2.1 u.2.2.2.2.2.2.2.2.2.2.2.2.2.2.2.2.1 u.2.2.2.2.2.2.2.2.2.2.2.2.2.2.2.2.2.1 u.2.2.2.2.2.2.2.2.2.2.2.2.2.2.2.2.2.2.1 u.2.2.2.2.2.2.2.2.2.2.2.2.2.2.2.2.2.2.2.1 u.2.2.2.2.2.2.2.2.2.2.2.2.2.2.2.2.2.2.2.2.1 u.2.2.2.2.2.2.2.2.2.2.2.2.2.2.2.2.2.2.2.2.2.1 u.2.2.2.2.2.2.2.2.2.2.2.2.2.2.2.2.2.2.2.2.2.2.1 u.2.2.2.2.2.2.2.2.2.2.2.2.2.2.2.2.2.2.2.2.2.2.2.1 u.2.2.2.2.2.2.2.2.2.2.2.2.2.2.2.2.2.2.2.2.2.2.2.2.1 u.2.2.2.2.2.2.2.2.2.2.2.2.2.2.2.2.2.2.2.2.2.2.2.2.2.1 u.2.2.2.2.2.2.2.2.2.2.2.2.2.2.2.2.2.2.2.2.2.2.2.2.2.2.1 u.2.2.2.2.2.2.2.2.2.2.2.2.2.2.2.2.2.2.2.2.2.2.2.2.2.2.2.1 u.2.2.2.2.2.2.2.2.2.2.2.2.2.2.2.2.2.2.2.2.2.2.2.2.2.2.2.2.1 u.2.2.2.2.2.2.2.2.2.2.2.2.2.2.2.2.2.2.2.2.2.2.2.2.2.2.2.2.2.1 u.2.2.2.2.2.2.2.2.2.2.2.2.2.2.2.2.2.2.2.2.2.2.2.2.2.2.2.2.2.2.1 u.2.2.2.2.2.2.2.2.2.2.2.2.2.2.2.2.2.2.2.2.2.2.2.2.2.2.2.2.2.2.2.1 u.2.2.2.2.2.2.2.2.2.2.2.2.2.2.2.2.2.2.2.2.2.2.2.2.2.2.2.2.2.2.2.2.1 u.2.2.2.2.2.2.2.2.2.2.2.2.2.2.2.2.2.2.2.2.2.2.2.2.2.2.2.2.2.2.2.2.2.1 u.2.2.2.2.2.2.2.2.2.2.2.2.2.2.2.2.2.2.2.2.2.2.2.2.2.2.2.2.2.2.2.2.2.2.1 u.2.2.2.2.2.2.2.2.2.2.2.2.2.2.2.2.2.2.2.2.2.2.2.2.2.2.2.2.2.2.2.2.2.2.2.1 u.2.2.2.2.2.2.2.2.2.2.2.2.2.2.2.2.2.2.2.2.2.2.2.2.2.2.2.2.2.2.2.2.2.2.2.2.1 u.2.2.2.2.2.2.2.2.2.2.2.2.2.2.2.2.2.2.2.2.2.2.2.2.2.2.2.2.2.2.2.2.2.2.2.2.2.1 u.2.2.2.2.2.2.2.2.2.2.2.2.2.2.2.2.2.2.2.2.2.2.2.2.2.2.2.2.2.2.2.2.2.2.2.2.2.2.1 u.2.2.2.2.2.2.2.2.2.2.2.2.2.2.2.2.2.2.2.2.2.2.2.2.2.2.2.2.2.2.2.2.2.2.2.2.2.2.2.1 u.2.2.2.2.2.2.2.2.2.2.2.2.2.2.2.2.2.2.2.2.2.2.2.2.2.2.2.2.2.2.2.2.2.2.2.2.2.2.2.2.1 u.2.2.2.2.2.2.2.2.2.2.2.2.2.2.2.2.2.2.2.2.2.2.2.2.2.2.2.2.2.2.2.2.2.2.2.2.2.2.2.2.2.1 u.2.2.2.2.2.2.2.2.2.2.2.2.2.2.2.2.2.2.2.2.2.2.2.2.2.2.2.2.2.2.2.2.2.2.2.2.2.2.2.2.2.2.1 u.2.2.2.2.2.2.2.2.2.2.2.2.2.2.2.2.2.2.2.2.2.2.2.2.2.2.2.2.2.2.2.2.2.2.2.2.2.2.2.2.2.2.2.1 u.2.2.2.2.2.2.2.2.2.2.2.2.2.2.2.2.2.2.2.2.2.2.2.2.2.2.2.2.2.2.2.2.2.2.2.2.2.2.2.2.2.2.2.2.1 u.2.2.2.2.2.2.2.2.2.2.2.2.2.2.2.2.2.2.2.2.2.2.2.2.2.2.2.2.2.2.2.2.2.2.2.2.2.2.2.2.2.2.2.2.2.1 u.2.2.2.2.2.2.2.2.2.2.2.2.2.2.2.2.2.2.2.2.2.2.2.2.2.2.2.2.2.2.2.2.2.2.2.2.2.2.2.2.2.2.2.2.2.2.1 u.2.2.2.2.2.2.2.2.2.2.2.2.2.2.2.2.2.2.2.2.2.2.2.2.2.2.2.2.2.2.2.2.2.2.2.2.2.2.2.2.2.2.2.2.2.2.2.1 u.2.2.2.2.2.2.2.2.2.2.2.2.2.2.2.2.2.2.2.2.2.2.2.2.2.2.2.2.2.2.2.2.2.2.2.2.2.2.2.2.2.2.2.2.2.2.2.2)) (fun i u => u.1 = nI (6 * i) ∧ kz_rel u.2.1 u.2.2.1 u.2.2.2.1 u.2.2.2.2.2.2.2.2.2.2.2.2.2.2.2.2.2.2.2.2.2.2.2.2.2.2.2.2.2.2.2.2.2.2.2.2.2.2.2.2.2.2.2.2.1 u.2.2.2.2.2.2.2.2.2.2.2.2.2.2.2.2.2.2.2.2.2.2.2.2.2.2.2.1 u.2.2.2.2.2.2.2.2.2.2.2.2.2.2.2.2.2.2.2.2.2.2.2.2.2.2.2.2.2.2.1 u.2.2.2.2.2.2.2.2.2.2.2.2.2.2.2.2.2.2.2.2.2.2.2.2.2.2.2.2.2.1 u.2.2.2.2.2.2.2.2.2.2.2.2.2.2.2.2.2.2.2.2.2.2.2.2.2.2.2.2.2.2.2.2.2.2.2.2.2.2.2.2.2.2.2.2.2.2.2.1) (fun _ => True) (L / 6) (fun i u hi hu => ?_) (fun u hu => ?_) (L / 6) 0 ((0 : Int32), x_tapeSize, f_x_sizes, f_x_tape, x_kem_sponge_place, x_kem_sponge_rate, f_x_kem_sponge_lanes, f_x_kem_sponge_moved, f_x_kem_sponge_columns, f_x_kem_sum, f_x_kem_term, f_x_kem_counters, f_x_kem_three, f_x_kem_noiseBytes, f_x_kem_hash, f_x_kem_message, f_x_kem_encrypted, f_x_kem_seeds, y_bitAt, y_code, y_du, y_dv, y_e1, y_filled, y_k, y_kind, y_rate, y_taped, y_total, f_y_tape, f_y_length, f_y_state, f_y_other, f_y_column, f_y_words, f_y_block, f_y_sum, f_y_points, f_y_seed, f_y_noise, f_y_packet, f_y_back, f_y_message, f_z, m_x_slots, m_x_kem_matrix, m_x_kem_vector, m_y_slot, m_y_f) 600 (by omega) (by omega) ⟨rfl, h⟩
  · obtain ⟨r, h1, -⟩ := key
    exact ⟨r, h1⟩
  · obtain ⟨x41, x_tapeSize1, f_x_sizes1, f_x_tape1, x_kem_sponge_place1, x_kem_sponge_rate1, f_x_kem_sponge_lanes1, f_x_kem_sponge_moved1, f_x_kem_sponge_columns1, f_x_kem_sum1, f_x_kem_term1, f_x_kem_counters1, f_x_kem_three1, f_x_kem_noiseBytes1, f_x_kem_hash1, f_x_kem_message1, f_x_kem_encrypted1, f_x_kem_seeds1, y_bitAt1, y_code1, y_du1, y_dv1, y_e11, y_filled1, y_k1, y_kind1, y_rate1, y_taped1, y_total1, f_y_tape1, f_y_length1, f_y_state1, f_y_other1, f_y_column1, f_y_words1, f_y_block1, f_y_sum1, f_y_points1, f_y_seed1, f_y_noise1, f_y_packet1, f_y_back1, f_y_message1, f_z1, m_x_slots1, m_x_kem_matrix1, m_x_kem_vector1, m_y_slot1, m_y_f1⟩ := u
    obtain ⟨hx, hu⟩ := hu
    replace hx : x41 = nI (6 * i) := hx
    subst hx
    replace hu : kz_rel x_tapeSize1 f_x_sizes1 f_x_tape1 m_x_slots1 y_taped1 f_y_length1 f_y_tape1 m_y_slot1 := hu
    obtain ⟨o, h1, s', h0, h2, h3⟩ := kz_round hC hR hu (L := L) (i := i) hM xs (by omega) (x_kem_sponge_place := x_kem_sponge_place1) (x_kem_sponge_rate := x_kem_sponge_rate1) (f_x_kem_sponge_lanes := f_x_kem_sponge_lanes1) (f_x_kem_sponge_moved := f_x_kem_sponge_moved1) (f_x_kem_sponge_columns := f_x_kem_sponge_columns1) (f_x_kem_sum := f_x_kem_sum1) (f_x_kem_term := f_x_kem_term1) (f_x_kem_counters := f_x_kem_counters1) (f_x_kem_three := f_x_kem_three1) (f_x_kem_noiseBytes := f_x_kem_noiseBytes1) (f_x_kem_hash := f_x_kem_hash1) (f_x_kem_message := f_x_kem_message1) (f_x_kem_encrypted := f_x_kem_encrypted1) (f_x_kem_seeds := f_x_kem_seeds1) (y_bitAt := y_bitAt1) (y_code := y_code1) (y_du := y_du1) (y_dv := y_dv1) (y_e1 := y_e11) (y_filled := y_filled1) (y_k := y_k1) (y_kind := y_kind1) (y_rate := y_rate1) (y_total := y_total1) (f_y_state := f_y_state1) (f_y_other := f_y_other1) (f_y_column := f_y_column1) (f_y_words := f_y_words1) (f_y_block := f_y_block1) (f_y_sum := f_y_sum1) (f_y_points := f_y_points1) (f_y_seed := f_y_seed1) (f_y_noise := f_y_noise1) (f_y_packet := f_y_packet1) (f_y_back := f_y_back1) (f_y_message := f_y_message1) (f_z := f_z1) (m_x_kem_matrix := m_x_kem_matrix1) (m_x_kem_vector := m_x_kem_vector1) (m_y_f := m_y_f1)
    subst h0
    exact ⟨s', h1, h2, h3⟩
  · obtain ⟨x41, x_tapeSize1, f_x_sizes1, f_x_tape1, x_kem_sponge_place1, x_kem_sponge_rate1, f_x_kem_sponge_lanes1, f_x_kem_sponge_moved1, f_x_kem_sponge_columns1, f_x_kem_sum1, f_x_kem_term1, f_x_kem_counters1, f_x_kem_three1, f_x_kem_noiseBytes1, f_x_kem_hash1, f_x_kem_message1, f_x_kem_encrypted1, f_x_kem_seeds1, y_bitAt1, y_code1, y_du1, y_dv1, y_e11, y_filled1, y_k1, y_kind1, y_rate1, y_taped1, y_total1, f_y_tape1, f_y_length1, f_y_state1, f_y_other1, f_y_column1, f_y_words1, f_y_block1, f_y_sum1, f_y_points1, f_y_seed1, f_y_noise1, f_y_packet1, f_y_back1, f_y_message1, f_z1, m_x_slots1, m_x_kem_matrix1, m_x_kem_vector1, m_y_slot1, m_y_f1⟩ := u
    obtain ⟨hx, hu⟩ := hu
    replace hx : x41 = nI (6 * (L / 6)) := hx
    subst hx
    obtain ⟨o, h1, r, h0⟩ := kz_round_x (L := L) (i := L / 6) hM xs (by omega) (by omega) (f_x_kem_sponge_turns := f_x_kem_sponge_turns) (f_x_kem_sponge_targets := f_x_kem_sponge_targets) (f_x_kem_sponge_roundConstants := f_x_kem_sponge_roundConstants) (f_x_kem_ring_powers := f_x_kem_ring_powers) (f_y_roots := f_y_roots) (f_y_cubes := f_y_cubes) (f_y_start224 := f_y_start224) (f_y_start256 := f_y_start256) (f_y_turns := f_y_turns) (f_y_round := f_y_round) (g0_x_shapes := g0_x_shapes) (g1_x_shapes := g1_x_shapes) (g2_x_shapes := g2_x_shapes) (g3_x_shapes := g3_x_shapes) (x_tapeSize := x_tapeSize1) (f_x_sizes := f_x_sizes1) (f_x_tape := f_x_tape1) (x_kem_sponge_place := x_kem_sponge_place1) (x_kem_sponge_rate := x_kem_sponge_rate1) (f_x_kem_sponge_lanes := f_x_kem_sponge_lanes1) (f_x_kem_sponge_moved := f_x_kem_sponge_moved1) (f_x_kem_sponge_columns := f_x_kem_sponge_columns1) (f_x_kem_sum := f_x_kem_sum1) (f_x_kem_term := f_x_kem_term1) (f_x_kem_counters := f_x_kem_counters1) (f_x_kem_three := f_x_kem_three1) (f_x_kem_noiseBytes := f_x_kem_noiseBytes1) (f_x_kem_hash := f_x_kem_hash1) (f_x_kem_message := f_x_kem_message1) (f_x_kem_encrypted := f_x_kem_encrypted1) (f_x_kem_seeds := f_x_kem_seeds1) (y_bitAt := y_bitAt1) (y_code := y_code1) (y_du := y_du1) (y_dv := y_dv1) (y_e1 := y_e11) (y_filled := y_filled1) (y_k := y_k1) (y_kind := y_kind1) (y_rate := y_rate1) (y_taped := y_taped1) (y_total := y_total1) (f_y_tape := f_y_tape1) (f_y_length := f_y_length1) (f_y_state := f_y_state1) (f_y_other := f_y_other1) (f_y_column := f_y_column1) (f_y_words := f_y_words1) (f_y_block := f_y_block1) (f_y_sum := f_y_sum1) (f_y_points := f_y_points1) (f_y_seed := f_y_seed1) (f_y_noise := f_y_noise1) (f_y_packet := f_y_packet1) (f_y_back := f_y_back1) (f_y_message := f_y_message1) (f_z := f_z1) (m_x_slots := m_x_slots1) (m_x_kem_matrix := m_x_kem_matrix1) (m_x_kem_vector := m_x_kem_vector1) (m_y_slot := m_y_slot1) (m_y_f := m_y_f1)
    subst h0
    exact ⟨r, h1, trivial⟩
