/-! Layer 2: what the constructors lay into their tables. -/
theorem kz_nTurns : kz_ok kFX4_newTurns (fun f => ∀ i, i < 25 → f i = nI (kz_tn i)) := by
  obtain ⟨r, h1, h2⟩ := kz_ok_any (o := kFX4_newTurns) (p := fun r => (List.range 25).all (fun i => decide (r i = nI (kz_tn i)))) (by decide +kernel)
  exact ⟨r, h1, fun i hi => of_decide_eq_true (List.all_eq_true.mp h2 i (List.mem_range.mpr hi))⟩
theorem kz_nTargets : kz_ok kFX4_newTargets (fun f => ∀ i, i < 25 → f i = nI (kz_tg i)) := by
  obtain ⟨r, h1, h2⟩ := kz_ok_any (o := kFX4_newTargets) (p := fun r => (List.range 25).all (fun i => decide (r i = nI (kz_tg i)))) (by decide +kernel)
  exact ⟨r, h1, fun i hi => of_decide_eq_true (List.all_eq_true.mp h2 i (List.mem_range.mpr hi))⟩
theorem kz_nRound : kz_ok kFX4_newRoundConstants (fun f => ∀ i, i < 24 → f i = kz_RC i) := by
  obtain ⟨r, h1, h2⟩ := kz_ok_any (o := kFX4_newRoundConstants) (p := fun r => (List.range 24).all (fun i => decide (r i = kz_RC i))) (by decide +kernel)
  exact ⟨r, h1, fun i hi => of_decide_eq_true (List.all_eq_true.mp h2 i (List.mem_range.mpr hi))⟩
theorem kz_nPowers : kz_ok kFX2_init kz_pows := by
  obtain ⟨r, h1, h2⟩ := kz_ok_any (o := kFX2_init) (p := fun r => (List.range 128).all (fun i => decide (r i = nI (kz_pw i)))) (by decide +kernel)
  exact ⟨r, h1, fun i hi => ⟨Nat.mod_lt _ (by decide), of_decide_eq_true (List.all_eq_true.mp h2 i (List.mem_range.mpr hi))⟩⟩
theorem kz_init0 : kz_ok kFX0_init (fun r => kz_tab r.1 r.2.1 ∧ (∀ i, i < 24 → r.2.2.1 i = kz_RC i) ∧ kz_pows r.2.2.2) := by
  unfold kFX0_init kFX1_init kFX4_init
  refine kz_ok_o (Q := fun r => kz_tab r.1 r.2.1 ∧ (∀ i, i < 24 → r.2.2.1 i = kz_RC i) ∧ kz_pows r.2.2.2) ?_ (fun u hu => kz_ok_s hu)
  refine kz_ok_o (Q := fun r => kz_tab r.1 r.2.1 ∧ ∀ i, i < 24 → r.2.2 i = kz_RC i) ?_ (fun u hu => kz_ok_o kz_nPowers (fun v hv => kz_ok_s ⟨hu.1, hu.2, hv⟩))
  exact kz_ok_o kz_nTurns (fun u hu => kz_ok_o kz_nTargets (fun v hv => kz_ok_o kz_nRound (fun w hw => kz_ok_s ⟨fun i hi => ⟨hu i hi, hv i hi⟩, hw⟩)))
theorem kz_init5 : kz_ok kFX5_init (fun r => kz_rtab r.2.2.2.2.2.2.2.2.2.2.1 r.2.2.2.2.2.2.2.2.2.2.2.1) := by
  unfold kFX5_init
  exact kz_ok_o (kz_constants _ _ _ _ _ _ _ _ _ _ _) (fun u hu => kz_ok_s ⟨hu.1, hu.2⟩)
/-- the class's tables, as its constructor leaves them -/
theorem kz_ctab_0 {turns targets powers : Nat → Int32} {rc : Nat → Int64} (h1 : kz_tab turns targets) (h2 : ∀ i, i < 24 → rc i = kz_RC i) (h3 : kz_pows powers) : kz_ctab turns targets rc powers (fun i => ([2, 3, 4] : List Int32).getD i 0) (fun i => ([3, 2, 2] : List Int32).getD i 0) (fun i => ([10, 10, 11] : List Int32).getD i 0) (fun i => ([4, 4, 5] : List Int32).getD i 0) := by
  refine ⟨h1, h2, h3, fun st hst => ?_⟩
  have h : st = 0 ∨ st = 1 ∨ st = 2 := by omega
  rcases h with rfl | rfl | rfl
  · exact ⟨rfl, rfl, rfl, rfl⟩
  · exact ⟨rfl, rfl, rfl, rfl⟩
  · exact ⟨rfl, rfl, rfl, rfl⟩
