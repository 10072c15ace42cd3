/-! What the law's entry gives. -/
abbrev kb_GV : Cond := Jvm.Cond.and given_1 narrow_1
theorem kb_BAD_in : ∀ w ∈ kb_BAD, w ∈ lw_tbl := by decide +kernel
theorem kb_STR_in : ∀ q ∈ kb_STR, Cond.stringRef q.1 q.2.1 q.2.2 ∈ lw_tbl := by decide +kernel
theorem kb_STR_ex : ∀ q ∈ kb_STR, Cond.exactly (.string q.1 q.2.1) "java/lang/String" ∈ flatC kb_GV := by decide +kernel
theorem kb_EX_no : ∀ E ∈ kb_EX, ∀ F ∈ kb_EX, E ≠ F → Cond.not (.castable E F) ∈ flatC kb_GV := by decide +kernel
theorem kb_hl9 {l : Launch} (h : l.flags = flags0) : l.stackTraces = false := by
  unfold Launch.stackTraces
  rw [h]
  decide +kernel
section KS
variable {s : State} {args : Array Value}
theorem kb_start_N (hts : ∀ w ∈ lw_tbl, w.before args s = true) : kb_N s := fun w hw => va_Nw.of (kb_BAD_on w hw) (hts w (kb_BAD_in w hw))
theorem kb_start_O (hts : ∀ w ∈ lw_tbl, w.before args s = true) : kb_O s := ⟨hts (.arrayOver (.array .byte)) (by decide +kernel), hts (.arrayOver (.array .int)) (by decide +kernel), hts (.arrayOver (.object "ModuleKem$Shape")) (by decide +kernel)⟩
theorem kb_start_Z (hts : ∀ w ∈ lw_tbl, w.before args s = true) (hgv : kb_GV.before args s = true) : kb_Z (fun q : Nat => s.heap.size ≤ q) s s.heap := by
  have hq := flat_of_before _ hgv
  refine ⟨?_, ?_, fun q hm => ?_⟩
  · exact vx_Zqof (hts (.laysStatic Bundle.tN "UNASSIGNED_STACK" Bundle.steD) (by decide +kernel)) (hts (.initialized Bundle.tN) (by decide +kernel)) (hq (.isRef (.static Bundle.tN "UNASSIGNED_STACK" Bundle.steD)) (by decide +kernel)) (fun a h1 h2 => Nat.not_le.mpr h1 h2)
  · exact vx_Zqof (hts (.laysStatic Bundle.tN "SUPPRESSED_SENTINEL" Bundle.listD) (by decide +kernel)) (hts (.initialized Bundle.tN) (by decide +kernel)) (hq (.isRef (.static Bundle.tN "SUPPRESSED_SENTINEL" Bundle.listD)) (by decide +kernel)) (fun a h1 h2 => Nat.not_le.mpr h1 h2)
  · obtain ⟨a, c, cell, k, he, -⟩ := Cond.exactly_spec (hq _ (kb_STR_ex q hm))
    exact ⟨a, vk_R.of (hts _ (kb_STR_in q hm)) he⟩
theorem kb_start_M (hgv : kb_GV.before args s = true) : kb_M s := fun E hE F hF hn => va_Nc.of (flat_of_before _ hgv _ (kb_EX_no E hE F hF hn))
theorem kb_start_K (hts : ∀ w ∈ lw_tbl, w.before args s = true) : ∃ (D : va_G) (cB cI cL cBB cII cSh : ClassId), va_K D kCl (kb_T cB cI cL cBB cII cSh) s := by
  have hA : ∀ w ∈ kwA, w.before args s = true := fun w h => hts w (List.mem_filter.mp h).1
  obtain ⟨c0, i0, hK0⟩ := u_known (C := kRX0) (T := kTX0) (N := 6) (n := 6) hA kinX0 (hts (.instantiable kRX0 6) (by decide +kernel))
  obtain ⟨c1, i1, hK1⟩ := u_known (C := kRX1) (T := kTX1) (N := 13) (n := 13) hA kinX1 (hts (.instantiable kRX1 13) (by decide +kernel))
  obtain ⟨c2, i2, hK2⟩ := u_known (C := kRX2) (T := kTX2) (N := 1) (n := 1) hA kinX2 (hts (.instantiable kRX2 1) (by decide +kernel))
  obtain ⟨c3, i3, hK3⟩ := u_known (C := kRX3) (T := kTX3) (N := 4) (n := 4) hA kinX3 (hts (.instantiable kRX3 4) (by decide +kernel))
  obtain ⟨c4, i4, hK4⟩ := u_known (C := kRX4) (T := kTX4) (N := 8) (n := 8) hA kinX4 (hts (.instantiable kRX4 8) (by decide +kernel))
  obtain ⟨c5, i5, hK5⟩ := u_known (C := kRX5) (T := kTX5) (N := 35) (n := 35) hA kinX5 (hts (.instantiable kRX5 35) (by decide +kernel))
  obtain ⟨dC, dI, hKc⟩ : ∃ (dC : Nat → ClassId) (dI : Nat → Nat → Nat), ∀ (k : Nat) (q : vw_C), kCl[k]? = some q → u_Kn s q.1 q.2.1 q.2.2 (dC k) (dI k) := by
    refine ⟨fun k => match k with | 0 => c0 | 1 => c1 | 2 => c2 | 3 => c3 | 4 => c4 | _ => c5, fun k => match k with | 0 => i0 | 1 => i1 | 2 => i2 | 3 => i3 | 4 => i4 | _ => i5, ?_⟩
    intro k q hq
    match k, hq with
    | 0, hq => cases hq; exact hK0
    | 1, hq => cases hq; exact hK1
    | 2, hq => cases hq; exact hK2
    | 3, hq => cases hq; exact hK3
    | 4, hq => cases hq; exact hK4
    | 5, hq => cases hq; exact hK5
    | k + 6, hq => simp [kCl] at hq
  have hK : va_K (dC, dI) kCl [] s := ⟨hKc, fun k q h => by simp at h⟩
  obtain ⟨cB, hK⟩ := kb_Kp (ty := .byte) hK (hts (.arrayClass .byte) (by decide +kernel)) (fun C h => by cases h)
  obtain ⟨cI, hK⟩ := kb_Kp (ty := .int) hK (hts (.arrayClass .int) (by decide +kernel)) (fun C h => by cases h)
  obtain ⟨cL, hK⟩ := kb_Kp (ty := .long) hK (hts (.arrayClass .long) (by decide +kernel)) (fun C h => by cases h)
  obtain ⟨cBB, hK⟩ := kb_Ka (ty := .byte) hK (hts (.arrayOver (.array .byte)) (by decide +kernel))
  obtain ⟨cII, hK⟩ := kb_Ka (ty := .int) hK (hts (.arrayOver (.array .int)) (by decide +kernel))
  obtain ⟨cSh, hK⟩ := kb_Ko (C := "ModuleKem$Shape") hK (hts (.arrayOver (.object "ModuleKem$Shape")) (by decide +kernel))
  exact ⟨(dC, dI), cB, cI, cL, cBB, cII, cSh, hK⟩
end KS
