-- 427.ModuleKemModel.digestOf.lean.txt
abbrev kWX5_digestOf (cB cI cL cBB cII cSh : ClassId)   : va_W := []
def krX5_digestOf : Room := { frames := 0, cells := 0, slots := 0, locals := 0 }
set_option maxHeartbeats 4000000 in
set_option maxRecDepth 100000 in
theorem kcX5_digestOf (l : Launch) (D : va_G) (cB cI cL cBB cII cSh : ClassId)  (sz : Nat) (p1 : Int32) (out : Int32) (h : kFX5_digestOf p1 = some out) : Met l kyX5_digestOf kwX5_digestOf krX5_digestOf (kb_P D kCl (kb_T cB cI cL cBB cII cSh) [.int p1] (kWX5_digestOf cB cI cL cBB cII cSh) sz) (kb_Q D kCl (kb_T cB cI cL cBB cII cSh) (va_A (kWX5_digestOf cB cI cL cBB cII cSh) sz) (some (.int out)) (kWX5_digestOf cB cI cL cBB cII cSh)) 0 0 (va_A (kWX5_digestOf cB cI cL cBB cII cSh) sz) := by
  refine Met.ofW (cc := prog_8_method_24_code) (maxL := 1) (ret := (some .int)) (by decide) rfl ?_
  intro p e s m args below meth c s₁ B hml hv
  obtain ⟨rfl, hsz, hP, hK, hN, hD0⟩ := hv
  have hx := B.exec
  have hb := B.bytes
  have hr := B.returns
  have hts0 := atoms_spec (ws := kwX5_digestOf) B.pre
  have hts : ∀ w ∈ kwA, w.before _ s = true := fun w h => hts0 w (List.mem_cons_of_mem _ h)
  have hown : s.vm.findClass kRX5 = some m.cls := findClass_of_methodNamed B.named
  have hlocks := B.notSynchronized
  subst hsz
  have hD := hD0.self (sz := s.heap.size)
  generalize hAe : va_A (kWX5_digestOf cB cI cL cBB cII cSh) s.heap.size = A at hD ⊢
  have hA : ∀ q : Nat, s.heap.size ≤ q → A q := fun q h => by rw [← hAe]; exact Or.inr h
  have hS : va_S A s.heap s.heap [] := va_S.rf
  have C0 : CallFix p m c prog_8_method_24_code 1 s _ kwA kRX5 := ⟨hx, hb, hml, hown, hts⟩
  have hl := lv_entry ([.int p1]) (n := 1) (Nat.le_of_ble_eq_true rfl)
  rw [lg_entry_eq]
  generalize (lg_sl ([.int p1]) ++ List.replicate (1 - (lg_sl ([.int p1])).length) Slot.unset).toArray = ls at hl ⊢
  have hl : lv_has ls 1 [(0, .int p1)] := hl
  unfold kFX5_digestOf at h
  refine lv_iload_n hx hb kdX5_digestOf_0 rfl (lv_at hl 0 rfl) ?_
  by_cases c_1 : p1 = (1 : Int32)
  · have h := kb_b_t c_1 h
    refine lv_tableIn (tgt := 64) hx hb kdX5_digestOf_1 (by rw [c_1]; decide) (by rw [c_1]; decide) (by rw [c_1]; rfl) (by decide) ?_
    refine lv_bipush (v := 32) hx hb kdX5_digestOf_64 (by decide) ?_
    obtain rfl := Option.some.inj h
    exact W.iret (v := (32 : Int32)) hx hb hr (fun t ht hW => ⟨⟨rfl, by rw [ht]; exact hP, va_K.moved hW.alike hK, hD⟩, hS.F ht⟩) hS.2.2 kdX5_digestOf_66
  have h := kb_b_f c_1 h
  by_cases c_2 : p1 = (2 : Int32)
  · have h := kb_b_t c_2 h
    refine lv_tableIn (tgt := 67) hx hb kdX5_digestOf_1 (by rw [c_2]; decide) (by rw [c_2]; decide) (by rw [c_2]; rfl) (by decide) ?_
    refine lv_bipush (v := 48) hx hb kdX5_digestOf_67 (by decide) ?_
    obtain rfl := Option.some.inj h
    exact W.iret (v := (48 : Int32)) hx hb hr (fun t ht hW => ⟨⟨rfl, by rw [ht]; exact hP, va_K.moved hW.alike hK, hD⟩, hS.F ht⟩) hS.2.2 kdX5_digestOf_69
  have h := kb_b_f c_2 h
  by_cases c_3 : p1 = (3 : Int32)
  · have h := kb_b_t c_3 h
    refine lv_tableIn (tgt := 70) hx hb kdX5_digestOf_1 (by rw [c_3]; decide) (by rw [c_3]; decide) (by rw [c_3]; rfl) (by decide) ?_
    refine lv_bipush (v := 64) hx hb kdX5_digestOf_70 (by decide) ?_
    obtain rfl := Option.some.inj h
    exact W.iret (v := (64 : Int32)) hx hb hr (fun t ht hW => ⟨⟨rfl, by rw [ht]; exact hP, va_K.moved hW.alike hK, hD⟩, hS.F ht⟩) hS.2.2 kdX5_digestOf_72
  have h := kb_b_f c_3 h
  by_cases c_4 : p1 = (4 : Int32)
  · have h := kb_b_t c_4 h
    refine lv_tableIn (tgt := 73) hx hb kdX5_digestOf_1 (by rw [c_4]; decide) (by rw [c_4]; decide) (by rw [c_4]; rfl) (by decide) ?_
    refine lv_bipush (v := 28) hx hb kdX5_digestOf_73 (by decide) ?_
    obtain rfl := Option.some.inj h
    exact W.iret (v := (28 : Int32)) hx hb hr (fun t ht hW => ⟨⟨rfl, by rw [ht]; exact hP, va_K.moved hW.alike hK, hD⟩, hS.F ht⟩) hS.2.2 kdX5_digestOf_75
  have h := kb_b_f c_4 h
  by_cases c_5 : p1 = (5 : Int32)
  · have h := kb_b_t c_5 h
    refine lv_tableIn (tgt := 73) hx hb kdX5_digestOf_1 (by rw [c_5]; decide) (by rw [c_5]; decide) (by rw [c_5]; rfl) (by decide) ?_
    refine lv_bipush (v := 28) hx hb kdX5_digestOf_73 (by decide) ?_
    obtain rfl := Option.some.inj h
    exact W.iret (v := (28 : Int32)) hx hb hr (fun t ht hW => ⟨⟨rfl, by rw [ht]; exact hP, va_K.moved hW.alike hK, hD⟩, hS.F ht⟩) hS.2.2 kdX5_digestOf_75
  have h := kb_b_f c_5 h
  by_cases c_6 : p1 = (6 : Int32)
  · have h := kb_b_t c_6 h
    refine lv_tableIn (tgt := 64) hx hb kdX5_digestOf_1 (by rw [c_6]; decide) (by rw [c_6]; decide) (by rw [c_6]; rfl) (by decide) ?_
    refine lv_bipush (v := 32) hx hb kdX5_digestOf_64 (by decide) ?_
    obtain rfl := Option.some.inj h
    exact W.iret (v := (32 : Int32)) hx hb hr (fun t ht hW => ⟨⟨rfl, by rw [ht]; exact hP, va_K.moved hW.alike hK, hD⟩, hS.F ht⟩) hS.2.2 kdX5_digestOf_66
  have h := kb_b_f c_6 h
  by_cases c_7 : p1 = (7 : Int32)
  · have h := kb_b_t c_7 h
    refine lv_tableIn (tgt := 73) hx hb kdX5_digestOf_1 (by rw [c_7]; decide) (by rw [c_7]; decide) (by rw [c_7]; rfl) (by decide) ?_
    refine lv_bipush (v := 28) hx hb kdX5_digestOf_73 (by decide) ?_
    obtain rfl := Option.some.inj h
    exact W.iret (v := (28 : Int32)) hx hb hr (fun t ht hW => ⟨⟨rfl, by rw [ht]; exact hP, va_K.moved hW.alike hK, hD⟩, hS.F ht⟩) hS.2.2 kdX5_digestOf_75
  have h := kb_b_f c_7 h
  by_cases c_8 : p1 = (8 : Int32)
  · have h := kb_b_t c_8 h
    refine lv_tableIn (tgt := 64) hx hb kdX5_digestOf_1 (by rw [c_8]; decide) (by rw [c_8]; decide) (by rw [c_8]; rfl) (by decide) ?_
    refine lv_bipush (v := 32) hx hb kdX5_digestOf_64 (by decide) ?_
    obtain rfl := Option.some.inj h
    exact W.iret (v := (32 : Int32)) hx hb hr (fun t ht hW => ⟨⟨rfl, by rw [ht]; exact hP, va_K.moved hW.alike hK, hD⟩, hS.F ht⟩) hS.2.2 kdX5_digestOf_66
  have h := kb_b_f c_8 h
  by_cases c_9 : p1 = (9 : Int32)
  · have h := kb_b_t c_9 h
    refine lv_tableIn (tgt := 67) hx hb kdX5_digestOf_1 (by rw [c_9]; decide) (by rw [c_9]; decide) (by rw [c_9]; rfl) (by decide) ?_
    refine lv_bipush (v := 48) hx hb kdX5_digestOf_67 (by decide) ?_
    obtain rfl := Option.some.inj h
    exact W.iret (v := (48 : Int32)) hx hb hr (fun t ht hW => ⟨⟨rfl, by rw [ht]; exact hP, va_K.moved hW.alike hK, hD⟩, hS.F ht⟩) hS.2.2 kdX5_digestOf_69
  have h := kb_b_f c_9 h
  by_cases c_10 : p1 = (10 : Int32)
  · have h := kb_b_t c_10 h
    refine lv_tableIn (tgt := 70) hx hb kdX5_digestOf_1 (by rw [c_10]; decide) (by rw [c_10]; decide) (by rw [c_10]; rfl) (by decide) ?_
    refine lv_bipush (v := 64) hx hb kdX5_digestOf_70 (by decide) ?_
    obtain rfl := Option.some.inj h
    exact W.iret (v := (64 : Int32)) hx hb hr (fun t ht hW => ⟨⟨rfl, by rw [ht]; exact hP, va_K.moved hW.alike hK, hD⟩, hS.F ht⟩) hS.2.2 kdX5_digestOf_72
  have h := kb_b_f c_10 h
  by_cases c_11 : p1 = (11 : Int32)
  · have h := kb_b_t c_11 h
    refine lv_tableIn (tgt := 64) hx hb kdX5_digestOf_1 (by rw [c_11]; decide) (by rw [c_11]; decide) (by rw [c_11]; rfl) (by decide) ?_
    refine lv_bipush (v := 32) hx hb kdX5_digestOf_64 (by decide) ?_
    obtain rfl := Option.some.inj h
    exact W.iret (v := (32 : Int32)) hx hb hr (fun t ht hW => ⟨⟨rfl, by rw [ht]; exact hP, va_K.moved hW.alike hK, hD⟩, hS.F ht⟩) hS.2.2 kdX5_digestOf_66
  have h := kb_b_f c_11 h
  by_cases c_12 : p1 = (12 : Int32)
  · have h := kb_b_t c_12 h
    refine lv_tableIn (tgt := 70) hx hb kdX5_digestOf_1 (by rw [c_12]; decide) (by rw [c_12]; decide) (by rw [c_12]; rfl) (by decide) ?_
    refine lv_bipush (v := 64) hx hb kdX5_digestOf_70 (by decide) ?_
    obtain rfl := Option.some.inj h
    exact W.iret (v := (64 : Int32)) hx hb hr (fun t ht hW => ⟨⟨rfl, by rw [ht]; exact hP, va_K.moved hW.alike hK, hD⟩, hS.F ht⟩) hS.2.2 kdX5_digestOf_72
  have h := kb_b_f c_12 h
  refine lv_tableOut (tgt := 73) hx hb kdX5_digestOf_1 (by have qc_1 := lv_neT c_1 (a := 1) rfl; have qc_2 := lv_neT c_2 (a := 2) rfl; have qc_3 := lv_neT c_3 (a := 3) rfl; have qc_4 := lv_neT c_4 (a := 4) rfl; have qc_5 := lv_neT c_5 (a := 5) rfl; have qc_6 := lv_neT c_6 (a := 6) rfl; have qc_7 := lv_neT c_7 (a := 7) rfl; have qc_8 := lv_neT c_8 (a := 8) rfl; have qc_9 := lv_neT c_9 (a := 9) rfl; have qc_10 := lv_neT c_10 (a := 10) rfl; have qc_11 := lv_neT c_11 (a := 11) rfl; have qc_12 := lv_neT c_12 (a := 12) rfl; omega) (by decide) ?_
  refine lv_bipush (v := 28) hx hb kdX5_digestOf_73 (by decide) ?_
  obtain rfl := Option.some.inj h
  exact W.iret (v := (28 : Int32)) hx hb hr (fun t ht hW => ⟨⟨rfl, by rw [ht]; exact hP, va_K.moved hW.alike hK, hD⟩, hS.F ht⟩) hS.2.2 kdX5_digestOf_75

-- 428.ModuleKemModel.begin.lean.txt
abbrev kWX5_begin (cB cI cL cBB cII cSh : ClassId) (h_this : Nat) (a_this : Nat → Nat) (this_taped : Int32) (this_code : Int32) (this_kind : Int32) (this_rate : Int32) (this_filled : Int32) (this_total : Int64) (this_bitAt : Int32) (this_k : Int32) (this_e1 : Int32) (this_du : Int32) (this_dv : Int32) (f_this_roots : Nat → Int64) (f_this_start224 : Nat → Int64) (f_this_start256 : Nat → Int64) (f_this_state : Nat → Int64) : va_W := [(h_this, koX5 a_this this_taped this_code this_kind this_rate this_filled this_total this_bitAt this_k this_e1 this_du this_dv), ((a_this 5), .inl (cL, 16, .inr (.inl f_this_roots))), ((a_this 7), .inl (cL, 8, .inr (.inl f_this_start224))), ((a_this 8), .inl (cL, 8, .inr (.inl f_this_start256))), ((a_this 13), .inl (cL, 25, .inr (.inl f_this_state)))]
def krX5_begin : Room := { frames := 1, cells := 0, slots := 0, locals := 20 }
set_option maxHeartbeats 4000000 in
set_option maxRecDepth 100000 in
theorem klX5_begin_17 {p : Program} {l : Launch} {e : Env} {s : State} {m : MethodId} {args : Array Value} {below : List Frame} {meth : Method} {c : Code} {cells slots : Nat} {Q : State → Prop} {D : va_G} {cB cI cL cBB cII cSh : ClassId} {A : Nat → Prop} (C0 : CallFix p m c prog_8_method_25_code 3 s args kwA kRX5) (hlocks : meth.locks = false) (hK : va_K D kCl (kb_T cB cI cL cBB cII cSh) s) (hN : kb_N s) (hA : ∀ q, s.heap.size ≤ q → A q) (hcR : cells ≤ krX5_begin.cells) (hsR : slots ≤ krX5_begin.slots) (h_this : Nat) (a_this : Nat → Nat) (p1 : Int32) (this_taped : Int32) (this_code : Int32) (this_rate : Int32) (this_bitAt : Int32) (this_k : Int32) (this_e1 : Int32) (this_du : Int32) (this_dv : Int32) (f_this_roots : Nat → Int64) (f_this_start224 : Nat → Int64) (f_this_start256 : Nat → Int64) :
    ∀ (fuel : Nat) (x2p17 : Int32) (f_this_statep17 : Nat → Int64) (r : Int32 × (Nat → Int64)), kb_w (fun u : Int32 × (Nat → Int64) => kSX5_begin_17 u.1 u.2) fuel (x2p17, f_this_statep17) = some r → ∀ (H : Heap) (locs : List Loc) (ls : Array Slot), va_P D kCl (kWX5_begin cB cI cL cBB cII cSh h_this a_this this_taped this_code p1 this_rate (0 : Int32) (0 : Int64) this_bitAt this_k this_e1 this_du this_dv f_this_roots f_this_start224 f_this_start256 f_this_statep17) H → va_D A (kWX5_begin cB cI cL cBB cII cSh h_this a_this this_taped this_code p1 this_rate (0 : Int32) (0 : Int64) this_bitAt this_k this_e1 this_du this_dv f_this_roots f_this_start224 f_this_start256 f_this_statep17) → va_S A s.heap H locs → lv_has ls 3 [(0, .ref h_this), (1, .int p1), (2, .int x2p17)] → (∀ (x2p17' : Int32) (f_this_statep17' : Nat → Int64), r = (x2p17', f_this_statep17') → ∀ (H : Heap) (locs : List Loc) (ls : Array Slot), va_P D kCl (kWX5_begin cB cI cL cBB cII cSh h_this a_this this_taped this_code p1 this_rate (0 : Int32) (0 : Int64) this_bitAt this_k this_e1 this_du this_dv f_this_roots f_this_start224 f_this_start256 f_this_statep17') H → va_D A (kWX5_begin cB cI cL cBB cII cSh h_this a_this this_taped this_code p1 this_rate (0 : Int32) (0 : Int64) this_bitAt this_k this_e1 this_du this_dv f_this_roots f_this_start224 f_this_start256 f_this_statep17') → va_S A s.heap H locs → lv_has ls 3 [(0, .ref h_this), (1, .int p1), (2, .int x2p17')] → W p l e krX5_begin s m args below meth c H locs cells slots Q (F0 m 36 ls [])) → W p l e krX5_begin s m args below meth c H locs cells slots Q (F0 m 17 ls []) := by
  obtain ⟨hx, hb, hml, hown, hts⟩ := id C0
  intro fuel
  induction fuel with
  | zero =>
    intro x2p17 f_this_statep17 r h
    exact absurd h (kb_w_z _ _ _)
  | succ fuel ih =>
    intro x2p17 f_this_statep17 r h H locs ls hP hD hS hl hk0
    obtain ⟨o, h, ho⟩ := kb_w_s h
    have h : kSX5_begin_17 x2p17 f_this_statep17 = some o := h
    unfold kSX5_begin_17 at h
    refine lv_iload_n hx hb kdX5_begin_17 rfl (lv_at hl 2 rfl) ?_
    refine lv_bipush (v := 25) hx hb kdX5_begin_18 (by decide) ?_
    refine lv_icmp_ge (tgt := 36) hx hb kdX5_begin_20 (by decide) (fun c_1 => ?_) (fun c_1 => ?_)
    · have h := kb_b_t c_1 h
      obtain rfl := Option.some.inj h
      exact hk0 x2p17 f_this_statep17 ho.symm _ _ _ hP hD hS (lv_sub hl [0, 1, 2] rfl)
    · have h := kb_b_f c_1 h
      refine lv_aload_n hx hb kdX5_begin_23 rfl (lv_at hl 0 rfl) ?_
      refine va_get (ci := 5) (v := .ref (a_this 13)) (C := kRX5) (T := kTX5) (N := 35) hx hb hts kinX5 hown hK hP 0 rfl rfl 13 (by decide) (hts _ km_694) (fun _ h9 => h9) rfl kdX5_begin_24 ?_
      refine lv_iload_n hx hb kdX5_begin_27 rfl (lv_at hl 2 rfl) ?_
      refine lv_lconst (v := 0) hx hb kdX5_begin_28 (by decide) ?_
      obtain ⟨g_2, h⟩ := kb_g_s h
      refine va_last hx hb hK hP hD hS 4 2 rfl rfl (kb_in_v g_2) kdX5_begin_29 (fun H locs hP hD hS => ?_)
      obtain ⟨f_3, ef_3⟩ : ∃ y, y = vp_updL f_this_statep17 x2p17.toNatClampNeg (0 : Int64) := ⟨_, rfl⟩
      have h := kb_n_s ef_3 h
      have hP : va_P D kCl (kWX5_begin cB cI cL cBB cII cSh h_this a_this this_taped this_code p1 this_rate (0 : Int32) (0 : Int64) this_bitAt this_k this_e1 this_du this_dv f_this_roots f_this_start224 f_this_start256 f_3) H := by rw [ef_3]; exact hP
      have hD : va_D A (kWX5_begin cB cI cL cBB cII cSh h_this a_this this_taped this_code p1 this_rate (0 : Int32) (0 : Int64) this_bitAt this_k this_e1 this_du this_dv f_this_roots f_this_start224 f_this_start256 f_3) := by rw [ef_3]; exact hD
      obtain ⟨x2_4, ex2_4⟩ : ∃ y : Int32, y = x2p17 + Int32.ofInt 1 := ⟨_, rfl⟩
      have h := kb_n_s ex2_4 h
      refine lv_iinc (v := x2_4) (lv' := [(2, .int x2_4), (0, .ref h_this), (1, .int p1)]) hx hb kdX5_begin_30 hl (k := 2) rfl ex2_4.symm (by decide) rfl (fun ls hl => ?_)
      refine lv_goto (tgt := 17) hx hb kdX5_begin_33 (by decide) ?_
      obtain rfl := Option.some.inj h
      exact ih x2_4 f_3 r ho _ _ _ hP hD hS (lv_sub hl [1, 2, 0] rfl) hk0
set_option maxHeartbeats 4000000 in
set_option maxRecDepth 100000 in
theorem klX5_begin_89 {p : Program} {l : Launch} {e : Env} {s : State} {m : MethodId} {args : Array Value} {below : List Frame} {meth : Method} {c : Code} {cells slots : Nat} {Q : State → Prop} {D : va_G} {cB cI cL cBB cII cSh : ClassId} {A : Nat → Prop} (C0 : CallFix p m c prog_8_method_25_code 3 s args kwA kRX5) (hlocks : meth.locks = false) (hK : va_K D kCl (kb_T cB cI cL cBB cII cSh) s) (hN : kb_N s) (hA : ∀ q, s.heap.size ≤ q → A q) (hcR : cells ≤ krX5_begin.cells) (hsR : slots ≤ krX5_begin.slots) (h_this : Nat) (a_this : Nat → Nat) (x1j84 : Int32) (this_taped : Int32) (this_code : Int32) (this_kindj84 : Int32) (y0j84 : Int32) (this_filledj84 : Int32) (this_totalj84 : Int64) (this_bitAt : Int32) (this_k : Int32) (this_e1 : Int32) (this_du : Int32) (this_dv : Int32) (f_this_roots : Nat → Int64) (f_this_start224 : Nat → Int64) (f_this_start256 : Nat → Int64) :
    ∀ (fuel : Nat) (x2p89 : Int32) (f_this_statep89 : Nat → Int64) (r : Int32 × (Nat → Int64)), kb_w (fun u : Int32 × (Nat → Int64) => kSX5_begin_89 x1j84 f_this_roots f_this_start224 f_this_start256 u.1 u.2) fuel (x2p89, f_this_statep89) = some r → ∀ (H : Heap) (locs : List Loc) (ls : Array Slot), va_P D kCl (kWX5_begin cB cI cL cBB cII cSh h_this a_this this_taped this_code this_kindj84 y0j84 this_filledj84 this_totalj84 this_bitAt this_k this_e1 this_du this_dv f_this_roots f_this_start224 f_this_start256 f_this_statep89) H → va_D A (kWX5_begin cB cI cL cBB cII cSh h_this a_this this_taped this_code this_kindj84 y0j84 this_filledj84 this_totalj84 this_bitAt this_k this_e1 this_du this_dv f_this_roots f_this_start224 f_this_start256 f_this_statep89) → va_S A s.heap H locs → lv_has ls 3 [(0, .ref h_this), (1, .int x1j84), (2, .int x2p89)] → (∀ (x2p89' : Int32) (f_this_statep89' : Nat → Int64), r = (x2p89', f_this_statep89') → ∀ (H : Heap) (locs : List Loc) (ls : Array Slot), va_P D kCl (kWX5_begin cB cI cL cBB cII cSh h_this a_this this_taped this_code this_kindj84 y0j84 this_filledj84 this_totalj84 this_bitAt this_k this_e1 this_du this_dv f_this_roots f_this_start224 f_this_start256 f_this_statep89') H → va_D A (kWX5_begin cB cI cL cBB cII cSh h_this a_this this_taped this_code this_kindj84 y0j84 this_filledj84 this_totalj84 this_bitAt this_k this_e1 this_du this_dv f_this_roots f_this_start224 f_this_start256 f_this_statep89') → va_S A s.heap H locs → lv_has ls 3 [(0, .ref h_this), (1, .int x1j84), (2, .int x2p89')] → W p l e krX5_begin s m args below meth c H locs cells slots Q (F0 m 203 ls [])) → W p l e krX5_begin s m args below meth c H locs cells slots Q (F0 m 89 ls []) := by
  obtain ⟨hx, hb, hml, hown, hts⟩ := id C0
  intro fuel
  induction fuel with
  | zero =>
    intro x2p89 f_this_statep89 r h
    exact absurd h (kb_w_z _ _ _)
  | succ fuel ih =>
    intro x2p89 f_this_statep89 r h H locs ls hP hD hS hl hk0
    obtain ⟨o, h, ho⟩ := kb_w_s h
    have h : kSX5_begin_89 x1j84 f_this_roots f_this_start224 f_this_start256 x2p89 f_this_statep89 = some o := h
    unfold kSX5_begin_89 at h
    refine lv_iload_n hx hb kdX5_begin_89 rfl (lv_at hl 2 rfl) ?_
    refine lv_bipush (v := 8) hx hb kdX5_begin_90 (by decide) ?_
    refine lv_icmp_ge (tgt := 203) hx hb kdX5_begin_92 (by decide) (fun c_12 => ?_) (fun c_12 => ?_)
    · have h := kb_b_t c_12 h
      obtain rfl := Option.some.inj h
      exact hk0 x2p89 f_this_statep89 ho.symm _ _ _ hP hD hS (lv_sub hl [0, 1, 2] rfl)
    · have h := kb_b_f c_12 h
      refine lv_iload_n hx hb kdX5_begin_95 rfl (lv_at hl 1 rfl) ?_
      refine lv_bipush (v := 7) hx hb kdX5_begin_96 (by decide) ?_
      refine lv_icmp_ge (tgt := 203) hx hb kdX5_begin_98 (by decide) (fun c_13 => ?_) (fun c_13 => ?_)
      · have h := kb_b_t c_13 h
        obtain rfl := Option.some.inj h
        exact hk0 x2p89 f_this_statep89 ho.symm _ _ _ hP hD hS (lv_sub hl [0, 1, 2] rfl)
      · have h := kb_b_f c_13 h
        refine lv_aload_n hx hb kdX5_begin_101 rfl (lv_at hl 0 rfl) ?_
        refine va_get (ci := 5) (v := .ref (a_this 13)) (C := kRX5) (T := kTX5) (N := 35) hx hb hts kinX5 hown hK hP 0 rfl rfl 13 (by decide) (hts _ km_694) (fun _ h9 => h9) rfl kdX5_begin_102 ?_
        refine lv_iload_n hx hb kdX5_begin_105 rfl (lv_at hl 2 rfl) ?_
        refine lv_iload_n hx hb kdX5_begin_106 rfl (lv_at hl 1 rfl) ?_
        refine lv_iconst (v := 1) hx hb kdX5_begin_107 (by decide) ?_
        refine lv_icmp_ne (tgt := 123) hx hb kdX5_begin_108 (by decide) (fun c_14 => ?_) (fun c_14 => ?_)
        · have h := kb_b_f c_14 h
          refine lv_iload_n hx hb kdX5_begin_123 rfl (lv_at hl 1 rfl) ?_
          refine lv_iconst (v := 4) hx hb kdX5_begin_124 (by decide) ?_
          refine lv_icmp_ne (tgt := 144) hx hb kdX5_begin_125 (by decide) (fun c_15 => ?_) (fun c_15 => ?_)
          · have h := kb_b_f c_15 h
            refine lv_iload_n hx hb kdX5_begin_144 rfl (lv_at hl 1 rfl) ?_
            refine lv_iconst (v := 2) hx hb kdX5_begin_145 (by decide) ?_
            refine lv_icmp_ne (tgt := 161) hx hb kdX5_begin_146 (by decide) (fun c_16 => ?_) (fun c_16 => ?_)
            · have h := kb_b_f c_16 h
              refine lv_iload_n hx hb kdX5_begin_161 rfl (lv_at hl 1 rfl) ?_
              refine lv_iconst (v := 5) hx hb kdX5_begin_162 (by decide) ?_
              refine lv_icmp_ne (tgt := 175) hx hb kdX5_begin_163 (by decide) (fun c_17 => ?_) (fun c_17 => ?_)
              · have h := kb_b_f c_17 h
                refine lv_iload_n hx hb kdX5_begin_175 rfl (lv_at hl 1 rfl) ?_
                refine lv_bipush (v := 6) hx hb kdX5_begin_176 (by decide) ?_
                refine lv_icmp_ne (tgt := 190) hx hb kdX5_begin_178 (by decide) (fun c_18 => ?_) (fun c_18 => ?_)
                · have h := kb_b_f c_18 h
                  refine lv_aload_n hx hb kdX5_begin_190 rfl (lv_at hl 0 rfl) ?_
                  refine va_get (ci := 5) (v := .ref (a_this 5)) (C := kRX5) (T := kTX5) (N := 35) hx hb hts kinX5 hown hK hP 0 rfl rfl 5 (by decide) (hts _ km_686) (fun _ h9 => h9) rfl kdX5_begin_191 ?_
                  refine lv_iload_n hx hb kdX5_begin_194 rfl (lv_at hl 2 rfl) ?_
                  obtain ⟨g_19, h⟩ := kb_g_s h
                  refine va_lald hx hb hK hP 1 2 rfl rfl (kb_in_v g_19) kdX5_begin_195 ?_
                  obtain ⟨g_20, h⟩ := kb_g_s h
                  refine va_last hx hb hK hP hD hS 4 2 rfl rfl (kb_in_v g_20) kdX5_begin_196 (fun H locs hP hD hS => ?_)
                  obtain ⟨f_21, ef_21⟩ : ∃ y, y = vp_updL f_this_statep89 x2p89.toNatClampNeg (f_this_roots x2p89.toNatClampNeg) := ⟨_, rfl⟩
                  have h := kb_n_s ef_21 h
                  have hP : va_P D kCl (kWX5_begin cB cI cL cBB cII cSh h_this a_this this_taped this_code this_kindj84 y0j84 this_filledj84 this_totalj84 this_bitAt this_k this_e1 this_du this_dv f_this_roots f_this_start224 f_this_start256 f_21) H := by rw [ef_21]; exact hP
                  have hD : va_D A (kWX5_begin cB cI cL cBB cII cSh h_this a_this this_taped this_code this_kindj84 y0j84 this_filledj84 this_totalj84 this_bitAt this_k this_e1 this_du this_dv f_this_roots f_this_start224 f_this_start256 f_21) := by rw [ef_21]; exact hD
                  obtain ⟨x2_22, ex2_22⟩ : ∃ y : Int32, y = x2p89 + Int32.ofInt 1 := ⟨_, rfl⟩
                  have h := kb_n_s ex2_22 h
                  refine lv_iinc (v := x2_22) (lv' := [(2, .int x2_22), (0, .ref h_this), (1, .int x1j84)]) hx hb kdX5_begin_197 hl (k := 2) rfl ex2_22.symm (by decide) rfl (fun ls hl => ?_)
                  refine lv_goto (tgt := 89) hx hb kdX5_begin_200 (by decide) ?_
                  obtain rfl := Option.some.inj h
                  exact ih x2_22 f_21 r ho _ _ _ hP hD hS (lv_sub hl [1, 2, 0] rfl) hk0
                · have h := kb_b_t c_18 h
                  refine lv_aload_n hx hb kdX5_begin_181 rfl (lv_at hl 0 rfl) ?_
                  refine va_get (ci := 5) (v := .ref (a_this 8)) (C := kRX5) (T := kTX5) (N := 35) hx hb hts kinX5 hown hK hP 0 rfl rfl 8 (by decide) (hts _ km_689) (fun _ h9 => h9) rfl kdX5_begin_182 ?_
                  refine lv_iload_n hx hb kdX5_begin_185 rfl (lv_at hl 2 rfl) ?_
                  obtain ⟨g_23, h⟩ := kb_g_s h
                  refine va_lald hx hb hK hP 3 2 rfl rfl (kb_in_v g_23) kdX5_begin_186 ?_
                  refine lv_goto (tgt := 196) hx hb kdX5_begin_187 (by decide) ?_
                  obtain ⟨g_24, h⟩ := kb_g_s h
                  refine va_last hx hb hK hP hD hS 4 2 rfl rfl (kb_in_v g_24) kdX5_begin_196 (fun H locs hP hD hS => ?_)
                  obtain ⟨f_25, ef_25⟩ : ∃ y, y = vp_updL f_this_statep89 x2p89.toNatClampNeg (f_this_start256 x2p89.toNatClampNeg) := ⟨_, rfl⟩
                  have h := kb_n_s ef_25 h
                  have hP : va_P D kCl (kWX5_begin cB cI cL cBB cII cSh h_this a_this this_taped this_code this_kindj84 y0j84 this_filledj84 this_totalj84 this_bitAt this_k this_e1 this_du this_dv f_this_roots f_this_start224 f_this_start256 f_25) H := by rw [ef_25]; exact hP
                  have hD : va_D A (kWX5_begin cB cI cL cBB cII cSh h_this a_this this_taped this_code this_kindj84 y0j84 this_filledj84 this_totalj84 this_bitAt this_k this_e1 this_du this_dv f_this_roots f_this_start224 f_this_start256 f_25) := by rw [ef_25]; exact hD
                  obtain ⟨x2_26, ex2_26⟩ : ∃ y : Int32, y = x2p89 + Int32.ofInt 1 := ⟨_, rfl⟩
                  have h := kb_n_s ex2_26 h
                  refine lv_iinc (v := x2_26) (lv' := [(2, .int x2_26), (0, .ref h_this), (1, .int x1j84)]) hx hb kdX5_begin_197 hl (k := 2) rfl ex2_26.symm (by decide) rfl (fun ls hl => ?_)
                  refine lv_goto (tgt := 89) hx hb kdX5_begin_200 (by decide) ?_
                  obtain rfl := Option.some.inj h
                  exact ih x2_26 f_25 r ho _ _ _ hP hD hS (lv_sub hl [1, 2, 0] rfl) hk0
              · have h := kb_b_t c_17 h
                refine lv_aload_n hx hb kdX5_begin_166 rfl (lv_at hl 0 rfl) ?_
                refine va_get (ci := 5) (v := .ref (a_this 7)) (C := kRX5) (T := kTX5) (N := 35) hx hb hts kinX5 hown hK hP 0 rfl rfl 7 (by decide) (hts _ km_688) (fun _ h9 => h9) rfl kdX5_begin_167 ?_
                refine lv_iload_n hx hb kdX5_begin_170 rfl (lv_at hl 2 rfl) ?_
                obtain ⟨g_27, h⟩ := kb_g_s h
                refine va_lald hx hb hK hP 2 2 rfl rfl (kb_in_v g_27) kdX5_begin_171 ?_
                refine lv_goto (tgt := 196) hx hb kdX5_begin_172 (by decide) ?_
                obtain ⟨g_28, h⟩ := kb_g_s h
                refine va_last hx hb hK hP hD hS 4 2 rfl rfl (kb_in_v g_28) kdX5_begin_196 (fun H locs hP hD hS => ?_)
                obtain ⟨f_29, ef_29⟩ : ∃ y, y = vp_updL f_this_statep89 x2p89.toNatClampNeg (f_this_start224 x2p89.toNatClampNeg) := ⟨_, rfl⟩
                have h := kb_n_s ef_29 h
                have hP : va_P D kCl (kWX5_begin cB cI cL cBB cII cSh h_this a_this this_taped this_code this_kindj84 y0j84 this_filledj84 this_totalj84 this_bitAt this_k this_e1 this_du this_dv f_this_roots f_this_start224 f_this_start256 f_29) H := by rw [ef_29]; exact hP
                have hD : va_D A (kWX5_begin cB cI cL cBB cII cSh h_this a_this this_taped this_code this_kindj84 y0j84 this_filledj84 this_totalj84 this_bitAt this_k this_e1 this_du this_dv f_this_roots f_this_start224 f_this_start256 f_29) := by rw [ef_29]; exact hD
                obtain ⟨x2_30, ex2_30⟩ : ∃ y : Int32, y = x2p89 + Int32.ofInt 1 := ⟨_, rfl⟩
                have h := kb_n_s ex2_30 h
                refine lv_iinc (v := x2_30) (lv' := [(2, .int x2_30), (0, .ref h_this), (1, .int x1j84)]) hx hb kdX5_begin_197 hl (k := 2) rfl ex2_30.symm (by decide) rfl (fun ls hl => ?_)
                refine lv_goto (tgt := 89) hx hb kdX5_begin_200 (by decide) ?_
                obtain rfl := Option.some.inj h
                exact ih x2_30 f_29 r ho _ _ _ hP hD hS (lv_sub hl [1, 2, 0] rfl) hk0
            · have h := kb_b_t c_16 h
              refine lv_aload_n hx hb kdX5_begin_149 rfl (lv_at hl 0 rfl) ?_
              refine va_get (ci := 5) (v := .ref (a_this 5)) (C := kRX5) (T := kTX5) (N := 35) hx hb hts kinX5 hown hK hP 0 rfl rfl 5 (by decide) (hts _ km_686) (fun _ h9 => h9) rfl kdX5_begin_150 ?_
              refine lv_bipush (v := 8) hx hb kdX5_begin_153 (by decide) ?_
              refine lv_iload_n hx hb kdX5_begin_155 rfl (lv_at hl 2 rfl) ?_
              refine lv_iadd hx hb kdX5_begin_156 ?_
              obtain ⟨g_31, h⟩ := kb_g_s h
              refine va_lald hx hb hK hP 1 2 rfl rfl (kb_in_v g_31) kdX5_begin_157 ?_
              refine lv_goto (tgt := 196) hx hb kdX5_begin_158 (by decide) ?_
              obtain ⟨g_32, h⟩ := kb_g_s h
              refine va_last hx hb hK hP hD hS 4 2 rfl rfl (kb_in_v g_32) kdX5_begin_196 (fun H locs hP hD hS => ?_)
              obtain ⟨f_33, ef_33⟩ : ∃ y, y = vp_updL f_this_statep89 x2p89.toNatClampNeg (f_this_roots ((8 : Int32) + x2p89).toNatClampNeg) := ⟨_, rfl⟩
              have h := kb_n_s ef_33 h
              have hP : va_P D kCl (kWX5_begin cB cI cL cBB cII cSh h_this a_this this_taped this_code this_kindj84 y0j84 this_filledj84 this_totalj84 this_bitAt this_k this_e1 this_du this_dv f_this_roots f_this_start224 f_this_start256 f_33) H := by rw [ef_33]; exact hP
              have hD : va_D A (kWX5_begin cB cI cL cBB cII cSh h_this a_this this_taped this_code this_kindj84 y0j84 this_filledj84 this_totalj84 this_bitAt this_k this_e1 this_du this_dv f_this_roots f_this_start224 f_this_start256 f_33) := by rw [ef_33]; exact hD
              obtain ⟨x2_34, ex2_34⟩ : ∃ y : Int32, y = x2p89 + Int32.ofInt 1 := ⟨_, rfl⟩
              have h := kb_n_s ex2_34 h
              refine lv_iinc (v := x2_34) (lv' := [(2, .int x2_34), (0, .ref h_this), (1, .int x1j84)]) hx hb kdX5_begin_197 hl (k := 2) rfl ex2_34.symm (by decide) rfl (fun ls hl => ?_)
              refine lv_goto (tgt := 89) hx hb kdX5_begin_200 (by decide) ?_
              obtain rfl := Option.some.inj h
              exact ih x2_34 f_33 r ho _ _ _ hP hD hS (lv_sub hl [1, 2, 0] rfl) hk0
          · have h := kb_b_t c_15 h
            refine lv_aload_n hx hb kdX5_begin_128 rfl (lv_at hl 0 rfl) ?_
            refine va_get (ci := 5) (v := .ref (a_this 5)) (C := kRX5) (T := kTX5) (N := 35) hx hb hts kinX5 hown hK hP 0 rfl rfl 5 (by decide) (hts _ km_686) (fun _ h9 => h9) rfl kdX5_begin_129 ?_
            refine lv_bipush (v := 8) hx hb kdX5_begin_132 (by decide) ?_
            refine lv_iload_n hx hb kdX5_begin_134 rfl (lv_at hl 2 rfl) ?_
            refine lv_iadd hx hb kdX5_begin_135 ?_
            obtain ⟨g_35, h⟩ := kb_g_s h
            refine va_lald hx hb hK hP 1 2 rfl rfl (kb_in_v g_35) kdX5_begin_136 ?_
            refine lv_ldc2 (v := 4294967295) hx hb hown (hts _ km_639) kdX5_begin_137 ?_
            refine lv_land hx hb kdX5_begin_140 ?_
            refine lv_goto (tgt := 196) hx hb kdX5_begin_141 (by decide) ?_
            obtain ⟨g_36, h⟩ := kb_g_s h
            refine va_last hx hb hK hP hD hS 4 2 rfl rfl (kb_in_v g_36) kdX5_begin_196 (fun H locs hP hD hS => ?_)
            obtain ⟨f_37, ef_37⟩ : ∃ y, y = vp_updL f_this_statep89 x2p89.toNatClampNeg ((f_this_roots ((8 : Int32) + x2p89).toNatClampNeg) &&& (4294967295 : Int64)) := ⟨_, rfl⟩
            have h := kb_n_s ef_37 h
            have hP : va_P D kCl (kWX5_begin cB cI cL cBB cII cSh h_this a_this this_taped this_code this_kindj84 y0j84 this_filledj84 this_totalj84 this_bitAt this_k this_e1 this_du this_dv f_this_roots f_this_start224 f_this_start256 f_37) H := by rw [ef_37]; exact hP
            have hD : va_D A (kWX5_begin cB cI cL cBB cII cSh h_this a_this this_taped this_code this_kindj84 y0j84 this_filledj84 this_totalj84 this_bitAt this_k this_e1 this_du this_dv f_this_roots f_this_start224 f_this_start256 f_37) := by rw [ef_37]; exact hD
            obtain ⟨x2_38, ex2_38⟩ : ∃ y : Int32, y = x2p89 + Int32.ofInt 1 := ⟨_, rfl⟩
            have h := kb_n_s ex2_38 h
            refine lv_iinc (v := x2_38) (lv' := [(2, .int x2_38), (0, .ref h_this), (1, .int x1j84)]) hx hb kdX5_begin_197 hl (k := 2) rfl ex2_38.symm (by decide) rfl (fun ls hl => ?_)
            refine lv_goto (tgt := 89) hx hb kdX5_begin_200 (by decide) ?_
            obtain rfl := Option.some.inj h
            exact ih x2_38 f_37 r ho _ _ _ hP hD hS (lv_sub hl [1, 2, 0] rfl) hk0
        · have h := kb_b_t c_14 h
          refine lv_aload_n hx hb kdX5_begin_111 rfl (lv_at hl 0 rfl) ?_
          refine va_get (ci := 5) (v := .ref (a_this 5)) (C := kRX5) (T := kTX5) (N := 35) hx hb hts kinX5 hown hK hP 0 rfl rfl 5 (by decide) (hts _ km_686) (fun _ h9 => h9) rfl kdX5_begin_112 ?_
          refine lv_iload_n hx hb kdX5_begin_115 rfl (lv_at hl 2 rfl) ?_
          obtain ⟨g_39, h⟩ := kb_g_s h
          refine va_lald hx hb hK hP 1 2 rfl rfl (kb_in_v g_39) kdX5_begin_116 ?_
          refine lv_bipush (v := 32) hx hb kdX5_begin_117 (by decide) ?_
          refine lv_lushr (v := (((f_this_roots x2p89.toNatClampNeg).toUInt64 >>> ((32 : Int32).toInt64.toUInt64 &&& Int64.toUInt64 63)).toInt64)) hx hb kdX5_begin_119 rfl ?_
          refine lv_goto (tgt := 196) hx hb kdX5_begin_120 (by decide) ?_
          obtain ⟨g_40, h⟩ := kb_g_s h
          refine va_last hx hb hK hP hD hS 4 2 rfl rfl (kb_in_v g_40) kdX5_begin_196 (fun H locs hP hD hS => ?_)
          obtain ⟨f_41, ef_41⟩ : ∃ y, y = vp_updL f_this_statep89 x2p89.toNatClampNeg (((f_this_roots x2p89.toNatClampNeg).toUInt64 >>> ((32 : Int32).toInt64.toUInt64 &&& Int64.toUInt64 63)).toInt64) := ⟨_, rfl⟩
          have h := kb_n_s ef_41 h
          have hP : va_P D kCl (kWX5_begin cB cI cL cBB cII cSh h_this a_this this_taped this_code this_kindj84 y0j84 this_filledj84 this_totalj84 this_bitAt this_k this_e1 this_du this_dv f_this_roots f_this_start224 f_this_start256 f_41) H := by rw [ef_41]; exact hP
          have hD : va_D A (kWX5_begin cB cI cL cBB cII cSh h_this a_this this_taped this_code this_kindj84 y0j84 this_filledj84 this_totalj84 this_bitAt this_k this_e1 this_du this_dv f_this_roots f_this_start224 f_this_start256 f_41) := by rw [ef_41]; exact hD
          obtain ⟨x2_42, ex2_42⟩ : ∃ y : Int32, y = x2p89 + Int32.ofInt 1 := ⟨_, rfl⟩
          have h := kb_n_s ex2_42 h
          refine lv_iinc (v := x2_42) (lv' := [(2, .int x2_42), (0, .ref h_this), (1, .int x1j84)]) hx hb kdX5_begin_197 hl (k := 2) rfl ex2_42.symm (by decide) rfl (fun ls hl => ?_)
          refine lv_goto (tgt := 89) hx hb kdX5_begin_200 (by decide) ?_
          obtain rfl := Option.some.inj h
          exact ih x2_42 f_41 r ho _ _ _ hP hD hS (lv_sub hl [1, 2, 0] rfl) hk0
set_option maxHeartbeats 4000000 in
set_option maxRecDepth 100000 in
theorem kjX5_begin_84 {p : Program} {l : Launch} {e : Env} {s : State} {m : MethodId} {args : Array Value} {below : List Frame} {meth : Method} {c : Code} {D : va_G} {cB cI cL cBB cII cSh : ClassId} {A : Nat → Prop} (C0 : CallFix p m c prog_8_method_25_code 3 s args kwA kRX5) (hlocks : meth.locks = false) (hr : meth.sig.returnType = none) (hK : va_K D kCl (kb_T cB cI cL cBB cII cSh) s) (hN : kb_N s) (hA : ∀ q, s.heap.size ≤ q → A q) (h_this : Nat) (a_this : Nat → Nat) (x1j84 : Int32) (this_taped : Int32) (this_code : Int32) (this_kindj84 : Int32) (this_ratej84 : Int32) (this_filledj84 : Int32) (this_totalj84 : Int64) (this_bitAt : Int32) (this_k : Int32) (this_e1 : Int32) (this_du : Int32) (this_dv : Int32) (f_this_roots : Nat → Int64) (f_this_start224 : Nat → Int64) (f_this_start256 : Nat → Int64) (f_this_statej84 : Nat → Int64) (y0j84 : Int32) (out : Int32 × Int32 × Int32 × Int64 × (Nat → Int64)) (h : kJX5_begin_84 x1j84 this_kindj84 this_filledj84 this_totalj84 f_this_roots f_this_start224 f_this_start256 f_this_statej84 y0j84 = some out) (H : Heap) (locs : List Loc) (ls : Array Slot) (hP : va_P D kCl (kWX5_begin cB cI cL cBB cII cSh h_this a_this this_taped this_code this_kindj84 this_ratej84 this_filledj84 this_totalj84 this_bitAt this_k this_e1 this_du this_dv f_this_roots f_this_start224 f_this_start256 f_this_statej84) H) (hD : va_D A (kWX5_begin cB cI cL cBB cII cSh h_this a_this this_taped this_code this_kindj84 this_ratej84 this_filledj84 this_totalj84 this_bitAt this_k this_e1 this_du this_dv f_this_roots f_this_start224 f_this_start256 f_this_statej84)) (hS : va_S A s.heap H locs) (hl : lv_has ls 3 [(0, .ref h_this), (1, .int x1j84)]) : W p l e krX5_begin s m args below meth c H locs 0 0 (MQ below (kb_Q D kCl (kb_T cB cI cL cBB cII cSh) A none (kWX5_begin cB cI cL cBB cII cSh h_this a_this this_taped this_code out.2.1 out.2.2.1 out.1 out.2.2.2.1 this_bitAt this_k this_e1 this_du this_dv f_this_roots f_this_start224 f_this_start256 out.2.2.2.2)) args s 0 0 A) (F0 m 84 ls [.int y0j84, .ref h_this]) := by
  obtain ⟨hx, hb, hml, hown, hts⟩ := id C0
  unfold kJX5_begin_84 at h
  refine va_put (ci := 5) (v := .int y0j84) (C := kRX5) (T := kTX5) (N := 35) hx hb hts kinX5 ktyX5 ktyX5_ok knX5 hown hK hP hD hS 0 rfl rfl 19 (by decide) (hts _ km_700) (fun _ h9 => h9) rfl (ktyX5_ok 19 (by decide)) rfl rfl (Nat.le_of_ble_eq_true rfl) kdX5_begin_84 (fun H locs hP hD hS => ?_)
  have hP : va_P D kCl (kWX5_begin cB cI cL cBB cII cSh h_this a_this this_taped this_code this_kindj84 y0j84 this_filledj84 this_totalj84 this_bitAt this_k this_e1 this_du this_dv f_this_roots f_this_start224 f_this_start256 f_this_statej84) H := hP
  have hD : va_D A (kWX5_begin cB cI cL cBB cII cSh h_this a_this this_taped this_code this_kindj84 y0j84 this_filledj84 this_totalj84 this_bitAt this_k this_e1 this_du this_dv f_this_roots f_this_start224 f_this_start256 f_this_statej84) := hD
  refine lv_iconst (v := 0) hx hb kdX5_begin_87 (by decide) ?_
  refine lv_istore_n (lv' := [(2, .int (0 : Int32)), (0, .ref h_this), (1, .int x1j84)]) hx hb kdX5_begin_88 rfl hl (by decide) rfl (fun ls hl => ?_)
  obtain ⟨r_45, hr_45, h⟩ := kb_o_s h
  refine klX5_begin_89 C0 hlocks hK hN hA (by decide) (by decide) h_this a_this x1j84 this_taped this_code this_kindj84 y0j84 this_filledj84 this_totalj84 this_bitAt this_k this_e1 this_du this_dv f_this_roots f_this_start224 f_this_start256 100000 (0 : Int32) f_this_statej84 r_45 hr_45 _ _ _ hP hD hS (lv_sub hl [1, 2, 0] rfl) (fun x2p89_43 f_this_statep89_44 er_45 H locs ls hP hD hS hl => ?_)
  subst er_45
  obtain rfl := Option.some.inj h
  exact W.vret hx hb hr (fun t ht hW => ⟨⟨rfl, by rw [ht]; exact hP, va_K.moved hW.alike hK, hD⟩, hS.F ht⟩) hS.2.2 kdX5_begin_203
set_option maxHeartbeats 4000000 in
set_option maxRecDepth 100000 in
theorem kcX5_begin (l : Launch) (D : va_G) (cB cI cL cBB cII cSh : ClassId) (h_this : Nat) (a_this : Nat → Nat) (sz : Nat) (p1 : Int32) (this_taped : Int32) (this_code : Int32) (this_kind : Int32) (this_rate : Int32) (this_filled : Int32) (this_total : Int64) (this_bitAt : Int32) (this_k : Int32) (this_e1 : Int32) (this_du : Int32) (this_dv : Int32) (f_this_roots : Nat → Int64) (f_this_start224 : Nat → Int64) (f_this_start256 : Nat → Int64) (f_this_state : Nat → Int64) (out : Int32 × Int32 × Int32 × Int64 × (Nat → Int64)) (h : kFX5_begin p1 f_this_roots f_this_start224 f_this_start256 f_this_state = some out) : Met l kyX5_begin kwX5_begin krX5_begin (kb_P D kCl (kb_T cB cI cL cBB cII cSh) [.ref h_this, .int p1] (kWX5_begin cB cI cL cBB cII cSh h_this a_this this_taped this_code this_kind this_rate this_filled this_total this_bitAt this_k this_e1 this_du this_dv f_this_roots f_this_start224 f_this_start256 f_this_state) sz) (kb_Q D kCl (kb_T cB cI cL cBB cII cSh) (va_A (kWX5_begin cB cI cL cBB cII cSh h_this a_this this_taped this_code this_kind this_rate this_filled this_total this_bitAt this_k this_e1 this_du this_dv f_this_roots f_this_start224 f_this_start256 f_this_state) sz) none (kWX5_begin cB cI cL cBB cII cSh h_this a_this this_taped this_code out.2.1 out.2.2.1 out.1 out.2.2.2.1 this_bitAt this_k this_e1 this_du this_dv f_this_roots f_this_start224 f_this_start256 out.2.2.2.2)) 0 0 (va_A (kWX5_begin cB cI cL cBB cII cSh h_this a_this this_taped this_code this_kind this_rate this_filled this_total this_bitAt this_k this_e1 this_du this_dv f_this_roots f_this_start224 f_this_start256 f_this_state) sz) := by
  refine Met.ofW (cc := prog_8_method_25_code) (maxL := 3) (ret := none) (by decide) rfl ?_
  intro p e s m args below meth c s₁ B hml hv
  obtain ⟨rfl, hsz, hP, hK, hN, hD0⟩ := hv
  have hx := B.exec
  have hb := B.bytes
  have hr := B.returns
  have hts0 := atoms_spec (ws := kwX5_begin) B.pre
  have hts : ∀ w ∈ kwA, w.before _ s = true := fun w h => hts0 w (List.mem_cons_of_mem _ h)
  have hown : s.vm.findClass kRX5 = some m.cls := findClass_of_methodNamed B.named
  have hlocks := B.notSynchronized
  subst hsz
  have hD := hD0.self (sz := s.heap.size)
  generalize hAe : va_A (kWX5_begin cB cI cL cBB cII cSh h_this a_this this_taped this_code this_kind this_rate this_filled this_total this_bitAt this_k this_e1 this_du this_dv f_this_roots f_this_start224 f_this_start256 f_this_state) s.heap.size = A at hD ⊢
  have hA : ∀ q : Nat, s.heap.size ≤ q → A q := fun q h => by rw [← hAe]; exact Or.inr h
  have hS : va_S A s.heap s.heap [] := va_S.rf
  have C0 : CallFix p m c prog_8_method_25_code 3 s _ kwA kRX5 := ⟨hx, hb, hml, hown, hts⟩
  have hl := lv_entry ([.ref h_this, .int p1]) (n := 3) (Nat.le_of_ble_eq_true rfl)
  rw [lg_entry_eq]
  generalize (lg_sl ([.ref h_this, .int p1]) ++ List.replicate (3 - (lg_sl ([.ref h_this, .int p1])).length) Slot.unset).toArray = ls at hl ⊢
  have hl : lv_has ls 3 [(0, .ref h_this), (1, .int p1)] := hl
  unfold kFX5_begin at h
  refine lv_aload_n hx hb kdX5_begin_0 rfl (lv_at hl 0 rfl) ?_
  refine lv_iload_n hx hb kdX5_begin_1 rfl (lv_at hl 1 rfl) ?_
  refine va_put (ci := 5) (v := .int p1) (C := kRX5) (T := kTX5) (N := 35) hx hb hts kinX5 ktyX5 ktyX5_ok knX5 hown hK hP hD hS 0 rfl rfl 18 (by decide) (hts _ km_699) (fun _ h9 => h9) rfl (ktyX5_ok 18 (by decide)) rfl rfl (Nat.le_of_ble_eq_true rfl) kdX5_begin_2 (fun H locs hP hD hS => ?_)
  have hP : va_P D kCl (kWX5_begin cB cI cL cBB cII cSh h_this a_this this_taped this_code p1 this_rate this_filled this_total this_bitAt this_k this_e1 this_du this_dv f_this_roots f_this_start224 f_this_start256 f_this_state) H := hP
  have hD : va_D A (kWX5_begin cB cI cL cBB cII cSh h_this a_this this_taped this_code p1 this_rate this_filled this_total this_bitAt this_k this_e1 this_du this_dv f_this_roots f_this_start224 f_this_start256 f_this_state) := hD
  refine lv_aload_n hx hb kdX5_begin_5 rfl (lv_at hl 0 rfl) ?_
  refine lv_iconst (v := 0) hx hb kdX5_begin_6 (by decide) ?_
  refine va_put (ci := 5) (v := .int (0 : Int32)) (C := kRX5) (T := kTX5) (N := 35) hx hb hts kinX5 ktyX5 ktyX5_ok knX5 hown hK hP hD hS 0 rfl rfl 20 (by decide) (hts _ km_701) (fun _ h9 => h9) rfl (ktyX5_ok 20 (by decide)) rfl rfl (Nat.le_of_ble_eq_true rfl) kdX5_begin_7 (fun H locs hP hD hS => ?_)
  have hP : va_P D kCl (kWX5_begin cB cI cL cBB cII cSh h_this a_this this_taped this_code p1 this_rate (0 : Int32) this_total this_bitAt this_k this_e1 this_du this_dv f_this_roots f_this_start224 f_this_start256 f_this_state) H := hP
  have hD : va_D A (kWX5_begin cB cI cL cBB cII cSh h_this a_this this_taped this_code p1 this_rate (0 : Int32) this_total this_bitAt this_k this_e1 this_du this_dv f_this_roots f_this_start224 f_this_start256 f_this_state) := hD
  refine lv_aload_n hx hb kdX5_begin_10 rfl (lv_at hl 0 rfl) ?_
  refine lv_lconst (v := 0) hx hb kdX5_begin_11 (by decide) ?_
  refine va_put (ci := 5) (v := .long (0 : Int64)) (C := kRX5) (T := kTX5) (N := 35) hx hb hts kinX5 ktyX5 ktyX5_ok knX5 hown hK hP hD hS 0 rfl rfl 21 (by decide) (hts _ km_702) (fun _ h9 => h9) rfl (ktyX5_ok 21 (by decide)) rfl rfl (Nat.le_of_ble_eq_true rfl) kdX5_begin_12 (fun H locs hP hD hS => ?_)
  have hP : va_P D kCl (kWX5_begin cB cI cL cBB cII cSh h_this a_this this_taped this_code p1 this_rate (0 : Int32) (0 : Int64) this_bitAt this_k this_e1 this_du this_dv f_this_roots f_this_start224 f_this_start256 f_this_state) H := hP
  have hD : va_D A (kWX5_begin cB cI cL cBB cII cSh h_this a_this this_taped this_code p1 this_rate (0 : Int32) (0 : Int64) this_bitAt this_k this_e1 this_du this_dv f_this_roots f_this_start224 f_this_start256 f_this_state) := hD
  refine lv_iconst (v := 0) hx hb kdX5_begin_15 (by decide) ?_
  refine lv_istore_n (lv' := [(2, .int (0 : Int32)), (0, .ref h_this), (1, .int p1)]) hx hb kdX5_begin_16 rfl hl (by decide) rfl (fun ls hl => ?_)
  obtain ⟨r_48, hr_48, h⟩ := kb_o_s h
  refine klX5_begin_17 C0 hlocks hK hN hA (by decide) (by decide) h_this a_this p1 this_taped this_code this_rate this_bitAt this_k this_e1 this_du this_dv f_this_roots f_this_start224 f_this_start256 100000 (0 : Int32) f_this_state r_48 hr_48 _ _ _ hP hD hS (lv_sub hl [1, 2, 0] rfl) (fun x2p17_5 f_this_statep17_6 er_48 H locs ls hP hD hS hl => ?_)
  subst er_48
  refine lv_aload_n hx hb kdX5_begin_36 rfl (lv_at hl 0 rfl) ?_
  refine lv_iload_n hx hb kdX5_begin_37 rfl (lv_at hl 1 rfl) ?_
  refine lv_bipush (v := 11) hx hb kdX5_begin_38 (by decide) ?_
  refine lv_icmp_ne (tgt := 49) hx hb kdX5_begin_40 (by decide) (fun c_7 => ?_) (fun c_7 => ?_)
  · have h := kb_b_f c_7 h
    refine lv_iload_n hx hb kdX5_begin_49 rfl (lv_at hl 1 rfl) ?_
    refine lv_bipush (v := 12) hx hb kdX5_begin_50 (by decide) ?_
    refine lv_icmp_ne (tgt := 61) hx hb kdX5_begin_52 (by decide) (fun c_8 => ?_) (fun c_8 => ?_)
    · have h := kb_b_f c_8 h
      refine lv_iload_n hx hb kdX5_begin_61 rfl (lv_at hl 1 rfl) ?_
      refine lv_bipush (v := 6) hx hb kdX5_begin_62 (by decide) ?_
      refine lv_icmp_le (tgt := 80) hx hb kdX5_begin_64 (by decide) (fun c_9 => ?_) (fun c_9 => ?_)
      · have h := kb_b_t c_9 h
        refine lv_iload_n hx hb kdX5_begin_80 rfl (lv_at hl 1 rfl) ?_
        obtain ⟨u_11, hu_11, h⟩ := kb_o_s h
        obtain ⟨r_10, rfl⟩ : ∃ z, z = u_11 := ⟨_, rfl⟩
        have hC := (show ([] : List Nat).map (fun i : Nat => (kWX5_begin cB cI cL cBB cII cSh h_this a_this this_taped this_code p1 this_rate (0 : Int32) (0 : Int64) this_bitAt this_k this_e1 this_du this_dv f_this_roots f_this_start224 f_this_start256 f_this_statep17_6)[i]?) = List.map some (kWX5_blockOf cB cI cL cBB cII cSh) from rfl)
        have hPc := kb_Psub hP ([] : List Nat) hC
        have hDc := kb_Dsub hD ([] : List Nat) hC (by simp [kb_nd])
        refine kb_call0 (va_runS (As := [.int p1]) (rest := [.ref h_this]) C0 (kcX5_blockOf l D cB cI cL cBB cII cSh  _ p1 r_10 hu_11) (va_cwS 1 hts (kb_gS km_636 km_637 km_6 km_638) rfl rfl rfl (by decide +kernel) ⟨Nat.le_of_ble_eq_true rfl, Nat.le_of_ble_eq_true rfl⟩) ⟨kb_P_bl, (fun U hU hW => ⟨rfl, by rw [hU], by rw [hU]; exact hPc, va_K.moved hW.alike hK, kb_N_to hW hN, hDc.weaken (fun _ _ _ _ => trivial)⟩)⟩ rfl rfl hl.1 rfl (lv_room (Nat.le_of_ble_eq_true rfl)) kdX5_begin_81 ⟨Nat.le_of_ble_eq_true rfl, Nat.le_of_ble_eq_true rfl⟩) hP hD hS hA ([] : List Nat) hC rfl (fun H locs hP hD hS => ?_)
        have hP : va_P D kCl (kWX5_begin cB cI cL cBB cII cSh h_this a_this this_taped this_code p1 this_rate (0 : Int32) (0 : Int64) this_bitAt this_k this_e1 this_du this_dv f_this_roots f_this_start224 f_this_start256 f_this_statep17_6) H := hP
        have hD : va_D A (kWX5_begin cB cI cL cBB cII cSh h_this a_this this_taped this_code p1 this_rate (0 : Int32) (0 : Int64) this_bitAt this_k this_e1 this_du this_dv f_this_roots f_this_start224 f_this_start256 f_this_statep17_6) := hD
        exact kjX5_begin_84 C0 hlocks hr hK hN hA h_this a_this p1 this_taped this_code p1 this_rate (0 : Int32) (0 : Int64) this_bitAt this_k this_e1 this_du this_dv f_this_roots f_this_start224 f_this_start256 f_this_statep17_6 r_10 _ h _ _ _ hP hD hS (lv_sub hl [0, 1] rfl)
      · have h := kb_b_f c_9 h
        refine lv_sipush (v := 200) hx hb kdX5_begin_67 (by decide) ?_
        refine lv_iconst (v := 2) hx hb kdX5_begin_70 (by decide) ?_
        refine lv_iload_n hx hb kdX5_begin_71 rfl (lv_at hl 1 rfl) ?_
        obtain ⟨u_47, hu_47, h⟩ := kb_o_s h
        obtain ⟨r_46, rfl⟩ : ∃ z, z = u_47 := ⟨_, rfl⟩
        have hC := (show ([] : List Nat).map (fun i : Nat => (kWX5_begin cB cI cL cBB cII cSh h_this a_this this_taped this_code p1 this_rate (0 : Int32) (0 : Int64) this_bitAt this_k this_e1 this_du this_dv f_this_roots f_this_start224 f_this_start256 f_this_statep17_6)[i]?) = List.map some (kWX5_digestOf cB cI cL cBB cII cSh) from rfl)
        have hPc := kb_Psub hP ([] : List Nat) hC
        have hDc := kb_Dsub hD ([] : List Nat) hC (by simp [kb_nd])
        refine kb_call0 (va_runS (As := [.int p1]) (rest := [.int (2 : Int32), .int (200 : Int32), .ref h_this]) C0 (kcX5_digestOf l D cB cI cL cBB cII cSh  _ p1 r_46 hu_47) (va_cwS 1 hts (kb_gS km_633 km_634 km_6 km_635) rfl rfl rfl (by decide +kernel) ⟨Nat.le_of_ble_eq_true rfl, Nat.le_of_ble_eq_true rfl⟩) ⟨kb_P_bl, (fun U hU hW => ⟨rfl, by rw [hU], by rw [hU]; exact hPc, va_K.moved hW.alike hK, kb_N_to hW hN, hDc.weaken (fun _ _ _ _ => trivial)⟩)⟩ rfl rfl hl.1 rfl (lv_room (Nat.le_of_ble_eq_true rfl)) kdX5_begin_72 ⟨Nat.le_of_ble_eq_true rfl, Nat.le_of_ble_eq_true rfl⟩) hP hD hS hA ([] : List Nat) hC rfl (fun H locs hP hD hS => ?_)
        have hP : va_P D kCl (kWX5_begin cB cI cL cBB cII cSh h_this a_this this_taped this_code p1 this_rate (0 : Int32) (0 : Int64) this_bitAt this_k this_e1 this_du this_dv f_this_roots f_this_start224 f_this_start256 f_this_statep17_6) H := hP
        have hD : va_D A (kWX5_begin cB cI cL cBB cII cSh h_this a_this this_taped this_code p1 this_rate (0 : Int32) (0 : Int64) this_bitAt this_k this_e1 this_du this_dv f_this_roots f_this_start224 f_this_start256 f_this_statep17_6) := hD
        refine lv_imul hx hb kdX5_begin_75 ?_
        refine lv_isub hx hb kdX5_begin_76 ?_
        refine lv_goto (tgt := 84) hx hb kdX5_begin_77 (by decide) ?_
        exact kjX5_begin_84 C0 hlocks hr hK hN hA h_this a_this p1 this_taped this_code p1 this_rate (0 : Int32) (0 : Int64) this_bitAt this_k this_e1 this_du this_dv f_this_roots f_this_start224 f_this_start256 f_this_statep17_6 ((200 : Int32) - ((2 : Int32) * r_46)) _ h _ _ _ hP hD hS (lv_sub hl [0, 1] rfl)
    · have h := kb_b_t c_8 h
      refine lv_sipush (v := 136) hx hb kdX5_begin_55 (by decide) ?_
      refine lv_goto (tgt := 84) hx hb kdX5_begin_58 (by decide) ?_
      exact kjX5_begin_84 C0 hlocks hr hK hN hA h_this a_this p1 this_taped this_code p1 this_rate (0 : Int32) (0 : Int64) this_bitAt this_k this_e1 this_du this_dv f_this_roots f_this_start224 f_this_start256 f_this_statep17_6 (136 : Int32) _ h _ _ _ hP hD hS (lv_sub hl [0, 1] rfl)
  · have h := kb_b_t c_7 h
    refine lv_sipush (v := 168) hx hb kdX5_begin_43 (by decide) ?_
    refine lv_goto (tgt := 84) hx hb kdX5_begin_46 (by decide) ?_
    exact kjX5_begin_84 C0 hlocks hr hK hN hA h_this a_this p1 this_taped this_code p1 this_rate (0 : Int32) (0 : Int64) this_bitAt this_k this_e1 this_du this_dv f_this_roots f_this_start224 f_this_start256 f_this_statep17_6 (168 : Int32) _ h _ _ _ hP hD hS (lv_sub hl [0, 1] rfl)

-- 429.ModuleKemModel.flip.lean.txt
abbrev kWX5_flip (cB cI cL cBB cII cSh : ClassId) (h_this : Nat) (a_this : Nat → Nat) (this_taped : Int32) (this_code : Int32) (this_kind : Int32) (this_rate : Int32) (this_filled : Int32) (this_total : Int64) (this_bitAt : Int32) (this_k : Int32) (this_e1 : Int32) (this_du : Int32) (this_dv : Int32) (f_this_state : Nat → Int64) : va_W := [(h_this, koX5 a_this this_taped this_code this_kind this_rate this_filled this_total this_bitAt this_k this_e1 this_du this_dv), ((a_this 13), .inl (cL, 25, .inr (.inl f_this_state)))]
def krX5_flip : Room := { frames := 0, cells := 0, slots := 0, locals := 0 }
set_option maxHeartbeats 4000000 in
set_option maxRecDepth 100000 in
theorem kcX5_flip (l : Launch) (D : va_G) (cB cI cL cBB cII cSh : ClassId) (h_this : Nat) (a_this : Nat → Nat) (sz : Nat) (p1 : Int32) (p2 : Int32) (this_taped : Int32) (this_code : Int32) (this_kind : Int32) (this_rate : Int32) (this_filled : Int32) (this_total : Int64) (this_bitAt : Int32) (this_k : Int32) (this_e1 : Int32) (this_du : Int32) (this_dv : Int32) (f_this_state : Nat → Int64) (out : (Nat → Int64)) (h : kFX5_flip p1 p2 f_this_state = some out) : Met l kyX5_flip kwX5_flip krX5_flip (kb_P D kCl (kb_T cB cI cL cBB cII cSh) [.ref h_this, .int p1, .int p2] (kWX5_flip cB cI cL cBB cII cSh h_this a_this this_taped this_code this_kind this_rate this_filled this_total this_bitAt this_k this_e1 this_du this_dv f_this_state) sz) (kb_Q D kCl (kb_T cB cI cL cBB cII cSh) (va_A (kWX5_flip cB cI cL cBB cII cSh h_this a_this this_taped this_code this_kind this_rate this_filled this_total this_bitAt this_k this_e1 this_du this_dv f_this_state) sz) none (kWX5_flip cB cI cL cBB cII cSh h_this a_this this_taped this_code this_kind this_rate this_filled this_total this_bitAt this_k this_e1 this_du this_dv out)) 0 0 (va_A (kWX5_flip cB cI cL cBB cII cSh h_this a_this this_taped this_code this_kind this_rate this_filled this_total this_bitAt this_k this_e1 this_du this_dv f_this_state) sz) := by
  refine Met.ofW (cc := prog_8_method_26_code) (maxL := 3) (ret := none) (by decide) rfl ?_
  intro p e s m args below meth c s₁ B hml hv
  obtain ⟨rfl, hsz, hP, hK, hN, hD0⟩ := hv
  have hx := B.exec
  have hb := B.bytes
  have hr := B.returns
  have hts0 := atoms_spec (ws := kwX5_flip) B.pre
  have hts : ∀ w ∈ kwA, w.before _ s = true := fun w h => hts0 w (List.mem_cons_of_mem _ h)
  have hown : s.vm.findClass kRX5 = some m.cls := findClass_of_methodNamed B.named
  have hlocks := B.notSynchronized
  subst hsz
  have hD := hD0.self (sz := s.heap.size)
  generalize hAe : va_A (kWX5_flip cB cI cL cBB cII cSh h_this a_this this_taped this_code this_kind this_rate this_filled this_total this_bitAt this_k this_e1 this_du this_dv f_this_state) s.heap.size = A at hD ⊢
  have hA : ∀ q : Nat, s.heap.size ≤ q → A q := fun q h => by rw [← hAe]; exact Or.inr h
  have hS : va_S A s.heap s.heap [] := va_S.rf
  have C0 : CallFix p m c prog_8_method_26_code 3 s _ kwA kRX5 := ⟨hx, hb, hml, hown, hts⟩
  have hl := lv_entry ([.ref h_this, .int p1, .int p2]) (n := 3) (Nat.le_of_ble_eq_true rfl)
  rw [lg_entry_eq]
  generalize (lg_sl ([.ref h_this, .int p1, .int p2]) ++ List.replicate (3 - (lg_sl ([.ref h_this, .int p1, .int p2])).length) Slot.unset).toArray = ls at hl ⊢
  have hl : lv_has ls 3 [(0, .ref h_this), (1, .int p1), (2, .int p2)] := hl
  unfold kFX5_flip at h
  refine lv_aload_n hx hb kdX5_flip_0 rfl (lv_at hl 0 rfl) ?_
  refine va_get (ci := 5) (v := .ref (a_this 13)) (C := kRX5) (T := kTX5) (N := 35) hx hb hts kinX5 hown hK hP 0 rfl rfl 13 (by decide) (hts _ km_694) (fun _ h9 => h9) rfl kdX5_flip_1 ?_
  refine lv_iload_n hx hb kdX5_flip_4 rfl (lv_at hl 1 rfl) ?_
  refine lv_bipush (v := 8) hx hb kdX5_flip_5 (by decide) ?_
  refine lv_idiv hx hb kdX5_flip_7 (by decide) ?_
  refine lv_dup2_11 hx hb kdX5_flip_8 rfl rfl ?_
  obtain ⟨g_1, h⟩ := kb_g_s h
  refine va_lald hx hb hK hP 1 2 rfl rfl (kb_in_v g_1) kdX5_flip_9 ?_
  refine lv_iload_n hx hb kdX5_flip_10 rfl (lv_at hl 2 rfl) ?_
  refine lv_i2l (v := (p2.toInt64)) hx hb kdX5_flip_11 rfl ?_
  refine lv_ldc2 (v := 255) hx hb hown (hts _ km_653) kdX5_flip_12 ?_
  refine lv_land hx hb kdX5_flip_15 ?_
  refine lv_bipush (v := 8) hx hb kdX5_flip_16 (by decide) ?_
  refine lv_iload_n hx hb kdX5_flip_18 rfl (lv_at hl 1 rfl) ?_
  refine lv_bipush (v := 8) hx hb kdX5_flip_19 (by decide) ?_
  refine lv_irem hx hb kdX5_flip_21 (by decide) ?_
  refine lv_imul hx hb kdX5_flip_22 ?_
  refine lv_lshl (v := (((p2.toInt64) &&& (255 : Int64)) <<< (((8 : Int32) * (p1 - p1 / (8 : Int32) * (8 : Int32))).toInt64 &&& 63))) hx hb kdX5_flip_23 rfl ?_
  refine lv_lxor hx hb kdX5_flip_24 ?_
  obtain ⟨g_2, h⟩ := kb_g_s h
  refine va_last hx hb hK hP hD hS 1 2 rfl rfl (kb_in_v g_2) kdX5_flip_25 (fun H locs hP hD hS => ?_)
  obtain ⟨f_3, ef_3⟩ : ∃ y, y = vp_updL f_this_state (p1 / (8 : Int32)).toNatClampNeg ((f_this_state (p1 / (8 : Int32)).toNatClampNeg) ^^^ (((p2.toInt64) &&& (255 : Int64)) <<< (((8 : Int32) * (p1 - p1 / (8 : Int32) * (8 : Int32))).toInt64 &&& 63))) := ⟨_, rfl⟩
  have h := kb_n_s ef_3 h
  have hP : va_P D kCl (kWX5_flip cB cI cL cBB cII cSh h_this a_this this_taped this_code this_kind this_rate this_filled this_total this_bitAt this_k this_e1 this_du this_dv f_3) H := by rw [ef_3]; exact hP
  have hD : va_D A (kWX5_flip cB cI cL cBB cII cSh h_this a_this this_taped this_code this_kind this_rate this_filled this_total this_bitAt this_k this_e1 this_du this_dv f_3) := by rw [ef_3]; exact hD
  obtain rfl := Option.some.inj h
  exact W.vret hx hb hr (fun t ht hW => ⟨⟨rfl, by rw [ht]; exact hP, va_K.moved hW.alike hK, hD⟩, hS.F ht⟩) hS.2.2 kdX5_flip_26

-- 430.ModuleKemModel.left.lean.txt
abbrev kWX5_left (cB cI cL cBB cII cSh : ClassId)   : va_W := []
def krX5_left : Room := { frames := 0, cells := 0, slots := 0, locals := 0 }
set_option maxHeartbeats 4000000 in
set_option maxRecDepth 100000 in
theorem kcX5_left (l : Launch) (D : va_G) (cB cI cL cBB cII cSh : ClassId)  (sz : Nat) (p1 : Int64) (p2 : Int32) (out : Int64) (h : kFX5_left p1 p2 = some out) : Met l kyX5_left kwX5_left krX5_left (kb_P D kCl (kb_T cB cI cL cBB cII cSh) [.long p1, .int p2] (kWX5_left cB cI cL cBB cII cSh) sz) (kb_Q D kCl (kb_T cB cI cL cBB cII cSh) (va_A (kWX5_left cB cI cL cBB cII cSh) sz) (some (.long out)) (kWX5_left cB cI cL cBB cII cSh)) 0 0 (va_A (kWX5_left cB cI cL cBB cII cSh) sz) := by
  refine Met.ofW (cc := prog_8_method_30_code) (maxL := 3) (ret := (some .long)) (by decide) rfl ?_
  intro p e s m args below meth c s₁ B hml hv
  obtain ⟨rfl, hsz, hP, hK, hN, hD0⟩ := hv
  have hx := B.exec
  have hb := B.bytes
  have hr := B.returns
  have hts0 := atoms_spec (ws := kwX5_left) B.pre
  have hts : ∀ w ∈ kwA, w.before _ s = true := fun w h => hts0 w (List.mem_cons_of_mem _ h)
  have hown : s.vm.findClass kRX5 = some m.cls := findClass_of_methodNamed B.named
  have hlocks := B.notSynchronized
  subst hsz
  have hD := hD0.self (sz := s.heap.size)
  generalize hAe : va_A (kWX5_left cB cI cL cBB cII cSh) s.heap.size = A at hD ⊢
  have hA : ∀ q : Nat, s.heap.size ≤ q → A q := fun q h => by rw [← hAe]; exact Or.inr h
  have hS : va_S A s.heap s.heap [] := va_S.rf
  have C0 : CallFix p m c prog_8_method_30_code 3 s _ kwA kRX5 := ⟨hx, hb, hml, hown, hts⟩
  have hl := lv_entry ([.long p1, .int p2]) (n := 3) (Nat.le_of_ble_eq_true rfl)
  rw [lg_entry_eq]
  generalize (lg_sl ([.long p1, .int p2]) ++ List.replicate (3 - (lg_sl ([.long p1, .int p2])).length) Slot.unset).toArray = ls at hl ⊢
  have hl : lv_has ls 3 [(0, .long p1), (2, .int p2)] := hl
  unfold kFX5_left at h
  refine lv_iload_n hx hb kdX5_left_0 rfl (lv_at hl 1 rfl) ?_
  refine lv_if_ne (tgt := 8) hx hb kdX5_left_1 (by decide) (fun c_1 => ?_) (fun c_1 => ?_)
  · have h := kb_b_f c_1 h
    refine lv_lload_n hx hb kdX5_left_8 rfl (lv_at hl 0 rfl) ?_
    refine lv_iload_n hx hb kdX5_left_9 rfl (lv_at hl 1 rfl) ?_
    refine lv_lshl (v := (p1 <<< (p2.toInt64 &&& 63))) hx hb kdX5_left_10 rfl ?_
    refine lv_lload_n hx hb kdX5_left_11 rfl (lv_at hl 0 rfl) ?_
    refine lv_bipush (v := 64) hx hb kdX5_left_12 (by decide) ?_
    refine lv_iload_n hx hb kdX5_left_14 rfl (lv_at hl 1 rfl) ?_
    refine lv_isub hx hb kdX5_left_15 ?_
    refine lv_lushr (v := ((p1.toUInt64 >>> (((64 : Int32) - p2).toInt64.toUInt64 &&& Int64.toUInt64 63)).toInt64)) hx hb kdX5_left_16 rfl ?_
    refine lv_lor hx hb kdX5_left_17 ?_
    obtain rfl := Option.some.inj h
    exact W.lret (v := ((p1 <<< (p2.toInt64 &&& 63)) ||| ((p1.toUInt64 >>> (((64 : Int32) - p2).toInt64.toUInt64 &&& Int64.toUInt64 63)).toInt64))) hx hb hr (fun t ht hW => ⟨⟨rfl, by rw [ht]; exact hP, va_K.moved hW.alike hK, hD⟩, hS.F ht⟩) hS.2.2 kdX5_left_18
  · have h := kb_b_t c_1 h
    refine lv_lload_n hx hb kdX5_left_4 rfl (lv_at hl 0 rfl) ?_
    refine lv_goto (tgt := 18) hx hb kdX5_left_5 (by decide) ?_
    obtain rfl := Option.some.inj h
    exact W.lret (v := p1) hx hb hr (fun t ht hW => ⟨⟨rfl, by rw [ht]; exact hP, va_K.moved hW.alike hK, hD⟩, hS.F ht⟩) hS.2.2 kdX5_left_18

-- 431.ModuleKemModel.right.lean.txt
abbrev kWX5_right (cB cI cL cBB cII cSh : ClassId)   : va_W := []
def krX5_right : Room := { frames := 0, cells := 0, slots := 0, locals := 0 }
set_option maxHeartbeats 4000000 in
set_option maxRecDepth 100000 in
theorem kcX5_right (l : Launch) (D : va_G) (cB cI cL cBB cII cSh : ClassId)  (sz : Nat) (p1 : Int64) (p2 : Int32) (out : Int64) (h : kFX5_right p1 p2 = some out) : Met l kyX5_right kwX5_right krX5_right (kb_P D kCl (kb_T cB cI cL cBB cII cSh) [.long p1, .int p2] (kWX5_right cB cI cL cBB cII cSh) sz) (kb_Q D kCl (kb_T cB cI cL cBB cII cSh) (va_A (kWX5_right cB cI cL cBB cII cSh) sz) (some (.long out)) (kWX5_right cB cI cL cBB cII cSh)) 0 0 (va_A (kWX5_right cB cI cL cBB cII cSh) sz) := by
  refine Met.ofW (cc := prog_8_method_31_code) (maxL := 3) (ret := (some .long)) (by decide) rfl ?_
  intro p e s m args below meth c s₁ B hml hv
  obtain ⟨rfl, hsz, hP, hK, hN, hD0⟩ := hv
  have hx := B.exec
  have hb := B.bytes
  have hr := B.returns
  have hts0 := atoms_spec (ws := kwX5_right) B.pre
  have hts : ∀ w ∈ kwA, w.before _ s = true := fun w h => hts0 w (List.mem_cons_of_mem _ h)
  have hown : s.vm.findClass kRX5 = some m.cls := findClass_of_methodNamed B.named
  have hlocks := B.notSynchronized
  subst hsz
  have hD := hD0.self (sz := s.heap.size)
  generalize hAe : va_A (kWX5_right cB cI cL cBB cII cSh) s.heap.size = A at hD ⊢
  have hA : ∀ q : Nat, s.heap.size ≤ q → A q := fun q h => by rw [← hAe]; exact Or.inr h
  have hS : va_S A s.heap s.heap [] := va_S.rf
  have C0 : CallFix p m c prog_8_method_31_code 3 s _ kwA kRX5 := ⟨hx, hb, hml, hown, hts⟩
  have hl := lv_entry ([.long p1, .int p2]) (n := 3) (Nat.le_of_ble_eq_true rfl)
  rw [lg_entry_eq]
  generalize (lg_sl ([.long p1, .int p2]) ++ List.replicate (3 - (lg_sl ([.long p1, .int p2])).length) Slot.unset).toArray = ls at hl ⊢
  have hl : lv_has ls 3 [(0, .long p1), (2, .int p2)] := hl
  unfold kFX5_right at h
  refine lv_lload_n hx hb kdX5_right_0 rfl (lv_at hl 0 rfl) ?_
  refine lv_iload_n hx hb kdX5_right_1 rfl (lv_at hl 1 rfl) ?_
  refine lv_lushr (v := ((p1.toUInt64 >>> (p2.toInt64.toUInt64 &&& Int64.toUInt64 63)).toInt64)) hx hb kdX5_right_2 rfl ?_
  refine lv_lload_n hx hb kdX5_right_3 rfl (lv_at hl 0 rfl) ?_
  refine lv_bipush (v := 64) hx hb kdX5_right_4 (by decide) ?_
  refine lv_iload_n hx hb kdX5_right_6 rfl (lv_at hl 1 rfl) ?_
  refine lv_isub hx hb kdX5_right_7 ?_
  refine lv_lshl (v := (p1 <<< (((64 : Int32) - p2).toInt64 &&& 63))) hx hb kdX5_right_8 rfl ?_
  refine lv_lor hx hb kdX5_right_9 ?_
  obtain rfl := Option.some.inj h
  exact W.lret (v := (((p1.toUInt64 >>> (p2.toInt64.toUInt64 &&& Int64.toUInt64 63)).toInt64) ||| (p1 <<< (((64 : Int32) - p2).toInt64 &&& 63)))) hx hb hr (fun t ht hW => ⟨⟨rfl, by rw [ht]; exact hP, va_K.moved hW.alike hK, hD⟩, hS.F ht⟩) hS.2.2 kdX5_right_10

-- 432.ModuleKemModel.turn.lean.txt
abbrev kWX5_turn (cB cI cL cBB cII cSh : ClassId)   : va_W := []
def krX5_turn : Room := { frames := 0, cells := 0, slots := 0, locals := 0 }
set_option maxHeartbeats 4000000 in
set_option maxRecDepth 100000 in
theorem kcX5_turn (l : Launch) (D : va_G) (cB cI cL cBB cII cSh : ClassId)  (sz : Nat) (p1 : Int32) (p2 : Int32) (out : Int32) (h : kFX5_turn p1 p2 = some out) : Met l kyX5_turn kwX5_turn krX5_turn (kb_P D kCl (kb_T cB cI cL cBB cII cSh) [.int p1, .int p2] (kWX5_turn cB cI cL cBB cII cSh) sz) (kb_Q D kCl (kb_T cB cI cL cBB cII cSh) (va_A (kWX5_turn cB cI cL cBB cII cSh) sz) (some (.int out)) (kWX5_turn cB cI cL cBB cII cSh)) 0 0 (va_A (kWX5_turn cB cI cL cBB cII cSh) sz) := by
  refine Met.ofW (cc := prog_8_method_32_code) (maxL := 2) (ret := (some .int)) (by decide) rfl ?_
  intro p e s m args below meth c s₁ B hml hv
  obtain ⟨rfl, hsz, hP, hK, hN, hD0⟩ := hv
  have hx := B.exec
  have hb := B.bytes
  have hr := B.returns
  have hts0 := atoms_spec (ws := kwX5_turn) B.pre
  have hts : ∀ w ∈ kwA, w.before _ s = true := fun w h => hts0 w (List.mem_cons_of_mem _ h)
  have hown : s.vm.findClass kRX5 = some m.cls := findClass_of_methodNamed B.named
  have hlocks := B.notSynchronized
  subst hsz
  have hD := hD0.self (sz := s.heap.size)
  generalize hAe : va_A (kWX5_turn cB cI cL cBB cII cSh) s.heap.size = A at hD ⊢
  have hA : ∀ q : Nat, s.heap.size ≤ q → A q := fun q h => by rw [← hAe]; exact Or.inr h
  have hS : va_S A s.heap s.heap [] := va_S.rf
  have C0 : CallFix p m c prog_8_method_32_code 2 s _ kwA kRX5 := ⟨hx, hb, hml, hown, hts⟩
  have hl := lv_entry ([.int p1, .int p2]) (n := 2) (Nat.le_of_ble_eq_true rfl)
  rw [lg_entry_eq]
  generalize (lg_sl ([.int p1, .int p2]) ++ List.replicate (2 - (lg_sl ([.int p1, .int p2])).length) Slot.unset).toArray = ls at hl ⊢
  have hl : lv_has ls 2 [(0, .int p1), (1, .int p2)] := hl
  unfold kFX5_turn at h
  refine lv_iload_n hx hb kdX5_turn_0 rfl (lv_at hl 0 rfl) ?_
  refine lv_iload_n hx hb kdX5_turn_1 rfl (lv_at hl 1 rfl) ?_
  refine lv_iushr (v := ((p1.toUInt32 >>> (p2.toUInt32 &&& Int32.toUInt32 31)).toInt32)) hx hb kdX5_turn_2 rfl ?_
  refine lv_iload_n hx hb kdX5_turn_3 rfl (lv_at hl 0 rfl) ?_
  refine lv_bipush (v := 32) hx hb kdX5_turn_4 (by decide) ?_
  refine lv_iload_n hx hb kdX5_turn_6 rfl (lv_at hl 1 rfl) ?_
  refine lv_isub hx hb kdX5_turn_7 ?_
  refine lv_ishl hx hb kdX5_turn_8 ?_
  refine lv_ior hx hb kdX5_turn_9 ?_
  obtain rfl := Option.some.inj h
  exact W.iret (v := (((p1.toUInt32 >>> (p2.toUInt32 &&& Int32.toUInt32 31)).toInt32) ||| (p1 <<< (((32 : Int32) - p2) &&& 31)))) hx hb hr (fun t ht hW => ⟨⟨rfl, by rw [ht]; exact hP, va_K.moved hW.alike hK, hD⟩, hS.F ht⟩) hS.2.2 kdX5_turn_10

-- 433.ModuleKemModel.compress64.lean.txt
abbrev kWX5_compress64 (cB cI cL cBB cII cSh : ClassId) (h_this : Nat) (a_this : Nat → Nat) (this_taped : Int32) (this_code : Int32) (this_kind : Int32) (this_rate : Int32) (this_filled : Int32) (this_total : Int64) (this_bitAt : Int32) (this_k : Int32) (this_e1 : Int32) (this_du : Int32) (this_dv : Int32) (f_this_cubes : Nat → Int64) (f_this_state : Nat → Int64) (f_this_words : Nat → Int64) (f_this_block : Nat → Int32) : va_W := [(h_this, koX5 a_this this_taped this_code this_kind this_rate this_filled this_total this_bitAt this_k this_e1 this_du this_dv), ((a_this 6), .inl (cL, 80, .inr (.inl f_this_cubes))), ((a_this 13), .inl (cL, 25, .inr (.inl f_this_state))), ((a_this 16), .inl (cL, 80, .inr (.inl f_this_words))), ((a_this 17), .inl (cB, 128, .inl f_this_block))]
def krX5_compress64 : Room := { frames := 1, cells := 0, slots := 0, locals := 22 }
set_option maxHeartbeats 4000000 in
set_option maxRecDepth 100000 in
theorem klX5_compress64_17 {p : Program} {l : Launch} {e : Env} {s : State} {m : MethodId} {args : Array Value} {below : List Frame} {meth : Method} {c : Code} {cells slots : Nat} {Q : State → Prop} {D : va_G} {cB cI cL cBB cII cSh : ClassId} {A : Nat → Prop} (C0 : CallFix p m c prog_8_method_33_code 22 s args kwA kRX5) (hlocks : meth.locks = false) (hK : va_K D kCl (kb_T cB cI cL cBB cII cSh) s) (hN : kb_N s) (hA : ∀ q, s.heap.size ≤ q → A q) (hcR : cells ≤ krX5_compress64.cells) (hsR : slots ≤ krX5_compress64.slots) (h_this : Nat) (a_this : Nat → Nat) (x1p2 : Int32) (this_taped : Int32) (this_code : Int32) (this_kind : Int32) (this_rate : Int32) (this_filled : Int32) (this_total : Int64) (this_bitAt : Int32) (this_k : Int32) (this_e1 : Int32) (this_du : Int32) (this_dv : Int32) (f_this_cubes : Nat → Int64) (f_this_state : Nat → Int64) (f_this_block : Nat → Int32) :
    ∀ (fuel : Nat) (x2p17 : Int32) (f_this_wordsp17 : Nat → Int64) (r : Int32 × (Nat → Int64)), kb_w (fun u : Int32 × (Nat → Int64) => kSX5_compress64_17 x1p2 f_this_block u.1 u.2) fuel (x2p17, f_this_wordsp17) = some r → ∀ (H : Heap) (locs : List Loc) (ls : Array Slot), va_P D kCl (kWX5_compress64 cB cI cL cBB cII cSh h_this a_this this_taped this_code this_kind this_rate this_filled this_total this_bitAt this_k this_e1 this_du this_dv f_this_cubes f_this_state f_this_wordsp17 f_this_block) H → va_D A (kWX5_compress64 cB cI cL cBB cII cSh h_this a_this this_taped this_code this_kind this_rate this_filled this_total this_bitAt this_k this_e1 this_du this_dv f_this_cubes f_this_state f_this_wordsp17 f_this_block) → va_S A s.heap H locs → lv_has ls 22 [(0, .ref h_this), (1, .int x1p2), (2, .int x2p17)] → (∀ (x2p17' : Int32) (f_this_wordsp17' : Nat → Int64), r = (x2p17', f_this_wordsp17') → ∀ (H : Heap) (locs : List Loc) (ls : Array Slot), va_P D kCl (kWX5_compress64 cB cI cL cBB cII cSh h_this a_this this_taped this_code this_kind this_rate this_filled this_total this_bitAt this_k this_e1 this_du this_dv f_this_cubes f_this_state f_this_wordsp17' f_this_block) H → va_D A (kWX5_compress64 cB cI cL cBB cII cSh h_this a_this this_taped this_code this_kind this_rate this_filled this_total this_bitAt this_k this_e1 this_du this_dv f_this_cubes f_this_state f_this_wordsp17' f_this_block) → va_S A s.heap H locs → lv_has ls 22 [(0, .ref h_this), (1, .int x1p2), (2, .int x2p17')] → W p l e krX5_compress64 s m args below meth c H locs cells slots Q (F0 m 61 ls [])) → W p l e krX5_compress64 s m args below meth c H locs cells slots Q (F0 m 17 ls []) := by
  obtain ⟨hx, hb, hml, hown, hts⟩ := id C0
  intro fuel
  induction fuel with
  | zero =>
    intro x2p17 f_this_wordsp17 r h
    exact absurd h (kb_w_z _ _ _)
  | succ fuel ih =>
    intro x2p17 f_this_wordsp17 r h H locs ls hP hD hS hl hk0
    obtain ⟨o, h, ho⟩ := kb_w_s h
    have h : kSX5_compress64_17 x1p2 f_this_block x2p17 f_this_wordsp17 = some o := h
    unfold kSX5_compress64_17 at h
    refine lv_iload_n hx hb kdX5_compress64_17 rfl (lv_at hl 2 rfl) ?_
    refine lv_bipush (v := 8) hx hb kdX5_compress64_18 (by decide) ?_
    refine lv_icmp_ge (tgt := 61) hx hb kdX5_compress64_20 (by decide) (fun c_4 => ?_) (fun c_4 => ?_)
    · have h := kb_b_t c_4 h
      obtain rfl := Option.some.inj h
      exact hk0 x2p17 f_this_wordsp17 ho.symm _ _ _ hP hD hS (lv_sub hl [0, 1, 2] rfl)
    · have h := kb_b_f c_4 h
      refine lv_aload_n hx hb kdX5_compress64_23 rfl (lv_at hl 0 rfl) ?_
      refine va_get (ci := 5) (v := .ref (a_this 16)) (C := kRX5) (T := kTX5) (N := 35) hx hb hts kinX5 hown hK hP 0 rfl rfl 16 (by decide) (hts _ km_697) (fun _ h9 => h9) rfl kdX5_compress64_24 ?_
      refine lv_iload_n hx hb kdX5_compress64_27 rfl (lv_at hl 1 rfl) ?_
      refine lv_aload_n hx hb kdX5_compress64_28 rfl (lv_at hl 0 rfl) ?_
      refine va_get (ci := 5) (v := .ref (a_this 16)) (C := kRX5) (T := kTX5) (N := 35) hx hb hts kinX5 hown hK hP 0 rfl rfl 16 (by decide) (hts _ km_697) (fun _ h9 => h9) rfl kdX5_compress64_29 ?_
      refine lv_iload_n hx hb kdX5_compress64_32 rfl (lv_at hl 1 rfl) ?_
      obtain ⟨g_5, h⟩ := kb_g_s h
      refine va_lald hx hb hK hP 3 2 rfl rfl (kb_in_v g_5) kdX5_compress64_33 ?_
      refine lv_bipush (v := 8) hx hb kdX5_compress64_34 (by decide) ?_
      refine lv_lshl (v := ((f_this_wordsp17 x1p2.toNatClampNeg) <<< ((8 : Int32).toInt64 &&& 63))) hx hb kdX5_compress64_36 rfl ?_
      refine lv_aload_n hx hb kdX5_compress64_37 rfl (lv_at hl 0 rfl) ?_
      refine va_get (ci := 5) (v := .ref (a_this 17)) (C := kRX5) (T := kTX5) (N := 35) hx hb hts kinX5 hown hK hP 0 rfl rfl 17 (by decide) (hts _ km_698) (fun _ h9 => h9) rfl kdX5_compress64_38 ?_
      refine lv_bipush (v := 8) hx hb kdX5_compress64_41 (by decide) ?_
      refine lv_iload_n hx hb kdX5_compress64_43 rfl (lv_at hl 1 rfl) ?_
      refine lv_imul hx hb kdX5_compress64_44 ?_
      refine lv_iload_n hx hb kdX5_compress64_45 rfl (lv_at hl 2 rfl) ?_
      refine lv_iadd hx hb kdX5_compress64_46 ?_
      obtain ⟨g_6, h⟩ := kb_g_s h
      refine va_bald hx hb hK hP 4 0 rfl rfl (kb_in_v g_6) kdX5_compress64_47 ?_
      refine lv_i2l (v := ((f_this_block (((8 : Int32) * x1p2) + x2p17).toNatClampNeg).toInt64)) hx hb kdX5_compress64_48 rfl ?_
      refine lv_ldc2 (v := 255) hx hb hown (hts _ km_653) kdX5_compress64_49 ?_
      refine lv_land hx hb kdX5_compress64_52 ?_
      refine lv_lor hx hb kdX5_compress64_53 ?_
      obtain ⟨g_7, h⟩ := kb_g_s h
      refine va_last hx hb hK hP hD hS 3 2 rfl rfl (kb_in_v g_7) kdX5_compress64_54 (fun H locs hP hD hS => ?_)
      obtain ⟨f_8, ef_8⟩ : ∃ y, y = vp_updL f_this_wordsp17 x1p2.toNatClampNeg (((f_this_wordsp17 x1p2.toNatClampNeg) <<< ((8 : Int32).toInt64 &&& 63)) ||| (((f_this_block (((8 : Int32) * x1p2) + x2p17).toNatClampNeg).toInt64) &&& (255 : Int64))) := ⟨_, rfl⟩
      have h := kb_n_s ef_8 h
      have hP : va_P D kCl (kWX5_compress64 cB cI cL cBB cII cSh h_this a_this this_taped this_code this_kind this_rate this_filled this_total this_bitAt this_k this_e1 this_du this_dv f_this_cubes f_this_state f_8 f_this_block) H := by rw [ef_8]; exact hP
      have hD : va_D A (kWX5_compress64 cB cI cL cBB cII cSh h_this a_this this_taped this_code this_kind this_rate this_filled this_total this_bitAt this_k this_e1 this_du this_dv f_this_cubes f_this_state f_8 f_this_block) := by rw [ef_8]; exact hD
      obtain ⟨x2_9, ex2_9⟩ : ∃ y : Int32, y = x2p17 + Int32.ofInt 1 := ⟨_, rfl⟩
      have h := kb_n_s ex2_9 h
      refine lv_iinc (v := x2_9) (lv' := [(2, .int x2_9), (0, .ref h_this), (1, .int x1p2)]) hx hb kdX5_compress64_55 hl (k := 2) rfl ex2_9.symm (by decide) rfl (fun ls hl => ?_)
      refine lv_goto (tgt := 17) hx hb kdX5_compress64_58 (by decide) ?_
      obtain rfl := Option.some.inj h
      exact ih x2_9 f_8 r ho _ _ _ hP hD hS (lv_sub hl [1, 2, 0] rfl) hk0
set_option maxHeartbeats 4000000 in
set_option maxRecDepth 100000 in
theorem klX5_compress64_2 {p : Program} {l : Launch} {e : Env} {s : State} {m : MethodId} {args : Array Value} {below : List Frame} {meth : Method} {c : Code} {cells slots : Nat} {Q : State → Prop} {D : va_G} {cB cI cL cBB cII cSh : ClassId} {A : Nat → Prop} (C0 : CallFix p m c prog_8_method_33_code 22 s args kwA kRX5) (hlocks : meth.locks = false) (hK : va_K D kCl (kb_T cB cI cL cBB cII cSh) s) (hN : kb_N s) (hA : ∀ q, s.heap.size ≤ q → A q) (hcR : cells ≤ krX5_compress64.cells) (hsR : slots ≤ krX5_compress64.slots) (h_this : Nat) (a_this : Nat → Nat) (this_taped : Int32) (this_code : Int32) (this_kind : Int32) (this_rate : Int32) (this_filled : Int32) (this_total : Int64) (this_bitAt : Int32) (this_k : Int32) (this_e1 : Int32) (this_du : Int32) (this_dv : Int32) (f_this_cubes : Nat → Int64) (f_this_state : Nat → Int64) (f_this_block : Nat → Int32) :
    ∀ (fuel : Nat) (x1p2 : Int32) (f_this_wordsp2 : Nat → Int64) (r : Int32 × (Nat → Int64)), kb_w (fun u : Int32 × (Nat → Int64) => kSX5_compress64_2 f_this_block u.1 u.2) fuel (x1p2, f_this_wordsp2) = some r → ∀ (H : Heap) (locs : List Loc) (ls : Array Slot), va_P D kCl (kWX5_compress64 cB cI cL cBB cII cSh h_this a_this this_taped this_code this_kind this_rate this_filled this_total this_bitAt this_k this_e1 this_du this_dv f_this_cubes f_this_state f_this_wordsp2 f_this_block) H → va_D A (kWX5_compress64 cB cI cL cBB cII cSh h_this a_this this_taped this_code this_kind this_rate this_filled this_total this_bitAt this_k this_e1 this_du this_dv f_this_cubes f_this_state f_this_wordsp2 f_this_block) → va_S A s.heap H locs → lv_has ls 22 [(0, .ref h_this), (1, .int x1p2)] → (∀ (x1p2' : Int32) (f_this_wordsp2' : Nat → Int64), r = (x1p2', f_this_wordsp2') → ∀ (H : Heap) (locs : List Loc) (ls : Array Slot), va_P D kCl (kWX5_compress64 cB cI cL cBB cII cSh h_this a_this this_taped this_code this_kind this_rate this_filled this_total this_bitAt this_k this_e1 this_du this_dv f_this_cubes f_this_state f_this_wordsp2' f_this_block) H → va_D A (kWX5_compress64 cB cI cL cBB cII cSh h_this a_this this_taped this_code this_kind this_rate this_filled this_total this_bitAt this_k this_e1 this_du this_dv f_this_cubes f_this_state f_this_wordsp2' f_this_block) → va_S A s.heap H locs → lv_has ls 22 [(0, .ref h_this), (1, .int x1p2')] → W p l e krX5_compress64 s m args below meth c H locs cells slots Q (F0 m 67 ls [])) → W p l e krX5_compress64 s m args below meth c H locs cells slots Q (F0 m 2 ls []) := by
  obtain ⟨hx, hb, hml, hown, hts⟩ := id C0
  intro fuel
  induction fuel with
  | zero =>
    intro x1p2 f_this_wordsp2 r h
    exact absurd h (kb_w_z _ _ _)
  | succ fuel ih =>
    intro x1p2 f_this_wordsp2 r h H locs ls hP hD hS hl hk0
    obtain ⟨o, h, ho⟩ := kb_w_s h
    have h : kSX5_compress64_2 f_this_block x1p2 f_this_wordsp2 = some o := h
    unfold kSX5_compress64_2 at h
    refine lv_iload_n hx hb kdX5_compress64_2 rfl (lv_at hl 1 rfl) ?_
    refine lv_bipush (v := 16) hx hb kdX5_compress64_3 (by decide) ?_
    refine lv_icmp_ge (tgt := 67) hx hb kdX5_compress64_5 (by decide) (fun c_1 => ?_) (fun c_1 => ?_)
    · have h := kb_b_t c_1 h
      obtain rfl := Option.some.inj h
      exact hk0 x1p2 f_this_wordsp2 ho.symm _ _ _ hP hD hS (lv_sub hl [0, 1] rfl)
    · have h := kb_b_f c_1 h
      refine lv_aload_n hx hb kdX5_compress64_8 rfl (lv_at hl 0 rfl) ?_
      refine va_get (ci := 5) (v := .ref (a_this 16)) (C := kRX5) (T := kTX5) (N := 35) hx hb hts kinX5 hown hK hP 0 rfl rfl 16 (by decide) (hts _ km_697) (fun _ h9 => h9) rfl kdX5_compress64_9 ?_
      refine lv_iload_n hx hb kdX5_compress64_12 rfl (lv_at hl 1 rfl) ?_
      refine lv_lconst (v := 0) hx hb kdX5_compress64_13 (by decide) ?_
      obtain ⟨g_2, h⟩ := kb_g_s h
      refine va_last hx hb hK hP hD hS 3 2 rfl rfl (kb_in_v g_2) kdX5_compress64_14 (fun H locs hP hD hS => ?_)
      obtain ⟨f_3, ef_3⟩ : ∃ y, y = vp_updL f_this_wordsp2 x1p2.toNatClampNeg (0 : Int64) := ⟨_, rfl⟩
      have h := kb_n_s ef_3 h
      have hP : va_P D kCl (kWX5_compress64 cB cI cL cBB cII cSh h_this a_this this_taped this_code this_kind this_rate this_filled this_total this_bitAt this_k this_e1 this_du this_dv f_this_cubes f_this_state f_3 f_this_block) H := by rw [ef_3]; exact hP
      have hD : va_D A (kWX5_compress64 cB cI cL cBB cII cSh h_this a_this this_taped this_code this_kind this_rate this_filled this_total this_bitAt this_k this_e1 this_du this_dv f_this_cubes f_this_state f_3 f_this_block) := by rw [ef_3]; exact hD
      refine lv_iconst (v := 0) hx hb kdX5_compress64_15 (by decide) ?_
      refine lv_istore_n (lv' := [(2, .int (0 : Int32)), (0, .ref h_this), (1, .int x1p2)]) hx hb kdX5_compress64_16 rfl hl (by decide) rfl (fun ls hl => ?_)
      obtain ⟨r_13, hr_13, h⟩ := kb_o_s h
      refine klX5_compress64_17 C0 hlocks hK hN hA hcR hsR h_this a_this x1p2 this_taped this_code this_kind this_rate this_filled this_total this_bitAt this_k this_e1 this_du this_dv f_this_cubes f_this_state f_this_block 100000 (0 : Int32) f_3 r_13 hr_13 _ _ _ hP hD hS (lv_sub hl [1, 2, 0] rfl) (fun x2p17_10 f_this_wordsp17_11 er_13 H locs ls hP hD hS hl => ?_)
      subst er_13
      obtain ⟨x1_12, ex1_12⟩ : ∃ y : Int32, y = x1p2 + Int32.ofInt 1 := ⟨_, rfl⟩
      have h := kb_n_s ex1_12 h
      refine lv_iinc (v := x1_12) (lv' := [(1, .int x1_12), (0, .ref h_this), (2, .int x2p17_10)]) hx hb kdX5_compress64_61 hl (k := 1) rfl ex1_12.symm (by decide) rfl (fun ls hl => ?_)
      refine lv_goto (tgt := 2) hx hb kdX5_compress64_64 (by decide) ?_
      obtain rfl := Option.some.inj h
      exact ih x1_12 f_this_wordsp17_11 r ho _ _ _ hP hD hS (lv_sub hl [1, 0] rfl) hk0
set_option maxHeartbeats 4000000 in
set_option maxRecDepth 100000 in
theorem klX5_compress64_70 {p : Program} {l : Launch} {e : Env} {s : State} {m : MethodId} {args : Array Value} {below : List Frame} {meth : Method} {c : Code} {cells slots : Nat} {Q : State → Prop} {D : va_G} {cB cI cL cBB cII cSh : ClassId} {A : Nat → Prop} (C0 : CallFix p m c prog_8_method_33_code 22 s args kwA kRX5) (hlocks : meth.locks = false) (hK : va_K D kCl (kb_T cB cI cL cBB cII cSh) s) (hN : kb_N s) (hA : ∀ q, s.heap.size ≤ q → A q) (hcR : cells ≤ krX5_compress64.cells) (hsR : slots ≤ krX5_compress64.slots) (h_this : Nat) (a_this : Nat → Nat) (this_taped : Int32) (this_code : Int32) (this_kind : Int32) (this_rate : Int32) (this_filled : Int32) (this_total : Int64) (this_bitAt : Int32) (this_k : Int32) (this_e1 : Int32) (this_du : Int32) (this_dv : Int32) (f_this_cubes : Nat → Int64) (f_this_state : Nat → Int64) (f_this_block : Nat → Int32) :
    ∀ (fuel : Nat) (x1p70 : Int32) (f_this_wordsp70 : Nat → Int64) (r : Int32 × (Nat → Int64)), kb_w (fun u : Int32 × (Nat → Int64) => kSX5_compress64_70 u.1 u.2) fuel (x1p70, f_this_wordsp70) = some r → ∀ (H : Heap) (locs : List Loc) (ls : Array Slot), va_P D kCl (kWX5_compress64 cB cI cL cBB cII cSh h_this a_this this_taped this_code this_kind this_rate this_filled this_total this_bitAt this_k this_e1 this_du this_dv f_this_cubes f_this_state f_this_wordsp70 f_this_block) H → va_D A (kWX5_compress64 cB cI cL cBB cII cSh h_this a_this this_taped this_code this_kind this_rate this_filled this_total this_bitAt this_k this_e1 this_du this_dv f_this_cubes f_this_state f_this_wordsp70 f_this_block) → va_S A s.heap H locs → lv_has ls 22 [(0, .ref h_this), (1, .int x1p70)] → (∀ (x1p70' : Int32) (f_this_wordsp70' : Nat → Int64), r = (x1p70', f_this_wordsp70') → ∀ (H : Heap) (locs : List Loc) (ls : Array Slot), va_P D kCl (kWX5_compress64 cB cI cL cBB cII cSh h_this a_this this_taped this_code this_kind this_rate this_filled this_total this_bitAt this_k this_e1 this_du this_dv f_this_cubes f_this_state f_this_wordsp70' f_this_block) H → va_D A (kWX5_compress64 cB cI cL cBB cII cSh h_this a_this this_taped this_code this_kind this_rate this_filled this_total this_bitAt this_k this_e1 this_du this_dv f_this_cubes f_this_state f_this_wordsp70' f_this_block) → va_S A s.heap H locs → lv_has ls 22 [(0, .ref h_this), (1, .int x1p70')] → W p l e krX5_compress64 s m args below meth c H locs cells slots Q (F0 m 167 ls [])) → W p l e krX5_compress64 s m args below meth c H locs cells slots Q (F0 m 70 ls []) := by
  obtain ⟨hx, hb, hml, hown, hts⟩ := id C0
  intro fuel
  induction fuel with
  | zero =>
    intro x1p70 f_this_wordsp70 r h
    exact absurd h (kb_w_z _ _ _)
  | succ fuel ih =>
    intro x1p70 f_this_wordsp70 r h H locs ls hP hD hS hl hk0
    obtain ⟨o, h, ho⟩ := kb_w_s h
    have h : kSX5_compress64_70 x1p70 f_this_wordsp70 = some o := h
    unfold kSX5_compress64_70 at h
    refine lv_iload_n hx hb kdX5_compress64_70 rfl (lv_at hl 1 rfl) ?_
    refine lv_bipush (v := 80) hx hb kdX5_compress64_71 (by decide) ?_
    refine lv_icmp_ge (tgt := 167) hx hb kdX5_compress64_73 (by decide) (fun c_16 => ?_) (fun c_16 => ?_)
    · have h := kb_b_t c_16 h
      obtain rfl := Option.some.inj h
      exact hk0 x1p70 f_this_wordsp70 ho.symm _ _ _ hP hD hS (lv_sub hl [0, 1] rfl)
    · have h := kb_b_f c_16 h
      refine lv_aload_n hx hb kdX5_compress64_76 rfl (lv_at hl 0 rfl) ?_
      refine va_get (ci := 5) (v := .ref (a_this 16)) (C := kRX5) (T := kTX5) (N := 35) hx hb hts kinX5 hown hK hP 0 rfl rfl 16 (by decide) (hts _ km_697) (fun _ h9 => h9) rfl kdX5_compress64_77 ?_
      refine lv_iload_n hx hb kdX5_compress64_80 rfl (lv_at hl 1 rfl) ?_
      refine lv_iconst (v := 2) hx hb kdX5_compress64_81 (by decide) ?_
      refine lv_isub hx hb kdX5_compress64_82 ?_
      obtain ⟨g_17, h⟩ := kb_g_s h
      refine va_lald hx hb hK hP 3 2 rfl rfl (kb_in_v g_17) kdX5_compress64_83 ?_
      refine lv_topl (fun x2_18 ex2_18 => ?_)
      have h := kb_n_s ex2_18 h
      refine lv_lstore_n (lv' := [(2, .long x2_18), (0, .ref h_this), (1, .int x1p70)]) hx hb kdX5_compress64_84 rfl hl (by decide) rfl (fun ls hl => ?_)
      refine lv_aload_n hx hb kdX5_compress64_85 rfl (lv_at hl 1 rfl) ?_
      refine va_get (ci := 5) (v := .ref (a_this 16)) (C := kRX5) (T := kTX5) (N := 35) hx hb hts kinX5 hown hK hP 0 rfl rfl 16 (by decide) (hts _ km_697) (fun _ h9 => h9) rfl kdX5_compress64_86 ?_
      refine lv_iload_n hx hb kdX5_compress64_89 rfl (lv_at hl 2 rfl) ?_
      refine lv_bipush (v := 15) hx hb kdX5_compress64_90 (by decide) ?_
      refine lv_isub hx hb kdX5_compress64_92 ?_
      obtain ⟨g_19, h⟩ := kb_g_s h
      refine va_lald hx hb hK hP 3 2 rfl rfl (kb_in_v g_19) kdX5_compress64_93 ?_
      refine lv_topl (fun x4_20 ex4_20 => ?_)
      have h := kb_n_s ex4_20 h
      refine lv_lstore (lv' := [(4, .long x4_20), (2, .long x2_18), (0, .ref h_this), (1, .int x1p70)]) hx hb kdX5_compress64_94 hl (by decide) rfl (fun ls hl => ?_)
      refine lv_aload_n hx hb kdX5_compress64_96 rfl (lv_at hl 2 rfl) ?_
      refine va_get (ci := 5) (v := .ref (a_this 16)) (C := kRX5) (T := kTX5) (N := 35) hx hb hts kinX5 hown hK hP 0 rfl rfl 16 (by decide) (hts _ km_697) (fun _ h9 => h9) rfl kdX5_compress64_97 ?_
      refine lv_iload_n hx hb kdX5_compress64_100 rfl (lv_at hl 3 rfl) ?_
      refine lv_lload_n hx hb kdX5_compress64_101 rfl (lv_at hl 1 rfl) ?_
      refine lv_bipush (v := 19) hx hb kdX5_compress64_102 (by decide) ?_
      obtain ⟨u_22, hu_22, h⟩ := kb_o_s h
      obtain ⟨r_21, rfl⟩ : ∃ z, z = u_22 := ⟨_, rfl⟩
      have hC := (show ([] : List Nat).map (fun i : Nat => (kWX5_compress64 cB cI cL cBB cII cSh h_this a_this this_taped this_code this_kind this_rate this_filled this_total this_bitAt this_k this_e1 this_du this_dv f_this_cubes f_this_state f_this_wordsp70 f_this_block)[i]?) = List.map some (kWX5_right cB cI cL cBB cII cSh) from rfl)
      have hPc := kb_Psub hP ([] : List Nat) hC
      have hDc := kb_Dsub hD ([] : List Nat) hC (by simp [kb_nd])
      refine kb_call0 (va_runS (As := [.long x2_18, .int (19 : Int32)]) (rest := [.int x1p70, .ref (a_this 16)]) C0 (kcX5_right l D cB cI cL cBB cII cSh  _ x2_18 (19 : Int32) r_21 hu_22) (va_cwS 2 hts (kb_gS km_673 km_674 km_6 km_675) rfl rfl rfl (by decide +kernel) ⟨Nat.le_of_ble_eq_true rfl, Nat.le_of_ble_eq_true rfl⟩) ⟨kb_P_bl, (fun U hU hW => ⟨rfl, by rw [hU], by rw [hU]; exact hPc, va_K.moved hW.alike hK, kb_N_to hW hN, hDc.weaken (fun _ _ _ _ => trivial)⟩)⟩ rfl rfl hl.1 rfl (lv_room (Nat.le_of_ble_eq_true rfl)) kdX5_compress64_104 ⟨hcR, hsR⟩) hP hD hS hA ([] : List Nat) hC rfl (fun H locs hP hD hS => ?_)
      have hP : va_P D kCl (kWX5_compress64 cB cI cL cBB cII cSh h_this a_this this_taped this_code this_kind this_rate this_filled this_total this_bitAt this_k this_e1 this_du this_dv f_this_cubes f_this_state f_this_wordsp70 f_this_block) H := hP
      have hD : va_D A (kWX5_compress64 cB cI cL cBB cII cSh h_this a_this this_taped this_code this_kind this_rate this_filled this_total this_bitAt this_k this_e1 this_du this_dv f_this_cubes f_this_state f_this_wordsp70 f_this_block) := hD
      refine lv_lload_n hx hb kdX5_compress64_107 rfl (lv_at hl 1 rfl) ?_
      refine lv_bipush (v := 61) hx hb kdX5_compress64_108 (by decide) ?_
      obtain ⟨u_24, hu_24, h⟩ := kb_o_s h
      obtain ⟨r_23, rfl⟩ : ∃ z, z = u_24 := ⟨_, rfl⟩
      have hC := (show ([] : List Nat).map (fun i : Nat => (kWX5_compress64 cB cI cL cBB cII cSh h_this a_this this_taped this_code this_kind this_rate this_filled this_total this_bitAt this_k this_e1 this_du this_dv f_this_cubes f_this_state f_this_wordsp70 f_this_block)[i]?) = List.map some (kWX5_right cB cI cL cBB cII cSh) from rfl)
      have hPc := kb_Psub hP ([] : List Nat) hC
      have hDc := kb_Dsub hD ([] : List Nat) hC (by simp [kb_nd])
      refine kb_call0 (va_runS (As := [.long x2_18, .int (61 : Int32)]) (rest := [.long r_21, .int x1p70, .ref (a_this 16)]) C0 (kcX5_right l D cB cI cL cBB cII cSh  _ x2_18 (61 : Int32) r_23 hu_24) (va_cwS 2 hts (kb_gS km_673 km_674 km_6 km_675) rfl rfl rfl (by decide +kernel) ⟨Nat.le_of_ble_eq_true rfl, Nat.le_of_ble_eq_true rfl⟩) ⟨kb_P_bl, (fun U hU hW => ⟨rfl, by rw [hU], by rw [hU]; exact hPc, va_K.moved hW.alike hK, kb_N_to hW hN, hDc.weaken (fun _ _ _ _ => trivial)⟩)⟩ rfl rfl hl.1 rfl (lv_room (Nat.le_of_ble_eq_true rfl)) kdX5_compress64_110 ⟨hcR, hsR⟩) hP hD hS hA ([] : List Nat) hC rfl (fun H locs hP hD hS => ?_)
      have hP : va_P D kCl (kWX5_compress64 cB cI cL cBB cII cSh h_this a_this this_taped this_code this_kind this_rate this_filled this_total this_bitAt this_k this_e1 this_du this_dv f_this_cubes f_this_state f_this_wordsp70 f_this_block) H := hP
      have hD : va_D A (kWX5_compress64 cB cI cL cBB cII cSh h_this a_this this_taped this_code this_kind this_rate this_filled this_total this_bitAt this_k this_e1 this_du this_dv f_this_cubes f_this_state f_this_wordsp70 f_this_block) := hD
      refine lv_lxor hx hb kdX5_compress64_113 ?_
      refine lv_lload_n hx hb kdX5_compress64_114 rfl (lv_at hl 1 rfl) ?_
      refine lv_bipush (v := 6) hx hb kdX5_compress64_115 (by decide) ?_
      refine lv_lushr (v := ((x2_18.toUInt64 >>> ((6 : Int32).toInt64.toUInt64 &&& Int64.toUInt64 63)).toInt64)) hx hb kdX5_compress64_117 rfl ?_
      refine lv_lxor hx hb kdX5_compress64_118 ?_
      refine lv_aload_n hx hb kdX5_compress64_119 rfl (lv_at hl 2 rfl) ?_
      refine va_get (ci := 5) (v := .ref (a_this 16)) (C := kRX5) (T := kTX5) (N := 35) hx hb hts kinX5 hown hK hP 0 rfl rfl 16 (by decide) (hts _ km_697) (fun _ h9 => h9) rfl kdX5_compress64_120 ?_
      refine lv_iload_n hx hb kdX5_compress64_123 rfl (lv_at hl 3 rfl) ?_
      refine lv_bipush (v := 7) hx hb kdX5_compress64_124 (by decide) ?_
      refine lv_isub hx hb kdX5_compress64_126 ?_
      obtain ⟨g_25, h⟩ := kb_g_s h
      refine va_lald hx hb hK hP 3 2 rfl rfl (kb_in_v g_25) kdX5_compress64_127 ?_
      refine lv_ladd hx hb kdX5_compress64_128 ?_
      refine lv_lload hx hb kdX5_compress64_129 (lv_at hl 0 rfl) ?_
      refine lv_iconst (v := 1) hx hb kdX5_compress64_131 (by decide) ?_
      obtain ⟨u_27, hu_27, h⟩ := kb_o_s h
      obtain ⟨r_26, rfl⟩ : ∃ z, z = u_27 := ⟨_, rfl⟩
      have hC := (show ([] : List Nat).map (fun i : Nat => (kWX5_compress64 cB cI cL cBB cII cSh h_this a_this this_taped this_code this_kind this_rate this_filled this_total this_bitAt this_k this_e1 this_du this_dv f_this_cubes f_this_state f_this_wordsp70 f_this_block)[i]?) = List.map some (kWX5_right cB cI cL cBB cII cSh) from rfl)
      have hPc := kb_Psub hP ([] : List Nat) hC
      have hDc := kb_Dsub hD ([] : List Nat) hC (by simp [kb_nd])
      refine kb_call0 (va_runS (As := [.long x4_20, .int (1 : Int32)]) (rest := [.long (((r_21 ^^^ r_23) ^^^ ((x2_18.toUInt64 >>> ((6 : Int32).toInt64.toUInt64 &&& Int64.toUInt64 63)).toInt64)) + (f_this_wordsp70 (x1p70 - (7 : Int32)).toNatClampNeg)), .int x1p70, .ref (a_this 16)]) C0 (kcX5_right l D cB cI cL cBB cII cSh  _ x4_20 (1 : Int32) r_26 hu_27) (va_cwS 2 hts (kb_gS km_673 km_674 km_6 km_675) rfl rfl rfl (by decide +kernel) ⟨Nat.le_of_ble_eq_true rfl, Nat.le_of_ble_eq_true rfl⟩) ⟨kb_P_bl, (fun U hU hW => ⟨rfl, by rw [hU], by rw [hU]; exact hPc, va_K.moved hW.alike hK, kb_N_to hW hN, hDc.weaken (fun _ _ _ _ => trivial)⟩)⟩ rfl rfl hl.1 rfl (lv_room (Nat.le_of_ble_eq_true rfl)) kdX5_compress64_132 ⟨hcR, hsR⟩) hP hD hS hA ([] : List Nat) hC rfl (fun H locs hP hD hS => ?_)
      have hP : va_P D kCl (kWX5_compress64 cB cI cL cBB cII cSh h_this a_this this_taped this_code this_kind this_rate this_filled this_total this_bitAt this_k this_e1 this_du this_dv f_this_cubes f_this_state f_this_wordsp70 f_this_block) H := hP
      have hD : va_D A (kWX5_compress64 cB cI cL cBB cII cSh h_this a_this this_taped this_code this_kind this_rate this_filled this_total this_bitAt this_k this_e1 this_du this_dv f_this_cubes f_this_state f_this_wordsp70 f_this_block) := hD
      refine lv_lload hx hb kdX5_compress64_135 (lv_at hl 0 rfl) ?_
      refine lv_bipush (v := 8) hx hb kdX5_compress64_137 (by decide) ?_
      obtain ⟨u_29, hu_29, h⟩ := kb_o_s h
      obtain ⟨r_28, rfl⟩ : ∃ z, z = u_29 := ⟨_, rfl⟩
      have hC := (show ([] : List Nat).map (fun i : Nat => (kWX5_compress64 cB cI cL cBB cII cSh h_this a_this this_taped this_code this_kind this_rate this_filled this_total this_bitAt this_k this_e1 this_du this_dv f_this_cubes f_this_state f_this_wordsp70 f_this_block)[i]?) = List.map some (kWX5_right cB cI cL cBB cII cSh) from rfl)
      have hPc := kb_Psub hP ([] : List Nat) hC
      have hDc := kb_Dsub hD ([] : List Nat) hC (by simp [kb_nd])
      refine kb_call0 (va_runS (As := [.long x4_20, .int (8 : Int32)]) (rest := [.long r_26, .long (((r_21 ^^^ r_23) ^^^ ((x2_18.toUInt64 >>> ((6 : Int32).toInt64.toUInt64 &&& Int64.toUInt64 63)).toInt64)) + (f_this_wordsp70 (x1p70 - (7 : Int32)).toNatClampNeg)), .int x1p70, .ref (a_this 16)]) C0 (kcX5_right l D cB cI cL cBB cII cSh  _ x4_20 (8 : Int32) r_28 hu_29) (va_cwS 2 hts (kb_gS km_673 km_674 km_6 km_675) rfl rfl rfl (by decide +kernel) ⟨Nat.le_of_ble_eq_true rfl, Nat.le_of_ble_eq_true rfl⟩) ⟨kb_P_bl, (fun U hU hW => ⟨rfl, by rw [hU], by rw [hU]; exact hPc, va_K.moved hW.alike hK, kb_N_to hW hN, hDc.weaken (fun _ _ _ _ => trivial)⟩)⟩ rfl rfl hl.1 rfl (lv_room (Nat.le_of_ble_eq_true rfl)) kdX5_compress64_139 ⟨hcR, hsR⟩) hP hD hS hA ([] : List Nat) hC rfl (fun H locs hP hD hS => ?_)
      have hP : va_P D kCl (kWX5_compress64 cB cI cL cBB cII cSh h_this a_this this_taped this_code this_kind this_rate this_filled this_total this_bitAt this_k this_e1 this_du this_dv f_this_cubes f_this_state f_this_wordsp70 f_this_block) H := hP
      have hD : va_D A (kWX5_compress64 cB cI cL cBB cII cSh h_this a_this this_taped this_code this_kind this_rate this_filled this_total this_bitAt this_k this_e1 this_du this_dv f_this_cubes f_this_state f_this_wordsp70 f_this_block) := hD
      refine lv_lxor hx hb kdX5_compress64_142 ?_
      refine lv_lload hx hb kdX5_compress64_143 (lv_at hl 0 rfl) ?_
      refine lv_bipush (v := 7) hx hb kdX5_compress64_145 (by decide) ?_
      refine lv_lushr (v := ((x4_20.toUInt64 >>> ((7 : Int32).toInt64.toUInt64 &&& Int64.toUInt64 63)).toInt64)) hx hb kdX5_compress64_147 rfl ?_
      refine lv_lxor hx hb kdX5_compress64_148 ?_
      refine lv_ladd hx hb kdX5_compress64_149 ?_
      refine lv_aload_n hx hb kdX5_compress64_150 rfl (lv_at hl 2 rfl) ?_
      refine va_get (ci := 5) (v := .ref (a_this 16)) (C := kRX5) (T := kTX5) (N := 35) hx hb hts kinX5 hown hK hP 0 rfl rfl 16 (by decide) (hts _ km_697) (fun _ h9 => h9) rfl kdX5_compress64_151 ?_
      refine lv_iload_n hx hb kdX5_compress64_154 rfl (lv_at hl 3 rfl) ?_
      refine lv_bipush (v := 16) hx hb kdX5_compress64_155 (by decide) ?_
      refine lv_isub hx hb kdX5_compress64_157 ?_
      obtain ⟨g_30, h⟩ := kb_g_s h
      refine va_lald hx hb hK hP 3 2 rfl rfl (kb_in_v g_30) kdX5_compress64_158 ?_
      refine lv_ladd hx hb kdX5_compress64_159 ?_
      obtain ⟨g_31, h⟩ := kb_g_s h
      refine va_last hx hb hK hP hD hS 3 2 rfl rfl (kb_in_v g_31) kdX5_compress64_160 (fun H locs hP hD hS => ?_)
      obtain ⟨f_32, ef_32⟩ : ∃ y, y = vp_updL f_this_wordsp70 x1p70.toNatClampNeg (((((r_21 ^^^ r_23) ^^^ ((x2_18.toUInt64 >>> ((6 : Int32).toInt64.toUInt64 &&& Int64.toUInt64 63)).toInt64)) + (f_this_wordsp70 (x1p70 - (7 : Int32)).toNatClampNeg)) + ((r_26 ^^^ r_28) ^^^ ((x4_20.toUInt64 >>> ((7 : Int32).toInt64.toUInt64 &&& Int64.toUInt64 63)).toInt64))) + (f_this_wordsp70 (x1p70 - (16 : Int32)).toNatClampNeg)) := ⟨_, rfl⟩
      have h := kb_n_s ef_32 h
      have hP : va_P D kCl (kWX5_compress64 cB cI cL cBB cII cSh h_this a_this this_taped this_code this_kind this_rate this_filled this_total this_bitAt this_k this_e1 this_du this_dv f_this_cubes f_this_state f_32 f_this_block) H := by rw [ef_32]; exact hP
      have hD : va_D A (kWX5_compress64 cB cI cL cBB cII cSh h_this a_this this_taped this_code this_kind this_rate this_filled this_total this_bitAt this_k this_e1 this_du this_dv f_this_cubes f_this_state f_32 f_this_block) := by rw [ef_32]; exact hD
      obtain ⟨x1_33, ex1_33⟩ : ∃ y : Int32, y = x1p70 + Int32.ofInt 1 := ⟨_, rfl⟩
      have h := kb_n_s ex1_33 h
      refine lv_iinc (v := x1_33) (lv' := [(1, .int x1_33), (4, .long x4_20), (2, .long x2_18), (0, .ref h_this)]) hx hb kdX5_compress64_161 hl (k := 3) rfl ex1_33.symm (by decide) rfl (fun ls hl => ?_)
      refine lv_goto (tgt := 70) hx hb kdX5_compress64_164 (by decide) ?_
      obtain rfl := Option.some.inj h
      exact ih x1_33 f_32 r ho _ _ _ hP hD hS (lv_sub hl [3, 0] rfl) hk0
set_option maxHeartbeats 4000000 in
set_option maxRecDepth 100000 in
theorem klX5_compress64_234 {p : Program} {l : Launch} {e : Env} {s : State} {m : MethodId} {args : Array Value} {below : List Frame} {meth : Method} {c : Code} {cells slots : Nat} {Q : State → Prop} {D : va_G} {cB cI cL cBB cII cSh : ClassId} {A : Nat → Prop} (C0 : CallFix p m c prog_8_method_33_code 22 s args kwA kRX5) (hlocks : meth.locks = false) (hK : va_K D kCl (kb_T cB cI cL cBB cII cSh) s) (hN : kb_N s) (hA : ∀ q, s.heap.size ≤ q → A q) (hcR : cells ≤ krX5_compress64.cells) (hsR : slots ≤ krX5_compress64.slots) (h_this : Nat) (a_this : Nat → Nat) (this_taped : Int32) (this_code : Int32) (this_kind : Int32) (this_rate : Int32) (this_filled : Int32) (this_total : Int64) (this_bitAt : Int32) (this_k : Int32) (this_e1 : Int32) (this_du : Int32) (this_dv : Int32) (f_this_cubes : Nat → Int64) (f_this_state : Nat → Int64) (f_this_wordsp70_35 : Nat → Int64) (f_this_block : Nat → Int32) :
    ∀ (fuel : Nat) (x1p234 : Int64) (x3p234 : Int64) (x5p234 : Int64) (x7p234 : Int64) (x9p234 : Int64) (x11p234 : Int64) (x13p234 : Int64) (x15p234 : Int64) (x17p234 : Int32) (r : Int64 × Int64 × Int64 × Int64 × Int64 × Int64 × Int64 × Int64 × Int32), kb_w (fun u : Int64 × Int64 × Int64 × Int64 × Int64 × Int64 × Int64 × Int64 × Int32 => kSX5_compress64_234 f_this_cubes f_this_wordsp70_35 u.1 u.2.1 u.2.2.1 u.2.2.2.1 u.2.2.2.2.1 u.2.2.2.2.2.1 u.2.2.2.2.2.2.1 u.2.2.2.2.2.2.2.1 u.2.2.2.2.2.2.2.2) fuel (x1p234, x3p234, x5p234, x7p234, x9p234, x11p234, x13p234, x15p234, x17p234) = some r → ∀ (H : Heap) (locs : List Loc) (ls : Array Slot), va_P D kCl (kWX5_compress64 cB cI cL cBB cII cSh h_this a_this this_taped this_code this_kind this_rate this_filled this_total this_bitAt this_k this_e1 this_du this_dv f_this_cubes f_this_state f_this_wordsp70_35 f_this_block) H → va_D A (kWX5_compress64 cB cI cL cBB cII cSh h_this a_this this_taped this_code this_kind this_rate this_filled this_total this_bitAt this_k this_e1 this_du this_dv f_this_cubes f_this_state f_this_wordsp70_35 f_this_block) → va_S A s.heap H locs → lv_has ls 22 [(0, .ref h_this), (1, .long x1p234), (3, .long x3p234), (5, .long x5p234), (7, .long x7p234), (9, .long x9p234), (11, .long x11p234), (13, .long x13p234), (15, .long x15p234), (17, .int x17p234)] → (∀ (x1p234' : Int64) (x3p234' : Int64) (x5p234' : Int64) (x7p234' : Int64) (x9p234' : Int64) (x11p234' : Int64) (x13p234' : Int64) (x15p234' : Int64) (x17p234' : Int32), r = (x1p234', x3p234', x5p234', x7p234', x9p234', x11p234', x13p234', x15p234', x17p234') → ∀ (H : Heap) (locs : List Loc) (ls : Array Slot), va_P D kCl (kWX5_compress64 cB cI cL cBB cII cSh h_this a_this this_taped this_code this_kind this_rate this_filled this_total this_bitAt this_k this_e1 this_du this_dv f_this_cubes f_this_state f_this_wordsp70_35 f_this_block) H → va_D A (kWX5_compress64 cB cI cL cBB cII cSh h_this a_this this_taped this_code this_kind this_rate this_filled this_total this_bitAt this_k this_e1 this_du this_dv f_this_cubes f_this_state f_this_wordsp70_35 f_this_block) → va_S A s.heap H locs → lv_has ls 22 [(0, .ref h_this), (1, .long x1p234'), (3, .long x3p234'), (5, .long x5p234'), (7, .long x7p234'), (9, .long x9p234'), (11, .long x11p234'), (13, .long x13p234'), (15, .long x15p234'), (17, .int x17p234')] → W p l e krX5_compress64 s m args below meth c H locs cells slots Q (F0 m 377 ls [])) → W p l e krX5_compress64 s m args below meth c H locs cells slots Q (F0 m 234 ls []) := by
  obtain ⟨hx, hb, hml, hown, hts⟩ := id C0
  intro fuel
  induction fuel with
  | zero =>
    intro x1p234 x3p234 x5p234 x7p234 x9p234 x11p234 x13p234 x15p234 x17p234 r h
    exact absurd h (kb_w_z _ _ _)
  | succ fuel ih =>
    intro x1p234 x3p234 x5p234 x7p234 x9p234 x11p234 x13p234 x15p234 x17p234 r h H locs ls hP hD hS hl hk0
    obtain ⟨o, h, ho⟩ := kb_w_s h
    have h : kSX5_compress64_234 f_this_cubes f_this_wordsp70_35 x1p234 x3p234 x5p234 x7p234 x9p234 x11p234 x13p234 x15p234 x17p234 = some o := h
    unfold kSX5_compress64_234 at h
    refine lv_iload hx hb kdX5_compress64_234 (lv_at hl 9 rfl) ?_
    refine lv_bipush (v := 80) hx hb kdX5_compress64_236 (by decide) ?_
    refine lv_icmp_ge (tgt := 377) hx hb kdX5_compress64_238 (by decide) (fun c_44 => ?_) (fun c_44 => ?_)
    · have h := kb_b_t c_44 h
      obtain rfl := Option.some.inj h
      exact hk0 x1p234 x3p234 x5p234 x7p234 x9p234 x11p234 x13p234 x15p234 x17p234 ho.symm _ _ _ hP hD hS (lv_sub hl [0, 1, 2, 3, 4, 5, 6, 7, 8, 9] rfl)
    · have h := kb_b_f c_44 h
      refine lv_lload hx hb kdX5_compress64_241 (lv_at hl 8 rfl) ?_
      refine lv_lload hx hb kdX5_compress64_243 (lv_at hl 5 rfl) ?_
      refine lv_bipush (v := 14) hx hb kdX5_compress64_245 (by decide) ?_
      obtain ⟨u_46, hu_46, h⟩ := kb_o_s h
      obtain ⟨r_45, rfl⟩ : ∃ z, z = u_46 := ⟨_, rfl⟩
      have hC := (show ([] : List Nat).map (fun i : Nat => (kWX5_compress64 cB cI cL cBB cII cSh h_this a_this this_taped this_code this_kind this_rate this_filled this_total this_bitAt this_k this_e1 this_du this_dv f_this_cubes f_this_state f_this_wordsp70_35 f_this_block)[i]?) = List.map some (kWX5_right cB cI cL cBB cII cSh) from rfl)
      have hPc := kb_Psub hP ([] : List Nat) hC
      have hDc := kb_Dsub hD ([] : List Nat) hC (by simp [kb_nd])
      refine kb_call0 (va_runS (As := [.long x9p234, .int (14 : Int32)]) (rest := [.long x15p234]) C0 (kcX5_right l D cB cI cL cBB cII cSh  _ x9p234 (14 : Int32) r_45 hu_46) (va_cwS 2 hts (kb_gS km_673 km_674 km_6 km_675) rfl rfl rfl (by decide +kernel) ⟨Nat.le_of_ble_eq_true rfl, Nat.le_of_ble_eq_true rfl⟩) ⟨kb_P_bl, (fun U hU hW => ⟨rfl, by rw [hU], by rw [hU]; exact hPc, va_K.moved hW.alike hK, kb_N_to hW hN, hDc.weaken (fun _ _ _ _ => trivial)⟩)⟩ rfl rfl hl.1 rfl (lv_room (Nat.le_of_ble_eq_true rfl)) kdX5_compress64_247 ⟨hcR, hsR⟩) hP hD hS hA ([] : List Nat) hC rfl (fun H locs hP hD hS => ?_)
      have hP : va_P D kCl (kWX5_compress64 cB cI cL cBB cII cSh h_this a_this this_taped this_code this_kind this_rate this_filled this_total this_bitAt this_k this_e1 this_du this_dv f_this_cubes f_this_state f_this_wordsp70_35 f_this_block) H := hP
      have hD : va_D A (kWX5_compress64 cB cI cL cBB cII cSh h_this a_this this_taped this_code this_kind this_rate this_filled this_total this_bitAt this_k this_e1 this_du this_dv f_this_cubes f_this_state f_this_wordsp70_35 f_this_block) := hD
      refine lv_lload hx hb kdX5_compress64_250 (lv_at hl 5 rfl) ?_
      refine lv_bipush (v := 18) hx hb kdX5_compress64_252 (by decide) ?_
      obtain ⟨u_48, hu_48, h⟩ := kb_o_s h
      obtain ⟨r_47, rfl⟩ : ∃ z, z = u_48 := ⟨_, rfl⟩
      have hC := (show ([] : List Nat).map (fun i : Nat => (kWX5_compress64 cB cI cL cBB cII cSh h_this a_this this_taped this_code this_kind this_rate this_filled this_total this_bitAt this_k this_e1 this_du this_dv f_this_cubes f_this_state f_this_wordsp70_35 f_this_block)[i]?) = List.map some (kWX5_right cB cI cL cBB cII cSh) from rfl)
      have hPc := kb_Psub hP ([] : List Nat) hC
      have hDc := kb_Dsub hD ([] : List Nat) hC (by simp [kb_nd])
      refine kb_call0 (va_runS (As := [.long x9p234, .int (18 : Int32)]) (rest := [.long r_45, .long x15p234]) C0 (kcX5_right l D cB cI cL cBB cII cSh  _ x9p234 (18 : Int32) r_47 hu_48) (va_cwS 2 hts (kb_gS km_673 km_674 km_6 km_675) rfl rfl rfl (by decide +kernel) ⟨Nat.le_of_ble_eq_true rfl, Nat.le_of_ble_eq_true rfl⟩) ⟨kb_P_bl, (fun U hU hW => ⟨rfl, by rw [hU], by rw [hU]; exact hPc, va_K.moved hW.alike hK, kb_N_to hW hN, hDc.weaken (fun _ _ _ _ => trivial)⟩)⟩ rfl rfl hl.1 rfl (lv_room (Nat.le_of_ble_eq_true rfl)) kdX5_compress64_254 ⟨hcR, hsR⟩) hP hD hS hA ([] : List Nat) hC rfl (fun H locs hP hD hS => ?_)
      have hP : va_P D kCl (kWX5_compress64 cB cI cL cBB cII cSh h_this a_this this_taped this_code this_kind this_rate this_filled this_total this_bitAt this_k this_e1 this_du this_dv f_this_cubes f_this_state f_this_wordsp70_35 f_this_block) H := hP
      have hD : va_D A (kWX5_compress64 cB cI cL cBB cII cSh h_this a_this this_taped this_code this_kind this_rate this_filled this_total this_bitAt this_k this_e1 this_du this_dv f_this_cubes f_this_state f_this_wordsp70_35 f_this_block) := hD
      refine lv_lxor hx hb kdX5_compress64_257 ?_
      refine lv_lload hx hb kdX5_compress64_258 (lv_at hl 5 rfl) ?_
      refine lv_bipush (v := 41) hx hb kdX5_compress64_260 (by decide) ?_
      obtain ⟨u_50, hu_50, h⟩ := kb_o_s h
      obtain ⟨r_49, rfl⟩ : ∃ z, z = u_50 := ⟨_, rfl⟩
      have hC := (show ([] : List Nat).map (fun i : Nat => (kWX5_compress64 cB cI cL cBB cII cSh h_this a_this this_taped this_code this_kind this_rate this_filled this_total this_bitAt this_k this_e1 this_du this_dv f_this_cubes f_this_state f_this_wordsp70_35 f_this_block)[i]?) = List.map some (kWX5_right cB cI cL cBB cII cSh) from rfl)
      have hPc := kb_Psub hP ([] : List Nat) hC
      have hDc := kb_Dsub hD ([] : List Nat) hC (by simp [kb_nd])
      refine kb_call0 (va_runS (As := [.long x9p234, .int (41 : Int32)]) (rest := [.long (r_45 ^^^ r_47), .long x15p234]) C0 (kcX5_right l D cB cI cL cBB cII cSh  _ x9p234 (41 : Int32) r_49 hu_50) (va_cwS 2 hts (kb_gS km_673 km_674 km_6 km_675) rfl rfl rfl (by decide +kernel) ⟨Nat.le_of_ble_eq_true rfl, Nat.le_of_ble_eq_true rfl⟩) ⟨kb_P_bl, (fun U hU hW => ⟨rfl, by rw [hU], by rw [hU]; exact hPc, va_K.moved hW.alike hK, kb_N_to hW hN, hDc.weaken (fun _ _ _ _ => trivial)⟩)⟩ rfl rfl hl.1 rfl (lv_room (Nat.le_of_ble_eq_true rfl)) kdX5_compress64_262 ⟨hcR, hsR⟩) hP hD hS hA ([] : List Nat) hC rfl (fun H locs hP hD hS => ?_)
      have hP : va_P D kCl (kWX5_compress64 cB cI cL cBB cII cSh h_this a_this this_taped this_code this_kind this_rate this_filled this_total this_bitAt this_k this_e1 this_du this_dv f_this_cubes f_this_state f_this_wordsp70_35 f_this_block) H := hP
      have hD : va_D A (kWX5_compress64 cB cI cL cBB cII cSh h_this a_this this_taped this_code this_kind this_rate this_filled this_total this_bitAt this_k this_e1 this_du this_dv f_this_cubes f_this_state f_this_wordsp70_35 f_this_block) := hD
      refine lv_lxor hx hb kdX5_compress64_265 ?_
      refine lv_ladd hx hb kdX5_compress64_266 ?_
      refine lv_lload hx hb kdX5_compress64_267 (lv_at hl 5 rfl) ?_
      refine lv_lload hx hb kdX5_compress64_269 (lv_at hl 6 rfl) ?_
      refine lv_land hx hb kdX5_compress64_271 ?_
      refine lv_lload hx hb kdX5_compress64_272 (lv_at hl 5 rfl) ?_
      refine lv_ldc2 (v := -1) hx hb hown (hts _ km_661) kdX5_compress64_274 ?_
      refine lv_lxor hx hb kdX5_compress64_277 ?_
      refine lv_lload hx hb kdX5_compress64_278 (lv_at hl 7 rfl) ?_
      refine lv_land hx hb kdX5_compress64_280 ?_
      refine lv_lxor hx hb kdX5_compress64_281 ?_
      refine lv_ladd hx hb kdX5_compress64_282 ?_
      refine lv_aload_n hx hb kdX5_compress64_283 rfl (lv_at hl 0 rfl) ?_
      refine va_get (ci := 5) (v := .ref (a_this 6)) (C := kRX5) (T := kTX5) (N := 35) hx hb hts kinX5 hown hK hP 0 rfl rfl 6 (by decide) (hts _ km_687) (fun _ h9 => h9) rfl kdX5_compress64_284 ?_
      refine lv_iload hx hb kdX5_compress64_287 (lv_at hl 9 rfl) ?_
      obtain ⟨g_51, h⟩ := kb_g_s h
      refine va_lald hx hb hK hP 1 2 rfl rfl (kb_in_v g_51) kdX5_compress64_289 ?_
      refine lv_ladd hx hb kdX5_compress64_290 ?_
      refine lv_aload_n hx hb kdX5_compress64_291 rfl (lv_at hl 0 rfl) ?_
      refine va_get (ci := 5) (v := .ref (a_this 16)) (C := kRX5) (T := kTX5) (N := 35) hx hb hts kinX5 hown hK hP 0 rfl rfl 16 (by decide) (hts _ km_697) (fun _ h9 => h9) rfl kdX5_compress64_292 ?_
      refine lv_iload hx hb kdX5_compress64_295 (lv_at hl 9 rfl) ?_
      obtain ⟨g_52, h⟩ := kb_g_s h
      refine va_lald hx hb hK hP 3 2 rfl rfl (kb_in_v g_52) kdX5_compress64_297 ?_
      refine lv_ladd hx hb kdX5_compress64_298 ?_
      refine lv_topl (fun x18_53 ex18_53 => ?_)
      have h := kb_n_s ex18_53 h
      refine lv_lstore (lv' := [(18, .long x18_53), (0, .ref h_this), (1, .long x1p234), (3, .long x3p234), (5, .long x5p234), (7, .long x7p234), (9, .long x9p234), (11, .long x11p234), (13, .long x13p234), (15, .long x15p234), (17, .int x17p234)]) hx hb kdX5_compress64_299 hl (by decide) rfl (fun ls hl => ?_)
      refine lv_lload_n hx hb kdX5_compress64_301 rfl (lv_at hl 2 rfl) ?_
      refine lv_bipush (v := 28) hx hb kdX5_compress64_302 (by decide) ?_
      obtain ⟨u_55, hu_55, h⟩ := kb_o_s h
      obtain ⟨r_54, rfl⟩ : ∃ z, z = u_55 := ⟨_, rfl⟩
      have hC := (show ([] : List Nat).map (fun i : Nat => (kWX5_compress64 cB cI cL cBB cII cSh h_this a_this this_taped this_code this_kind this_rate this_filled this_total this_bitAt this_k this_e1 this_du this_dv f_this_cubes f_this_state f_this_wordsp70_35 f_this_block)[i]?) = List.map some (kWX5_right cB cI cL cBB cII cSh) from rfl)
      have hPc := kb_Psub hP ([] : List Nat) hC
      have hDc := kb_Dsub hD ([] : List Nat) hC (by simp [kb_nd])
      refine kb_call0 (va_runS (As := [.long x1p234, .int (28 : Int32)]) (rest := []) C0 (kcX5_right l D cB cI cL cBB cII cSh  _ x1p234 (28 : Int32) r_54 hu_55) (va_cwS 2 hts (kb_gS km_673 km_674 km_6 km_675) rfl rfl rfl (by decide +kernel) ⟨Nat.le_of_ble_eq_true rfl, Nat.le_of_ble_eq_true rfl⟩) ⟨kb_P_bl, (fun U hU hW => ⟨rfl, by rw [hU], by rw [hU]; exact hPc, va_K.moved hW.alike hK, kb_N_to hW hN, hDc.weaken (fun _ _ _ _ => trivial)⟩)⟩ rfl rfl hl.1 rfl (lv_room (Nat.le_of_ble_eq_true rfl)) kdX5_compress64_304 ⟨hcR, hsR⟩) hP hD hS hA ([] : List Nat) hC rfl (fun H locs hP hD hS => ?_)
      have hP : va_P D kCl (kWX5_compress64 cB cI cL cBB cII cSh h_this a_this this_taped this_code this_kind this_rate this_filled this_total this_bitAt this_k this_e1 this_du this_dv f_this_cubes f_this_state f_this_wordsp70_35 f_this_block) H := hP
      have hD : va_D A (kWX5_compress64 cB cI cL cBB cII cSh h_this a_this this_taped this_code this_kind this_rate this_filled this_total this_bitAt this_k this_e1 this_du this_dv f_this_cubes f_this_state f_this_wordsp70_35 f_this_block) := hD
      refine lv_lload_n hx hb kdX5_compress64_307 rfl (lv_at hl 2 rfl) ?_
      refine lv_bipush (v := 34) hx hb kdX5_compress64_308 (by decide) ?_
      obtain ⟨u_57, hu_57, h⟩ := kb_o_s h
      obtain ⟨r_56, rfl⟩ : ∃ z, z = u_57 := ⟨_, rfl⟩
      have hC := (show ([] : List Nat).map (fun i : Nat => (kWX5_compress64 cB cI cL cBB cII cSh h_this a_this this_taped this_code this_kind this_rate this_filled this_total this_bitAt this_k this_e1 this_du this_dv f_this_cubes f_this_state f_this_wordsp70_35 f_this_block)[i]?) = List.map some (kWX5_right cB cI cL cBB cII cSh) from rfl)
      have hPc := kb_Psub hP ([] : List Nat) hC
      have hDc := kb_Dsub hD ([] : List Nat) hC (by simp [kb_nd])
      refine kb_call0 (va_runS (As := [.long x1p234, .int (34 : Int32)]) (rest := [.long r_54]) C0 (kcX5_right l D cB cI cL cBB cII cSh  _ x1p234 (34 : Int32) r_56 hu_57) (va_cwS 2 hts (kb_gS km_673 km_674 km_6 km_675) rfl rfl rfl (by decide +kernel) ⟨Nat.le_of_ble_eq_true rfl, Nat.le_of_ble_eq_true rfl⟩) ⟨kb_P_bl, (fun U hU hW => ⟨rfl, by rw [hU], by rw [hU]; exact hPc, va_K.moved hW.alike hK, kb_N_to hW hN, hDc.weaken (fun _ _ _ _ => trivial)⟩)⟩ rfl rfl hl.1 rfl (lv_room (Nat.le_of_ble_eq_true rfl)) kdX5_compress64_310 ⟨hcR, hsR⟩) hP hD hS hA ([] : List Nat) hC rfl (fun H locs hP hD hS => ?_)
      have hP : va_P D kCl (kWX5_compress64 cB cI cL cBB cII cSh h_this a_this this_taped this_code this_kind this_rate this_filled this_total this_bitAt this_k this_e1 this_du this_dv f_this_cubes f_this_state f_this_wordsp70_35 f_this_block) H := hP
      have hD : va_D A (kWX5_compress64 cB cI cL cBB cII cSh h_this a_this this_taped this_code this_kind this_rate this_filled this_total this_bitAt this_k this_e1 this_du this_dv f_this_cubes f_this_state f_this_wordsp70_35 f_this_block) := hD
      refine lv_lxor hx hb kdX5_compress64_313 ?_
      refine lv_lload_n hx hb kdX5_compress64_314 rfl (lv_at hl 2 rfl) ?_
      refine lv_bipush (v := 39) hx hb kdX5_compress64_315 (by decide) ?_
      obtain ⟨u_59, hu_59, h⟩ := kb_o_s h
      obtain ⟨r_58, rfl⟩ : ∃ z, z = u_59 := ⟨_, rfl⟩
      have hC := (show ([] : List Nat).map (fun i : Nat => (kWX5_compress64 cB cI cL cBB cII cSh h_this a_this this_taped this_code this_kind this_rate this_filled this_total this_bitAt this_k this_e1 this_du this_dv f_this_cubes f_this_state f_this_wordsp70_35 f_this_block)[i]?) = List.map some (kWX5_right cB cI cL cBB cII cSh) from rfl)
      have hPc := kb_Psub hP ([] : List Nat) hC
      have hDc := kb_Dsub hD ([] : List Nat) hC (by simp [kb_nd])
      refine kb_call0 (va_runS (As := [.long x1p234, .int (39 : Int32)]) (rest := [.long (r_54 ^^^ r_56)]) C0 (kcX5_right l D cB cI cL cBB cII cSh  _ x1p234 (39 : Int32) r_58 hu_59) (va_cwS 2 hts (kb_gS km_673 km_674 km_6 km_675) rfl rfl rfl (by decide +kernel) ⟨Nat.le_of_ble_eq_true rfl, Nat.le_of_ble_eq_true rfl⟩) ⟨kb_P_bl, (fun U hU hW => ⟨rfl, by rw [hU], by rw [hU]; exact hPc, va_K.moved hW.alike hK, kb_N_to hW hN, hDc.weaken (fun _ _ _ _ => trivial)⟩)⟩ rfl rfl hl.1 rfl (lv_room (Nat.le_of_ble_eq_true rfl)) kdX5_compress64_317 ⟨hcR, hsR⟩) hP hD hS hA ([] : List Nat) hC rfl (fun H locs hP hD hS => ?_)
      have hP : va_P D kCl (kWX5_compress64 cB cI cL cBB cII cSh h_this a_this this_taped this_code this_kind this_rate this_filled this_total this_bitAt this_k this_e1 this_du this_dv f_this_cubes f_this_state f_this_wordsp70_35 f_this_block) H := hP
      have hD : va_D A (kWX5_compress64 cB cI cL cBB cII cSh h_this a_this this_taped this_code this_kind this_rate this_filled this_total this_bitAt this_k this_e1 this_du this_dv f_this_cubes f_this_state f_this_wordsp70_35 f_this_block) := hD
      refine lv_lxor hx hb kdX5_compress64_320 ?_
      refine lv_lload_n hx hb kdX5_compress64_321 rfl (lv_at hl 2 rfl) ?_
      refine lv_lload_n hx hb kdX5_compress64_322 rfl (lv_at hl 3 rfl) ?_
      refine lv_land hx hb kdX5_compress64_323 ?_
      refine lv_lload_n hx hb kdX5_compress64_324 rfl (lv_at hl 2 rfl) ?_
      refine lv_lload hx hb kdX5_compress64_325 (lv_at hl 4 rfl) ?_
      refine lv_land hx hb kdX5_compress64_327 ?_
      refine lv_lxor hx hb kdX5_compress64_328 ?_
      refine lv_lload_n hx hb kdX5_compress64_329 rfl (lv_at hl 3 rfl) ?_
      refine lv_lload hx hb kdX5_compress64_330 (lv_at hl 4 rfl) ?_
      refine lv_land hx hb kdX5_compress64_332 ?_
      refine lv_lxor hx hb kdX5_compress64_333 ?_
      refine lv_ladd hx hb kdX5_compress64_334 ?_
      refine lv_topl (fun x20_60 ex20_60 => ?_)
      have h := kb_n_s ex20_60 h
      refine lv_lstore (lv' := [(20, .long x20_60), (18, .long x18_53), (0, .ref h_this), (1, .long x1p234), (3, .long x3p234), (5, .long x5p234), (7, .long x7p234), (9, .long x9p234), (11, .long x11p234), (13, .long x13p234), (15, .long x15p234), (17, .int x17p234)]) hx hb kdX5_compress64_335 hl (by decide) rfl (fun ls hl => ?_)
      refine lv_lload hx hb kdX5_compress64_337 (lv_at hl 9 rfl) ?_
      refine lv_lstore (lv' := [(15, .long x13p234), (20, .long x20_60), (18, .long x18_53), (0, .ref h_this), (1, .long x1p234), (3, .long x3p234), (5, .long x5p234), (7, .long x7p234), (9, .long x9p234), (11, .long x11p234), (13, .long x13p234), (17, .int x17p234)]) hx hb kdX5_compress64_339 hl (by decide) rfl (fun ls hl => ?_)
      refine lv_lload hx hb kdX5_compress64_341 (lv_at hl 9 rfl) ?_
      refine lv_lstore (lv' := [(13, .long x11p234), (15, .long x13p234), (20, .long x20_60), (18, .long x18_53), (0, .ref h_this), (1, .long x1p234), (3, .long x3p234), (5, .long x5p234), (7, .long x7p234), (9, .long x9p234), (11, .long x11p234), (17, .int x17p234)]) hx hb kdX5_compress64_343 hl (by decide) rfl (fun ls hl => ?_)
      refine lv_lload hx hb kdX5_compress64_345 (lv_at hl 9 rfl) ?_
      refine lv_lstore (lv' := [(11, .long x9p234), (13, .long x11p234), (15, .long x13p234), (20, .long x20_60), (18, .long x18_53), (0, .ref h_this), (1, .long x1p234), (3, .long x3p234), (5, .long x5p234), (7, .long x7p234), (9, .long x9p234), (17, .int x17p234)]) hx hb kdX5_compress64_347 hl (by decide) rfl (fun ls hl => ?_)
      refine lv_lload hx hb kdX5_compress64_349 (lv_at hl 9 rfl) ?_
      refine lv_lload hx hb kdX5_compress64_351 (lv_at hl 4 rfl) ?_
      refine lv_ladd hx hb kdX5_compress64_353 ?_
      refine lv_topl (fun x9_61 ex9_61 => ?_)
      have h := kb_n_s ex9_61 h
      refine lv_lstore (lv' := [(9, .long x9_61), (11, .long x9p234), (13, .long x11p234), (15, .long x13p234), (20, .long x20_60), (18, .long x18_53), (0, .ref h_this), (1, .long x1p234), (3, .long x3p234), (5, .long x5p234), (7, .long x7p234), (17, .int x17p234)]) hx hb kdX5_compress64_354 hl (by decide) rfl (fun ls hl => ?_)
      refine lv_lload hx hb kdX5_compress64_356 (lv_at hl 9 rfl) ?_
      refine lv_lstore (lv' := [(7, .long x5p234), (9, .long x9_61), (11, .long x9p234), (13, .long x11p234), (15, .long x13p234), (20, .long x20_60), (18, .long x18_53), (0, .ref h_this), (1, .long x1p234), (3, .long x3p234), (5, .long x5p234), (17, .int x17p234)]) hx hb kdX5_compress64_358 hl (by decide) rfl (fun ls hl => ?_)
      refine lv_lload_n hx hb kdX5_compress64_360 rfl (lv_at hl 9 rfl) ?_
      refine lv_lstore (lv' := [(5, .long x3p234), (7, .long x5p234), (9, .long x9_61), (11, .long x9p234), (13, .long x11p234), (15, .long x13p234), (20, .long x20_60), (18, .long x18_53), (0, .ref h_this), (1, .long x1p234), (3, .long x3p234), (17, .int x17p234)]) hx hb kdX5_compress64_361 hl (by decide) rfl (fun ls hl => ?_)
      refine lv_lload_n hx hb kdX5_compress64_363 rfl (lv_at hl 9 rfl) ?_
      refine lv_lstore_n (lv' := [(3, .long x1p234), (5, .long x3p234), (7, .long x5p234), (9, .long x9_61), (11, .long x9p234), (13, .long x11p234), (15, .long x13p234), (20, .long x20_60), (18, .long x18_53), (0, .ref h_this), (1, .long x1p234), (17, .int x17p234)]) hx hb kdX5_compress64_364 rfl hl (by decide) rfl (fun ls hl => ?_)
      refine lv_lload hx hb kdX5_compress64_365 (lv_at hl 8 rfl) ?_
      refine lv_lload hx hb kdX5_compress64_367 (lv_at hl 7 rfl) ?_
      refine lv_ladd hx hb kdX5_compress64_369 ?_
      refine lv_topl (fun x1_62 ex1_62 => ?_)
      have h := kb_n_s ex1_62 h
      refine lv_lstore_n (lv' := [(1, .long x1_62), (3, .long x1p234), (5, .long x3p234), (7, .long x5p234), (9, .long x9_61), (11, .long x9p234), (13, .long x11p234), (15, .long x13p234), (20, .long x20_60), (18, .long x18_53), (0, .ref h_this), (17, .int x17p234)]) hx hb kdX5_compress64_370 rfl hl (by decide) rfl (fun ls hl => ?_)
      obtain ⟨x17_63, ex17_63⟩ : ∃ y : Int32, y = x17p234 + Int32.ofInt 1 := ⟨_, rfl⟩
      have h := kb_n_s ex17_63 h
      refine lv_iinc (v := x17_63) (lv' := [(17, .int x17_63), (1, .long x1_62), (3, .long x1p234), (5, .long x3p234), (7, .long x5p234), (9, .long x9_61), (11, .long x9p234), (13, .long x11p234), (15, .long x13p234), (20, .long x20_60), (18, .long x18_53), (0, .ref h_this)]) hx hb kdX5_compress64_371 hl (k := 11) rfl ex17_63.symm (by decide) rfl (fun ls hl => ?_)
      refine lv_goto (tgt := 234) hx hb kdX5_compress64_374 (by decide) ?_
      obtain rfl := Option.some.inj h
      exact ih x1_62 x1p234 x3p234 x5p234 x9_61 x9p234 x11p234 x13p234 x17_63 r ho _ _ _ hP hD hS (lv_sub hl [11, 1, 2, 3, 4, 5, 6, 7, 8, 0] rfl) hk0
set_option maxHeartbeats 4000000 in
set_option maxRecDepth 100000 in
theorem kcX5_compress64 (l : Launch) (D : va_G) (cB cI cL cBB cII cSh : ClassId) (h_this : Nat) (a_this : Nat → Nat) (sz : Nat) (this_taped : Int32) (this_code : Int32) (this_kind : Int32) (this_rate : Int32) (this_filled : Int32) (this_total : Int64) (this_bitAt : Int32) (this_k : Int32) (this_e1 : Int32) (this_du : Int32) (this_dv : Int32) (f_this_cubes : Nat → Int64) (f_this_state : Nat → Int64) (f_this_words : Nat → Int64) (f_this_block : Nat → Int32) (out : (Nat → Int64) × (Nat → Int64)) (h : kFX5_compress64 f_this_cubes f_this_state f_this_words f_this_block = some out) : Met l kyX5_compress64 kwX5_compress64 krX5_compress64 (kb_P D kCl (kb_T cB cI cL cBB cII cSh) [.ref h_this] (kWX5_compress64 cB cI cL cBB cII cSh h_this a_this this_taped this_code this_kind this_rate this_filled this_total this_bitAt this_k this_e1 this_du this_dv f_this_cubes f_this_state f_this_words f_this_block) sz) (kb_Q D kCl (kb_T cB cI cL cBB cII cSh) (va_A (kWX5_compress64 cB cI cL cBB cII cSh h_this a_this this_taped this_code this_kind this_rate this_filled this_total this_bitAt this_k this_e1 this_du this_dv f_this_cubes f_this_state f_this_words f_this_block) sz) none (kWX5_compress64 cB cI cL cBB cII cSh h_this a_this this_taped this_code this_kind this_rate this_filled this_total this_bitAt this_k this_e1 this_du this_dv f_this_cubes out.1 out.2 f_this_block)) 0 0 (va_A (kWX5_compress64 cB cI cL cBB cII cSh h_this a_this this_taped this_code this_kind this_rate this_filled this_total this_bitAt this_k this_e1 this_du this_dv f_this_cubes f_this_state f_this_words f_this_block) sz) := by
  refine Met.ofW (cc := prog_8_method_33_code) (maxL := 22) (ret := none) (by decide) rfl ?_
  intro p e s m args below meth c s₁ B hml hv
  obtain ⟨rfl, hsz, hP, hK, hN, hD0⟩ := hv
  have hx := B.exec
  have hb := B.bytes
  have hr := B.returns
  have hts0 := atoms_spec (ws := kwX5_compress64) B.pre
  have hts : ∀ w ∈ kwA, w.before _ s = true := fun w h => hts0 w (List.mem_cons_of_mem _ h)
  have hown : s.vm.findClass kRX5 = some m.cls := findClass_of_methodNamed B.named
  have hlocks := B.notSynchronized
  subst hsz
  have hD := hD0.self (sz := s.heap.size)
  generalize hAe : va_A (kWX5_compress64 cB cI cL cBB cII cSh h_this a_this this_taped this_code this_kind this_rate this_filled this_total this_bitAt this_k this_e1 this_du this_dv f_this_cubes f_this_state f_this_words f_this_block) s.heap.size = A at hD ⊢
  have hA : ∀ q : Nat, s.heap.size ≤ q → A q := fun q h => by rw [← hAe]; exact Or.inr h
  have hS : va_S A s.heap s.heap [] := va_S.rf
  have C0 : CallFix p m c prog_8_method_33_code 22 s _ kwA kRX5 := ⟨hx, hb, hml, hown, hts⟩
  have hl := lv_entry ([.ref h_this]) (n := 22) (Nat.le_of_ble_eq_true rfl)
  rw [lg_entry_eq]
  generalize (lg_sl ([.ref h_this]) ++ List.replicate (22 - (lg_sl ([.ref h_this])).length) Slot.unset).toArray = ls at hl ⊢
  have hl : lv_has ls 22 [(0, .ref h_this)] := hl
  unfold kFX5_compress64 at h
  refine lv_iconst (v := 0) hx hb kdX5_compress64_0 (by decide) ?_
  refine lv_istore_n (lv' := [(1, .int (0 : Int32)), (0, .ref h_this)]) hx hb kdX5_compress64_1 rfl hl (by decide) rfl (fun ls hl => ?_)
  obtain ⟨r_83, hr_83, h⟩ := kb_o_s h
  refine klX5_compress64_2 C0 hlocks hK hN hA (by decide) (by decide) h_this a_this this_taped this_code this_kind this_rate this_filled this_total this_bitAt this_k this_e1 this_du this_dv f_this_cubes f_this_state f_this_block 100000 (0 : Int32) f_this_words r_83 hr_83 _ _ _ hP hD hS (lv_sub hl [1, 0] rfl) (fun x1p2_14 f_this_wordsp2_15 er_83 H locs ls hP hD hS hl => ?_)
  subst er_83
  refine lv_bipush (v := 16) hx hb kdX5_compress64_67 (by decide) ?_
  refine lv_istore_n (lv' := [(1, .int (16 : Int32)), (0, .ref h_this)]) hx hb kdX5_compress64_69 rfl hl (by decide) rfl (fun ls hl => ?_)
  obtain ⟨r_82, hr_82, h⟩ := kb_o_s h
  refine klX5_compress64_70 C0 hlocks hK hN hA (by decide) (by decide) h_this a_this this_taped this_code this_kind this_rate this_filled this_total this_bitAt this_k this_e1 this_du this_dv f_this_cubes f_this_state f_this_block 100000 (16 : Int32) f_this_wordsp2_15 r_82 hr_82 _ _ _ hP hD hS (lv_sub hl [1, 0] rfl) (fun x1p70_34 f_this_wordsp70_35 er_82 H locs ls hP hD hS hl => ?_)
  subst er_82
  refine lv_aload_n hx hb kdX5_compress64_167 rfl (lv_at hl 0 rfl) ?_
  refine va_get (ci := 5) (v := .ref (a_this 13)) (C := kRX5) (T := kTX5) (N := 35) hx hb hts kinX5 hown hK hP 0 rfl rfl 13 (by decide) (hts _ km_694) (fun _ h9 => h9) rfl kdX5_compress64_168 ?_
  refine lv_iconst (v := 0) hx hb kdX5_compress64_171 (by decide) ?_
  refine va_lald hx hb hK hP 2 2 rfl rfl (kb_in_v (by decide)) kdX5_compress64_172 ?_
  refine lv_topl (fun x1_36 ex1_36 => ?_)
  have h := kb_n_s ex1_36 h
  refine lv_lstore_n (lv' := [(1, .long x1_36), (0, .ref h_this)]) hx hb kdX5_compress64_173 rfl hl (by decide) rfl (fun ls hl => ?_)
  refine lv_aload_n hx hb kdX5_compress64_174 rfl (lv_at hl 1 rfl) ?_
  refine va_get (ci := 5) (v := .ref (a_this 13)) (C := kRX5) (T := kTX5) (N := 35) hx hb hts kinX5 hown hK hP 0 rfl rfl 13 (by decide) (hts _ km_694) (fun _ h9 => h9) rfl kdX5_compress64_175 ?_
  refine lv_iconst (v := 1) hx hb kdX5_compress64_178 (by decide) ?_
  refine va_lald hx hb hK hP 2 2 rfl rfl (kb_in_v (by decide)) kdX5_compress64_179 ?_
  refine lv_topl (fun x3_37 ex3_37 => ?_)
  have h := kb_n_s ex3_37 h
  refine lv_lstore_n (lv' := [(3, .long x3_37), (1, .long x1_36), (0, .ref h_this)]) hx hb kdX5_compress64_180 rfl hl (by decide) rfl (fun ls hl => ?_)
  refine lv_aload_n hx hb kdX5_compress64_181 rfl (lv_at hl 2 rfl) ?_
  refine va_get (ci := 5) (v := .ref (a_this 13)) (C := kRX5) (T := kTX5) (N := 35) hx hb hts kinX5 hown hK hP 0 rfl rfl 13 (by decide) (hts _ km_694) (fun _ h9 => h9) rfl kdX5_compress64_182 ?_
  refine lv_iconst (v := 2) hx hb kdX5_compress64_185 (by decide) ?_
  refine va_lald hx hb hK hP 2 2 rfl rfl (kb_in_v (by decide)) kdX5_compress64_186 ?_
  refine lv_topl (fun x5_38 ex5_38 => ?_)
  have h := kb_n_s ex5_38 h
  refine lv_lstore (lv' := [(5, .long x5_38), (3, .long x3_37), (1, .long x1_36), (0, .ref h_this)]) hx hb kdX5_compress64_187 hl (by decide) rfl (fun ls hl => ?_)
  refine lv_aload_n hx hb kdX5_compress64_189 rfl (lv_at hl 3 rfl) ?_
  refine va_get (ci := 5) (v := .ref (a_this 13)) (C := kRX5) (T := kTX5) (N := 35) hx hb hts kinX5 hown hK hP 0 rfl rfl 13 (by decide) (hts _ km_694) (fun _ h9 => h9) rfl kdX5_compress64_190 ?_
  refine lv_iconst (v := 3) hx hb kdX5_compress64_193 (by decide) ?_
  refine va_lald hx hb hK hP 2 2 rfl rfl (kb_in_v (by decide)) kdX5_compress64_194 ?_
  refine lv_topl (fun x7_39 ex7_39 => ?_)
  have h := kb_n_s ex7_39 h
  refine lv_lstore (lv' := [(7, .long x7_39), (5, .long x5_38), (3, .long x3_37), (1, .long x1_36), (0, .ref h_this)]) hx hb kdX5_compress64_195 hl (by decide) rfl (fun ls hl => ?_)
  refine lv_aload_n hx hb kdX5_compress64_197 rfl (lv_at hl 4 rfl) ?_
  refine va_get (ci := 5) (v := .ref (a_this 13)) (C := kRX5) (T := kTX5) (N := 35) hx hb hts kinX5 hown hK hP 0 rfl rfl 13 (by decide) (hts _ km_694) (fun _ h9 => h9) rfl kdX5_compress64_198 ?_
  refine lv_iconst (v := 4) hx hb kdX5_compress64_201 (by decide) ?_
  refine va_lald hx hb hK hP 2 2 rfl rfl (kb_in_v (by decide)) kdX5_compress64_202 ?_
  refine lv_topl (fun x9_40 ex9_40 => ?_)
  have h := kb_n_s ex9_40 h
  refine lv_lstore (lv' := [(9, .long x9_40), (7, .long x7_39), (5, .long x5_38), (3, .long x3_37), (1, .long x1_36), (0, .ref h_this)]) hx hb kdX5_compress64_203 hl (by decide) rfl (fun ls hl => ?_)
  refine lv_aload_n hx hb kdX5_compress64_205 rfl (lv_at hl 5 rfl) ?_
  refine va_get (ci := 5) (v := .ref (a_this 13)) (C := kRX5) (T := kTX5) (N := 35) hx hb hts kinX5 hown hK hP 0 rfl rfl 13 (by decide) (hts _ km_694) (fun _ h9 => h9) rfl kdX5_compress64_206 ?_
  refine lv_iconst (v := 5) hx hb kdX5_compress64_209 (by decide) ?_
  refine va_lald hx hb hK hP 2 2 rfl rfl (kb_in_v (by decide)) kdX5_compress64_210 ?_
  refine lv_topl (fun x11_41 ex11_41 => ?_)
  have h := kb_n_s ex11_41 h
  refine lv_lstore (lv' := [(11, .long x11_41), (9, .long x9_40), (7, .long x7_39), (5, .long x5_38), (3, .long x3_37), (1, .long x1_36), (0, .ref h_this)]) hx hb kdX5_compress64_211 hl (by decide) rfl (fun ls hl => ?_)
  refine lv_aload_n hx hb kdX5_compress64_213 rfl (lv_at hl 6 rfl) ?_
  refine va_get (ci := 5) (v := .ref (a_this 13)) (C := kRX5) (T := kTX5) (N := 35) hx hb hts kinX5 hown hK hP 0 rfl rfl 13 (by decide) (hts _ km_694) (fun _ h9 => h9) rfl kdX5_compress64_214 ?_
  refine lv_bipush (v := 6) hx hb kdX5_compress64_217 (by decide) ?_
  refine va_lald hx hb hK hP 2 2 rfl rfl (kb_in_v (by decide)) kdX5_compress64_219 ?_
  refine lv_topl (fun x13_42 ex13_42 => ?_)
  have h := kb_n_s ex13_42 h
  refine lv_lstore (lv' := [(13, .long x13_42), (11, .long x11_41), (9, .long x9_40), (7, .long x7_39), (5, .long x5_38), (3, .long x3_37), (1, .long x1_36), (0, .ref h_this)]) hx hb kdX5_compress64_220 hl (by decide) rfl (fun ls hl => ?_)
  refine lv_aload_n hx hb kdX5_compress64_222 rfl (lv_at hl 7 rfl) ?_
  refine va_get (ci := 5) (v := .ref (a_this 13)) (C := kRX5) (T := kTX5) (N := 35) hx hb hts kinX5 hown hK hP 0 rfl rfl 13 (by decide) (hts _ km_694) (fun _ h9 => h9) rfl kdX5_compress64_223 ?_
  refine lv_bipush (v := 7) hx hb kdX5_compress64_226 (by decide) ?_
  refine va_lald hx hb hK hP 2 2 rfl rfl (kb_in_v (by decide)) kdX5_compress64_228 ?_
  refine lv_topl (fun x15_43 ex15_43 => ?_)
  have h := kb_n_s ex15_43 h
  refine lv_lstore (lv' := [(15, .long x15_43), (13, .long x13_42), (11, .long x11_41), (9, .long x9_40), (7, .long x7_39), (5, .long x5_38), (3, .long x3_37), (1, .long x1_36), (0, .ref h_this)]) hx hb kdX5_compress64_229 hl (by decide) rfl (fun ls hl => ?_)
  refine lv_iconst (v := 0) hx hb kdX5_compress64_231 (by decide) ?_
  refine lv_istore (lv' := [(17, .int (0 : Int32)), (15, .long x15_43), (13, .long x13_42), (11, .long x11_41), (9, .long x9_40), (7, .long x7_39), (5, .long x5_38), (3, .long x3_37), (1, .long x1_36), (0, .ref h_this)]) hx hb kdX5_compress64_232 hl (by decide) rfl (fun ls hl => ?_)
  obtain ⟨r_81, hr_81, h⟩ := kb_o_s h
  refine klX5_compress64_234 C0 hlocks hK hN hA (by decide) (by decide) h_this a_this this_taped this_code this_kind this_rate this_filled this_total this_bitAt this_k this_e1 this_du this_dv f_this_cubes f_this_state f_this_wordsp70_35 f_this_block 100000 x1_36 x3_37 x5_38 x7_39 x9_40 x11_41 x13_42 x15_43 (0 : Int32) r_81 hr_81 _ _ _ hP hD hS (lv_sub hl [9, 8, 7, 6, 5, 4, 3, 2, 1, 0] rfl) (fun x1p234_64 x3p234_65 x5p234_66 x7p234_67 x9p234_68 x11p234_69 x13p234_70 x15p234_71 x17p234_72 er_81 H locs ls hP hD hS hl => ?_)
  subst er_81
  refine lv_aload_n hx hb kdX5_compress64_377 rfl (lv_at hl 0 rfl) ?_
  refine va_get (ci := 5) (v := .ref (a_this 13)) (C := kRX5) (T := kTX5) (N := 35) hx hb hts kinX5 hown hK hP 0 rfl rfl 13 (by decide) (hts _ km_694) (fun _ h9 => h9) rfl kdX5_compress64_378 ?_
  refine lv_iconst (v := 0) hx hb kdX5_compress64_381 (by decide) ?_
  refine lv_dup2_11 hx hb kdX5_compress64_382 rfl rfl ?_
  refine va_lald hx hb hK hP 2 2 rfl rfl (kb_in_v (by decide)) kdX5_compress64_383 ?_
  refine lv_lload_n hx hb kdX5_compress64_384 rfl (lv_at hl 1 rfl) ?_
  refine lv_ladd hx hb kdX5_compress64_385 ?_
  refine va_last hx hb hK hP hD hS 2 2 rfl rfl (kb_in_v (by decide)) kdX5_compress64_386 (fun H locs hP hD hS => ?_)
  obtain ⟨f_73, ef_73⟩ : ∃ y, y = vp_updL f_this_state (0 : Int32).toNatClampNeg ((f_this_state (0 : Int32).toNatClampNeg) + x1p234_64) := ⟨_, rfl⟩
  have h := kb_n_s ef_73 h
  have hP : va_P D kCl (kWX5_compress64 cB cI cL cBB cII cSh h_this a_this this_taped this_code this_kind this_rate this_filled this_total this_bitAt this_k this_e1 this_du this_dv f_this_cubes f_73 f_this_wordsp70_35 f_this_block) H := by rw [ef_73]; exact hP
  have hD : va_D A (kWX5_compress64 cB cI cL cBB cII cSh h_this a_this this_taped this_code this_kind this_rate this_filled this_total this_bitAt this_k this_e1 this_du this_dv f_this_cubes f_73 f_this_wordsp70_35 f_this_block) := by rw [ef_73]; exact hD
  refine lv_aload_n hx hb kdX5_compress64_387 rfl (lv_at hl 0 rfl) ?_
  refine va_get (ci := 5) (v := .ref (a_this 13)) (C := kRX5) (T := kTX5) (N := 35) hx hb hts kinX5 hown hK hP 0 rfl rfl 13 (by decide) (hts _ km_694) (fun _ h9 => h9) rfl kdX5_compress64_388 ?_
  refine lv_iconst (v := 1) hx hb kdX5_compress64_391 (by decide) ?_
  refine lv_dup2_11 hx hb kdX5_compress64_392 rfl rfl ?_
  refine va_lald hx hb hK hP 2 2 rfl rfl (kb_in_v (by decide)) kdX5_compress64_393 ?_
  refine lv_lload_n hx hb kdX5_compress64_394 rfl (lv_at hl 2 rfl) ?_
  refine lv_ladd hx hb kdX5_compress64_395 ?_
  refine va_last hx hb hK hP hD hS 2 2 rfl rfl (kb_in_v (by decide)) kdX5_compress64_396 (fun H locs hP hD hS => ?_)
  obtain ⟨f_74, ef_74⟩ : ∃ y, y = vp_updL f_73 (1 : Int32).toNatClampNeg ((f_73 (1 : Int32).toNatClampNeg) + x3p234_65) := ⟨_, rfl⟩
  have h := kb_n_s ef_74 h
  have hP : va_P D kCl (kWX5_compress64 cB cI cL cBB cII cSh h_this a_this this_taped this_code this_kind this_rate this_filled this_total this_bitAt this_k this_e1 this_du this_dv f_this_cubes f_74 f_this_wordsp70_35 f_this_block) H := by rw [ef_74]; exact hP
  have hD : va_D A (kWX5_compress64 cB cI cL cBB cII cSh h_this a_this this_taped this_code this_kind this_rate this_filled this_total this_bitAt this_k this_e1 this_du this_dv f_this_cubes f_74 f_this_wordsp70_35 f_this_block) := by rw [ef_74]; exact hD
  refine lv_aload_n hx hb kdX5_compress64_397 rfl (lv_at hl 0 rfl) ?_
  refine va_get (ci := 5) (v := .ref (a_this 13)) (C := kRX5) (T := kTX5) (N := 35) hx hb hts kinX5 hown hK hP 0 rfl rfl 13 (by decide) (hts _ km_694) (fun _ h9 => h9) rfl kdX5_compress64_398 ?_
  refine lv_iconst (v := 2) hx hb kdX5_compress64_401 (by decide) ?_
  refine lv_dup2_11 hx hb kdX5_compress64_402 rfl rfl ?_
  refine va_lald hx hb hK hP 2 2 rfl rfl (kb_in_v (by decide)) kdX5_compress64_403 ?_
  refine lv_lload hx hb kdX5_compress64_404 (lv_at hl 3 rfl) ?_
  refine lv_ladd hx hb kdX5_compress64_406 ?_
  refine va_last hx hb hK hP hD hS 2 2 rfl rfl (kb_in_v (by decide)) kdX5_compress64_407 (fun H locs hP hD hS => ?_)
  obtain ⟨f_75, ef_75⟩ : ∃ y, y = vp_updL f_74 (2 : Int32).toNatClampNeg ((f_74 (2 : Int32).toNatClampNeg) + x5p234_66) := ⟨_, rfl⟩
  have h := kb_n_s ef_75 h
  have hP : va_P D kCl (kWX5_compress64 cB cI cL cBB cII cSh h_this a_this this_taped this_code this_kind this_rate this_filled this_total this_bitAt this_k this_e1 this_du this_dv f_this_cubes f_75 f_this_wordsp70_35 f_this_block) H := by rw [ef_75]; exact hP
  have hD : va_D A (kWX5_compress64 cB cI cL cBB cII cSh h_this a_this this_taped this_code this_kind this_rate this_filled this_total this_bitAt this_k this_e1 this_du this_dv f_this_cubes f_75 f_this_wordsp70_35 f_this_block) := by rw [ef_75]; exact hD
  refine lv_aload_n hx hb kdX5_compress64_408 rfl (lv_at hl 0 rfl) ?_
  refine va_get (ci := 5) (v := .ref (a_this 13)) (C := kRX5) (T := kTX5) (N := 35) hx hb hts kinX5 hown hK hP 0 rfl rfl 13 (by decide) (hts _ km_694) (fun _ h9 => h9) rfl kdX5_compress64_409 ?_
  refine lv_iconst (v := 3) hx hb kdX5_compress64_412 (by decide) ?_
  refine lv_dup2_11 hx hb kdX5_compress64_413 rfl rfl ?_
  refine va_lald hx hb hK hP 2 2 rfl rfl (kb_in_v (by decide)) kdX5_compress64_414 ?_
  refine lv_lload hx hb kdX5_compress64_415 (lv_at hl 4 rfl) ?_
  refine lv_ladd hx hb kdX5_compress64_417 ?_
  refine va_last hx hb hK hP hD hS 2 2 rfl rfl (kb_in_v (by decide)) kdX5_compress64_418 (fun H locs hP hD hS => ?_)
  obtain ⟨f_76, ef_76⟩ : ∃ y, y = vp_updL f_75 (3 : Int32).toNatClampNeg ((f_75 (3 : Int32).toNatClampNeg) + x7p234_67) := ⟨_, rfl⟩
  have h := kb_n_s ef_76 h
  have hP : va_P D kCl (kWX5_compress64 cB cI cL cBB cII cSh h_this a_this this_taped this_code this_kind this_rate this_filled this_total this_bitAt this_k this_e1 this_du this_dv f_this_cubes f_76 f_this_wordsp70_35 f_this_block) H := by rw [ef_76]; exact hP
  have hD : va_D A (kWX5_compress64 cB cI cL cBB cII cSh h_this a_this this_taped this_code this_kind this_rate this_filled this_total this_bitAt this_k this_e1 this_du this_dv f_this_cubes f_76 f_this_wordsp70_35 f_this_block) := by rw [ef_76]; exact hD
  refine lv_aload_n hx hb kdX5_compress64_419 rfl (lv_at hl 0 rfl) ?_
  refine va_get (ci := 5) (v := .ref (a_this 13)) (C := kRX5) (T := kTX5) (N := 35) hx hb hts kinX5 hown hK hP 0 rfl rfl 13 (by decide) (hts _ km_694) (fun _ h9 => h9) rfl kdX5_compress64_420 ?_
  refine lv_iconst (v := 4) hx hb kdX5_compress64_423 (by decide) ?_
  refine lv_dup2_11 hx hb kdX5_compress64_424 rfl rfl ?_
  refine va_lald hx hb hK hP 2 2 rfl rfl (kb_in_v (by decide)) kdX5_compress64_425 ?_
  refine lv_lload hx hb kdX5_compress64_426 (lv_at hl 5 rfl) ?_
  refine lv_ladd hx hb kdX5_compress64_428 ?_
  refine va_last hx hb hK hP hD hS 2 2 rfl rfl (kb_in_v (by decide)) kdX5_compress64_429 (fun H locs hP hD hS => ?_)
  obtain ⟨f_77, ef_77⟩ : ∃ y, y = vp_updL f_76 (4 : Int32).toNatClampNeg ((f_76 (4 : Int32).toNatClampNeg) + x9p234_68) := ⟨_, rfl⟩
  have h := kb_n_s ef_77 h
  have hP : va_P D kCl (kWX5_compress64 cB cI cL cBB cII cSh h_this a_this this_taped this_code this_kind this_rate this_filled this_total this_bitAt this_k this_e1 this_du this_dv f_this_cubes f_77 f_this_wordsp70_35 f_this_block) H := by rw [ef_77]; exact hP
  have hD : va_D A (kWX5_compress64 cB cI cL cBB cII cSh h_this a_this this_taped this_code this_kind this_rate this_filled this_total this_bitAt this_k this_e1 this_du this_dv f_this_cubes f_77 f_this_wordsp70_35 f_this_block) := by rw [ef_77]; exact hD
  refine lv_aload_n hx hb kdX5_compress64_430 rfl (lv_at hl 0 rfl) ?_
  refine va_get (ci := 5) (v := .ref (a_this 13)) (C := kRX5) (T := kTX5) (N := 35) hx hb hts kinX5 hown hK hP 0 rfl rfl 13 (by decide) (hts _ km_694) (fun _ h9 => h9) rfl kdX5_compress64_431 ?_
  refine lv_iconst (v := 5) hx hb kdX5_compress64_434 (by decide) ?_
  refine lv_dup2_11 hx hb kdX5_compress64_435 rfl rfl ?_
  refine va_lald hx hb hK hP 2 2 rfl rfl (kb_in_v (by decide)) kdX5_compress64_436 ?_
  refine lv_lload hx hb kdX5_compress64_437 (lv_at hl 6 rfl) ?_
  refine lv_ladd hx hb kdX5_compress64_439 ?_
  refine va_last hx hb hK hP hD hS 2 2 rfl rfl (kb_in_v (by decide)) kdX5_compress64_440 (fun H locs hP hD hS => ?_)
  obtain ⟨f_78, ef_78⟩ : ∃ y, y = vp_updL f_77 (5 : Int32).toNatClampNeg ((f_77 (5 : Int32).toNatClampNeg) + x11p234_69) := ⟨_, rfl⟩
  have h := kb_n_s ef_78 h
  have hP : va_P D kCl (kWX5_compress64 cB cI cL cBB cII cSh h_this a_this this_taped this_code this_kind this_rate this_filled this_total this_bitAt this_k this_e1 this_du this_dv f_this_cubes f_78 f_this_wordsp70_35 f_this_block) H := by rw [ef_78]; exact hP
  have hD : va_D A (kWX5_compress64 cB cI cL cBB cII cSh h_this a_this this_taped this_code this_kind this_rate this_filled this_total this_bitAt this_k this_e1 this_du this_dv f_this_cubes f_78 f_this_wordsp70_35 f_this_block) := by rw [ef_78]; exact hD
  refine lv_aload_n hx hb kdX5_compress64_441 rfl (lv_at hl 0 rfl) ?_
  refine va_get (ci := 5) (v := .ref (a_this 13)) (C := kRX5) (T := kTX5) (N := 35) hx hb hts kinX5 hown hK hP 0 rfl rfl 13 (by decide) (hts _ km_694) (fun _ h9 => h9) rfl kdX5_compress64_442 ?_
  refine lv_bipush (v := 6) hx hb kdX5_compress64_445 (by decide) ?_
  refine lv_dup2_11 hx hb kdX5_compress64_447 rfl rfl ?_
  refine va_lald hx hb hK hP 2 2 rfl rfl (kb_in_v (by decide)) kdX5_compress64_448 ?_
  refine lv_lload hx hb kdX5_compress64_449 (lv_at hl 7 rfl) ?_
  refine lv_ladd hx hb kdX5_compress64_451 ?_
  refine va_last hx hb hK hP hD hS 2 2 rfl rfl (kb_in_v (by decide)) kdX5_compress64_452 (fun H locs hP hD hS => ?_)
  obtain ⟨f_79, ef_79⟩ : ∃ y, y = vp_updL f_78 (6 : Int32).toNatClampNeg ((f_78 (6 : Int32).toNatClampNeg) + x13p234_70) := ⟨_, rfl⟩
  have h := kb_n_s ef_79 h
  have hP : va_P D kCl (kWX5_compress64 cB cI cL cBB cII cSh h_this a_this this_taped this_code this_kind this_rate this_filled this_total this_bitAt this_k this_e1 this_du this_dv f_this_cubes f_79 f_this_wordsp70_35 f_this_block) H := by rw [ef_79]; exact hP
  have hD : va_D A (kWX5_compress64 cB cI cL cBB cII cSh h_this a_this this_taped this_code this_kind this_rate this_filled this_total this_bitAt this_k this_e1 this_du this_dv f_this_cubes f_79 f_this_wordsp70_35 f_this_block) := by rw [ef_79]; exact hD
  refine lv_aload_n hx hb kdX5_compress64_453 rfl (lv_at hl 0 rfl) ?_
  refine va_get (ci := 5) (v := .ref (a_this 13)) (C := kRX5) (T := kTX5) (N := 35) hx hb hts kinX5 hown hK hP 0 rfl rfl 13 (by decide) (hts _ km_694) (fun _ h9 => h9) rfl kdX5_compress64_454 ?_
  refine lv_bipush (v := 7) hx hb kdX5_compress64_457 (by decide) ?_
  refine lv_dup2_11 hx hb kdX5_compress64_459 rfl rfl ?_
  refine va_lald hx hb hK hP 2 2 rfl rfl (kb_in_v (by decide)) kdX5_compress64_460 ?_
  refine lv_lload hx hb kdX5_compress64_461 (lv_at hl 8 rfl) ?_
  refine lv_ladd hx hb kdX5_compress64_463 ?_
  refine va_last hx hb hK hP hD hS 2 2 rfl rfl (kb_in_v (by decide)) kdX5_compress64_464 (fun H locs hP hD hS => ?_)
  obtain ⟨f_80, ef_80⟩ : ∃ y, y = vp_updL f_79 (7 : Int32).toNatClampNeg ((f_79 (7 : Int32).toNatClampNeg) + x15p234_71) := ⟨_, rfl⟩
  have h := kb_n_s ef_80 h
  have hP : va_P D kCl (kWX5_compress64 cB cI cL cBB cII cSh h_this a_this this_taped this_code this_kind this_rate this_filled this_total this_bitAt this_k this_e1 this_du this_dv f_this_cubes f_80 f_this_wordsp70_35 f_this_block) H := by rw [ef_80]; exact hP
  have hD : va_D A (kWX5_compress64 cB cI cL cBB cII cSh h_this a_this this_taped this_code this_kind this_rate this_filled this_total this_bitAt this_k this_e1 this_du this_dv f_this_cubes f_80 f_this_wordsp70_35 f_this_block) := by rw [ef_80]; exact hD
  obtain rfl := Option.some.inj h
  exact W.vret hx hb hr (fun t ht hW => ⟨⟨rfl, by rw [ht]; exact hP, va_K.moved hW.alike hK, hD⟩, hS.F ht⟩) hS.2.2 kdX5_compress64_465

-- 434.ModuleKemModel.compress32.lean.txt
abbrev kWX5_compress32 (cB cI cL cBB cII cSh : ClassId) (h_this : Nat) (a_this : Nat → Nat) (this_taped : Int32) (this_code : Int32) (this_kind : Int32) (this_rate : Int32) (this_filled : Int32) (this_total : Int64) (this_bitAt : Int32) (this_k : Int32) (this_e1 : Int32) (this_du : Int32) (this_dv : Int32) (f_this_cubes : Nat → Int64) (f_this_state : Nat → Int64) (f_this_words : Nat → Int64) (f_this_block : Nat → Int32) : va_W := [(h_this, koX5 a_this this_taped this_code this_kind this_rate this_filled this_total this_bitAt this_k this_e1 this_du this_dv), ((a_this 6), .inl (cL, 80, .inr (.inl f_this_cubes))), ((a_this 13), .inl (cL, 25, .inr (.inl f_this_state))), ((a_this 16), .inl (cL, 80, .inr (.inl f_this_words))), ((a_this 17), .inl (cB, 128, .inl f_this_block))]
def krX5_compress32 : Room := { frames := 1, cells := 0, slots := 0, locals := 21 }
set_option maxHeartbeats 4000000 in
set_option maxRecDepth 100000 in
theorem klX5_compress32_12 {p : Program} {l : Launch} {e : Env} {s : State} {m : MethodId} {args : Array Value} {below : List Frame} {meth : Method} {c : Code} {cells slots : Nat} {Q : State → Prop} {D : va_G} {cB cI cL cBB cII cSh : ClassId} {A : Nat → Prop} (C0 : CallFix p m c prog_8_method_34_code 12 s args kwA kRX5) (hlocks : meth.locks = false) (hK : va_K D kCl (kb_T cB cI cL cBB cII cSh) s) (hN : kb_N s) (hA : ∀ q, s.heap.size ≤ q → A q) (hcR : cells ≤ krX5_compress32.cells) (hsR : slots ≤ krX5_compress32.slots) (h_this : Nat) (a_this : Nat → Nat) (x1p2 : Int32) (this_taped : Int32) (this_code : Int32) (this_kind : Int32) (this_rate : Int32) (this_filled : Int32) (this_total : Int64) (this_bitAt : Int32) (this_k : Int32) (this_e1 : Int32) (this_du : Int32) (this_dv : Int32) (f_this_cubes : Nat → Int64) (f_this_state : Nat → Int64) (f_this_wordsp2 : Nat → Int64) (f_this_block : Nat → Int32) :
    ∀ (fuel : Nat) (x2p12 : Int32) (x3p12 : Int32) (r : Int32 × Int32), kb_w (fun u : Int32 × Int32 => kSX5_compress32_12 x1p2 f_this_block u.1 u.2) fuel (x2p12, x3p12) = some r → ∀ (H : Heap) (locs : List Loc) (ls : Array Slot), va_P D kCl (kWX5_compress32 cB cI cL cBB cII cSh h_this a_this this_taped this_code this_kind this_rate this_filled this_total this_bitAt this_k this_e1 this_du this_dv f_this_cubes f_this_state f_this_wordsp2 f_this_block) H → va_D A (kWX5_compress32 cB cI cL cBB cII cSh h_this a_this this_taped this_code this_kind this_rate this_filled this_total this_bitAt this_k this_e1 this_du this_dv f_this_cubes f_this_state f_this_wordsp2 f_this_block) → va_S A s.heap H locs → lv_has ls 12 [(0, .ref h_this), (1, .int x1p2), (2, .int x2p12), (3, .int x3p12)] → (∀ (x2p12' : Int32) (x3p12' : Int32), r = (x2p12', x3p12') → ∀ (H : Heap) (locs : List Loc) (ls : Array Slot), va_P D kCl (kWX5_compress32 cB cI cL cBB cII cSh h_this a_this this_taped this_code this_kind this_rate this_filled this_total this_bitAt this_k this_e1 this_du this_dv f_this_cubes f_this_state f_this_wordsp2 f_this_block) H → va_D A (kWX5_compress32 cB cI cL cBB cII cSh h_this a_this this_taped this_code this_kind this_rate this_filled this_total this_bitAt this_k this_e1 this_du this_dv f_this_cubes f_this_state f_this_wordsp2 f_this_block) → va_S A s.heap H locs → lv_has ls 12 [(0, .ref h_this), (1, .int x1p2), (2, .int x2p12'), (3, .int x3p12')] → W p l e krX5_compress32 s m args below meth c H locs cells slots Q (F0 m 43 ls [])) → W p l e krX5_compress32 s m args below meth c H locs cells slots Q (F0 m 12 ls []) := by
  obtain ⟨hx, hb, hml, hown, hts⟩ := id C0
  intro fuel
  induction fuel with
  | zero =>
    intro x2p12 x3p12 r h
    exact absurd h (kb_w_z _ _ _)
  | succ fuel ih =>
    intro x2p12 x3p12 r h H locs ls hP hD hS hl hk0
    obtain ⟨o, h, ho⟩ := kb_w_s h
    have h : kSX5_compress32_12 x1p2 f_this_block x2p12 x3p12 = some o := h
    unfold kSX5_compress32_12 at h
    refine lv_iload_n hx hb kdX5_compress32_12 rfl (lv_at hl 3 rfl) ?_
    refine lv_iconst (v := 4) hx hb kdX5_compress32_13 (by decide) ?_
    refine lv_icmp_ge (tgt := 43) hx hb kdX5_compress32_14 (by decide) (fun c_2 => ?_) (fun c_2 => ?_)
    · have h := kb_b_t c_2 h
      obtain rfl := Option.some.inj h
      exact hk0 x2p12 x3p12 ho.symm _ _ _ hP hD hS (lv_sub hl [0, 1, 2, 3] rfl)
    · have h := kb_b_f c_2 h
      refine lv_iload_n hx hb kdX5_compress32_17 rfl (lv_at hl 2 rfl) ?_
      refine lv_bipush (v := 8) hx hb kdX5_compress32_18 (by decide) ?_
      refine lv_ishl hx hb kdX5_compress32_20 ?_
      refine lv_aload_n hx hb kdX5_compress32_21 rfl (lv_at hl 0 rfl) ?_
      refine va_get (ci := 5) (v := .ref (a_this 17)) (C := kRX5) (T := kTX5) (N := 35) hx hb hts kinX5 hown hK hP 0 rfl rfl 17 (by decide) (hts _ km_698) (fun _ h9 => h9) rfl kdX5_compress32_22 ?_
      refine lv_iconst (v := 4) hx hb kdX5_compress32_25 (by decide) ?_
      refine lv_iload_n hx hb kdX5_compress32_26 rfl (lv_at hl 1 rfl) ?_
      refine lv_imul hx hb kdX5_compress32_27 ?_
      refine lv_iload_n hx hb kdX5_compress32_28 rfl (lv_at hl 3 rfl) ?_
      refine lv_iadd hx hb kdX5_compress32_29 ?_
      obtain ⟨g_3, h⟩ := kb_g_s h
      refine va_bald hx hb hK hP 4 0 rfl rfl (kb_in_v g_3) kdX5_compress32_30 ?_
      refine lv_sipush (v := 255) hx hb kdX5_compress32_31 (by decide) ?_
      refine lv_iand hx hb kdX5_compress32_34 ?_
      refine lv_ior hx hb kdX5_compress32_35 ?_
      refine lv_topi (fun x2_4 ex2_4 => ?_)
      have h := kb_n_s ex2_4 h
      refine lv_istore_n (lv' := [(2, .int x2_4), (0, .ref h_this), (1, .int x1p2), (3, .int x3p12)]) hx hb kdX5_compress32_36 rfl hl (by decide) rfl (fun ls hl => ?_)
      obtain ⟨x3_5, ex3_5⟩ : ∃ y : Int32, y = x3p12 + Int32.ofInt 1 := ⟨_, rfl⟩
      have h := kb_n_s ex3_5 h
      refine lv_iinc (v := x3_5) (lv' := [(3, .int x3_5), (2, .int x2_4), (0, .ref h_this), (1, .int x1p2)]) hx hb kdX5_compress32_37 hl (k := 3) rfl ex3_5.symm (by decide) rfl (fun ls hl => ?_)
      refine lv_goto (tgt := 12) hx hb kdX5_compress32_40 (by decide) ?_
      obtain rfl := Option.some.inj h
      exact ih x2_4 x3_5 r ho _ _ _ hP hD hS (lv_sub hl [2, 3, 1, 0] rfl) hk0
set_option maxHeartbeats 4000000 in
set_option maxRecDepth 100000 in
theorem klX5_compress32_2 {p : Program} {l : Launch} {e : Env} {s : State} {m : MethodId} {args : Array Value} {below : List Frame} {meth : Method} {c : Code} {cells slots : Nat} {Q : State → Prop} {D : va_G} {cB cI cL cBB cII cSh : ClassId} {A : Nat → Prop} (C0 : CallFix p m c prog_8_method_34_code 12 s args kwA kRX5) (hlocks : meth.locks = false) (hK : va_K D kCl (kb_T cB cI cL cBB cII cSh) s) (hN : kb_N s) (hA : ∀ q, s.heap.size ≤ q → A q) (hcR : cells ≤ krX5_compress32.cells) (hsR : slots ≤ krX5_compress32.slots) (h_this : Nat) (a_this : Nat → Nat) (this_taped : Int32) (this_code : Int32) (this_kind : Int32) (this_rate : Int32) (this_filled : Int32) (this_total : Int64) (this_bitAt : Int32) (this_k : Int32) (this_e1 : Int32) (this_du : Int32) (this_dv : Int32) (f_this_cubes : Nat → Int64) (f_this_state : Nat → Int64) (f_this_block : Nat → Int32) :
    ∀ (fuel : Nat) (x1p2 : Int32) (f_this_wordsp2 : Nat → Int64) (r : Int32 × (Nat → Int64)), kb_w (fun u : Int32 × (Nat → Int64) => kSX5_compress32_2 f_this_block u.1 u.2) fuel (x1p2, f_this_wordsp2) = some r → ∀ (H : Heap) (locs : List Loc) (ls : Array Slot), va_P D kCl (kWX5_compress32 cB cI cL cBB cII cSh h_this a_this this_taped this_code this_kind this_rate this_filled this_total this_bitAt this_k this_e1 this_du this_dv f_this_cubes f_this_state f_this_wordsp2 f_this_block) H → va_D A (kWX5_compress32 cB cI cL cBB cII cSh h_this a_this this_taped this_code this_kind this_rate this_filled this_total this_bitAt this_k this_e1 this_du this_dv f_this_cubes f_this_state f_this_wordsp2 f_this_block) → va_S A s.heap H locs → lv_has ls 12 [(0, .ref h_this), (1, .int x1p2)] → (∀ (x1p2' : Int32) (f_this_wordsp2' : Nat → Int64), r = (x1p2', f_this_wordsp2') → ∀ (H : Heap) (locs : List Loc) (ls : Array Slot), va_P D kCl (kWX5_compress32 cB cI cL cBB cII cSh h_this a_this this_taped this_code this_kind this_rate this_filled this_total this_bitAt this_k this_e1 this_du this_dv f_this_cubes f_this_state f_this_wordsp2' f_this_block) H → va_D A (kWX5_compress32 cB cI cL cBB cII cSh h_this a_this this_taped this_code this_kind this_rate this_filled this_total this_bitAt this_k this_e1 this_du this_dv f_this_cubes f_this_state f_this_wordsp2' f_this_block) → va_S A s.heap H locs → lv_has ls 12 [(0, .ref h_this), (1, .int x1p2')] → W p l e krX5_compress32 s m args below meth c H locs cells slots Q (F0 m 57 ls [])) → W p l e krX5_compress32 s m args below meth c H locs cells slots Q (F0 m 2 ls []) := by
  obtain ⟨hx, hb, hml, hown, hts⟩ := id C0
  intro fuel
  induction fuel with
  | zero =>
    intro x1p2 f_this_wordsp2 r h
    exact absurd h (kb_w_z _ _ _)
  | succ fuel ih =>
    intro x1p2 f_this_wordsp2 r h H locs ls hP hD hS hl hk0
    obtain ⟨o, h, ho⟩ := kb_w_s h
    have h : kSX5_compress32_2 f_this_block x1p2 f_this_wordsp2 = some o := h
    unfold kSX5_compress32_2 at h
    refine lv_iload_n hx hb kdX5_compress32_2 rfl (lv_at hl 1 rfl) ?_
    refine lv_bipush (v := 16) hx hb kdX5_compress32_3 (by decide) ?_
    refine lv_icmp_ge (tgt := 57) hx hb kdX5_compress32_5 (by decide) (fun c_1 => ?_) (fun c_1 => ?_)
    · have h := kb_b_t c_1 h
      obtain rfl := Option.some.inj h
      exact hk0 x1p2 f_this_wordsp2 ho.symm _ _ _ hP hD hS (lv_sub hl [0, 1] rfl)
    · have h := kb_b_f c_1 h
      refine lv_iconst (v := 0) hx hb kdX5_compress32_8 (by decide) ?_
      refine lv_istore_n (lv' := [(2, .int (0 : Int32)), (0, .ref h_this), (1, .int x1p2)]) hx hb kdX5_compress32_9 rfl hl (by decide) rfl (fun ls hl => ?_)
      refine lv_iconst (v := 0) hx hb kdX5_compress32_10 (by decide) ?_
      refine lv_istore_n (lv' := [(3, .int (0 : Int32)), (2, .int (0 : Int32)), (0, .ref h_this), (1, .int x1p2)]) hx hb kdX5_compress32_11 rfl hl (by decide) rfl (fun ls hl => ?_)
      obtain ⟨r_11, hr_11, h⟩ := kb_o_s h
      refine klX5_compress32_12 C0 hlocks hK hN hA hcR hsR h_this a_this x1p2 this_taped this_code this_kind this_rate this_filled this_total this_bitAt this_k this_e1 this_du this_dv f_this_cubes f_this_state f_this_wordsp2 f_this_block 100000 (0 : Int32) (0 : Int32) r_11 hr_11 _ _ _ hP hD hS (lv_sub hl [2, 3, 1, 0] rfl) (fun x2p12_6 x3p12_7 er_11 H locs ls hP hD hS hl => ?_)
      subst er_11
      refine lv_aload_n hx hb kdX5_compress32_43 rfl (lv_at hl 0 rfl) ?_
      refine va_get (ci := 5) (v := .ref (a_this 16)) (C := kRX5) (T := kTX5) (N := 35) hx hb hts kinX5 hown hK hP 0 rfl rfl 16 (by decide) (hts _ km_697) (fun _ h9 => h9) rfl kdX5_compress32_44 ?_
      refine lv_iload_n hx hb kdX5_compress32_47 rfl (lv_at hl 1 rfl) ?_
      refine lv_iload_n hx hb kdX5_compress32_48 rfl (lv_at hl 2 rfl) ?_
      refine lv_i2l (v := (x2p12_6.toInt64)) hx hb kdX5_compress32_49 rfl ?_
      obtain ⟨g_8, h⟩ := kb_g_s h
      refine va_last hx hb hK hP hD hS 3 2 rfl rfl (kb_in_v g_8) kdX5_compress32_50 (fun H locs hP hD hS => ?_)
      obtain ⟨f_9, ef_9⟩ : ∃ y, y = vp_updL f_this_wordsp2 x1p2.toNatClampNeg (x2p12_6.toInt64) := ⟨_, rfl⟩
      have h := kb_n_s ef_9 h
      have hP : va_P D kCl (kWX5_compress32 cB cI cL cBB cII cSh h_this a_this this_taped this_code this_kind this_rate this_filled this_total this_bitAt this_k this_e1 this_du this_dv f_this_cubes f_this_state f_9 f_this_block) H := by rw [ef_9]; exact hP
      have hD : va_D A (kWX5_compress32 cB cI cL cBB cII cSh h_this a_this this_taped this_code this_kind this_rate this_filled this_total this_bitAt this_k this_e1 this_du this_dv f_this_cubes f_this_state f_9 f_this_block) := by rw [ef_9]; exact hD
      obtain ⟨x1_10, ex1_10⟩ : ∃ y : Int32, y = x1p2 + Int32.ofInt 1 := ⟨_, rfl⟩
      have h := kb_n_s ex1_10 h
      refine lv_iinc (v := x1_10) (lv' := [(1, .int x1_10), (0, .ref h_this), (2, .int x2p12_6), (3, .int x3p12_7)]) hx hb kdX5_compress32_51 hl (k := 1) rfl ex1_10.symm (by decide) rfl (fun ls hl => ?_)
      refine lv_goto (tgt := 2) hx hb kdX5_compress32_54 (by decide) ?_
      obtain rfl := Option.some.inj h
      exact ih x1_10 f_9 r ho _ _ _ hP hD hS (lv_sub hl [1, 0] rfl) hk0
set_option maxHeartbeats 4000000 in
set_option maxRecDepth 100000 in
theorem klX5_compress32_60 {p : Program} {l : Launch} {e : Env} {s : State} {m : MethodId} {args : Array Value} {below : List Frame} {meth : Method} {c : Code} {cells slots : Nat} {Q : State → Prop} {D : va_G} {cB cI cL cBB cII cSh : ClassId} {A : Nat → Prop} (C0 : CallFix p m c prog_8_method_34_code 12 s args kwA kRX5) (hlocks : meth.locks = false) (hK : va_K D kCl (kb_T cB cI cL cBB cII cSh) s) (hN : kb_N s) (hA : ∀ q, s.heap.size ≤ q → A q) (hcR : cells ≤ krX5_compress32.cells) (hsR : slots ≤ krX5_compress32.slots) (h_this : Nat) (a_this : Nat → Nat) (this_taped : Int32) (this_code : Int32) (this_kind : Int32) (this_rate : Int32) (this_filled : Int32) (this_total : Int64) (this_bitAt : Int32) (this_k : Int32) (this_e1 : Int32) (this_du : Int32) (this_dv : Int32) (f_this_cubes : Nat → Int64) (f_this_state : Nat → Int64) (f_this_block : Nat → Int32) :
    ∀ (fuel : Nat) (x1p60 : Int32) (f_this_wordsp60 : Nat → Int64) (r : Int32 × (Nat → Int64)), kb_w (fun u : Int32 × (Nat → Int64) => kSX5_compress32_60 u.1 u.2) fuel (x1p60, f_this_wordsp60) = some r → ∀ (H : Heap) (locs : List Loc) (ls : Array Slot), va_P D kCl (kWX5_compress32 cB cI cL cBB cII cSh h_this a_this this_taped this_code this_kind this_rate this_filled this_total this_bitAt this_k this_e1 this_du this_dv f_this_cubes f_this_state f_this_wordsp60 f_this_block) H → va_D A (kWX5_compress32 cB cI cL cBB cII cSh h_this a_this this_taped this_code this_kind this_rate this_filled this_total this_bitAt this_k this_e1 this_du this_dv f_this_cubes f_this_state f_this_wordsp60 f_this_block) → va_S A s.heap H locs → lv_has ls 12 [(0, .ref h_this), (1, .int x1p60)] → (∀ (x1p60' : Int32) (f_this_wordsp60' : Nat → Int64), r = (x1p60', f_this_wordsp60') → ∀ (H : Heap) (locs : List Loc) (ls : Array Slot), va_P D kCl (kWX5_compress32 cB cI cL cBB cII cSh h_this a_this this_taped this_code this_kind this_rate this_filled this_total this_bitAt this_k this_e1 this_du this_dv f_this_cubes f_this_state f_this_wordsp60' f_this_block) H → va_D A (kWX5_compress32 cB cI cL cBB cII cSh h_this a_this this_taped this_code this_kind this_rate this_filled this_total this_bitAt this_k this_e1 this_du this_dv f_this_cubes f_this_state f_this_wordsp60' f_this_block) → va_S A s.heap H locs → lv_has ls 12 [(0, .ref h_this), (1, .int x1p60')] → W p l e krX5_compress32 s m args below meth c H locs cells slots Q (F0 m 158 ls [])) → W p l e krX5_compress32 s m args below meth c H locs cells slots Q (F0 m 60 ls []) := by
  obtain ⟨hx, hb, hml, hown, hts⟩ := id C0
  intro fuel
  induction fuel with
  | zero =>
    intro x1p60 f_this_wordsp60 r h
    exact absurd h (kb_w_z _ _ _)
  | succ fuel ih =>
    intro x1p60 f_this_wordsp60 r h H locs ls hP hD hS hl hk0
    obtain ⟨o, h, ho⟩ := kb_w_s h
    have h : kSX5_compress32_60 x1p60 f_this_wordsp60 = some o := h
    unfold kSX5_compress32_60 at h
    refine lv_iload_n hx hb kdX5_compress32_60 rfl (lv_at hl 1 rfl) ?_
    refine lv_bipush (v := 64) hx hb kdX5_compress32_61 (by decide) ?_
    refine lv_icmp_ge (tgt := 158) hx hb kdX5_compress32_63 (by decide) (fun c_14 => ?_) (fun c_14 => ?_)
    · have h := kb_b_t c_14 h
      obtain rfl := Option.some.inj h
      exact hk0 x1p60 f_this_wordsp60 ho.symm _ _ _ hP hD hS (lv_sub hl [0, 1] rfl)
    · have h := kb_b_f c_14 h
      refine lv_aload_n hx hb kdX5_compress32_66 rfl (lv_at hl 0 rfl) ?_
      refine va_get (ci := 5) (v := .ref (a_this 16)) (C := kRX5) (T := kTX5) (N := 35) hx hb hts kinX5 hown hK hP 0 rfl rfl 16 (by decide) (hts _ km_697) (fun _ h9 => h9) rfl kdX5_compress32_67 ?_
      refine lv_iload_n hx hb kdX5_compress32_70 rfl (lv_at hl 1 rfl) ?_
      refine lv_iconst (v := 2) hx hb kdX5_compress32_71 (by decide) ?_
      refine lv_isub hx hb kdX5_compress32_72 ?_
      obtain ⟨g_15, h⟩ := kb_g_s h
      refine va_lald hx hb hK hP 3 2 rfl rfl (kb_in_v g_15) kdX5_compress32_73 ?_
      refine lv_l2i (v := ((f_this_wordsp60 (x1p60 - (2 : Int32)).toNatClampNeg).toInt32)) hx hb kdX5_compress32_74 rfl ?_
      refine lv_topi (fun x2_16 ex2_16 => ?_)
      have h := kb_n_s ex2_16 h
      refine lv_istore_n (lv' := [(2, .int x2_16), (0, .ref h_this), (1, .int x1p60)]) hx hb kdX5_compress32_75 rfl hl (by decide) rfl (fun ls hl => ?_)
      refine lv_aload_n hx hb kdX5_compress32_76 rfl (lv_at hl 1 rfl) ?_
      refine va_get (ci := 5) (v := .ref (a_this 16)) (C := kRX5) (T := kTX5) (N := 35) hx hb hts kinX5 hown hK hP 0 rfl rfl 16 (by decide) (hts _ km_697) (fun _ h9 => h9) rfl kdX5_compress32_77 ?_
      refine lv_iload_n hx hb kdX5_compress32_80 rfl (lv_at hl 2 rfl) ?_
      refine lv_bipush (v := 15) hx hb kdX5_compress32_81 (by decide) ?_
      refine lv_isub hx hb kdX5_compress32_83 ?_
      obtain ⟨g_17, h⟩ := kb_g_s h
      refine va_lald hx hb hK hP 3 2 rfl rfl (kb_in_v g_17) kdX5_compress32_84 ?_
      refine lv_l2i (v := ((f_this_wordsp60 (x1p60 - (15 : Int32)).toNatClampNeg).toInt32)) hx hb kdX5_compress32_85 rfl ?_
      refine lv_topi (fun x3_18 ex3_18 => ?_)
      have h := kb_n_s ex3_18 h
      refine lv_istore_n (lv' := [(3, .int x3_18), (2, .int x2_16), (0, .ref h_this), (1, .int x1p60)]) hx hb kdX5_compress32_86 rfl hl (by decide) rfl (fun ls hl => ?_)
      refine lv_aload_n hx hb kdX5_compress32_87 rfl (lv_at hl 2 rfl) ?_
      refine va_get (ci := 5) (v := .ref (a_this 16)) (C := kRX5) (T := kTX5) (N := 35) hx hb hts kinX5 hown hK hP 0 rfl rfl 16 (by decide) (hts _ km_697) (fun _ h9 => h9) rfl kdX5_compress32_88 ?_
      refine lv_iload_n hx hb kdX5_compress32_91 rfl (lv_at hl 3 rfl) ?_
      refine lv_iload_n hx hb kdX5_compress32_92 rfl (lv_at hl 1 rfl) ?_
      refine lv_bipush (v := 17) hx hb kdX5_compress32_93 (by decide) ?_
      obtain ⟨u_20, hu_20, h⟩ := kb_o_s h
      obtain ⟨r_19, rfl⟩ : ∃ z, z = u_20 := ⟨_, rfl⟩
      have hC := (show ([] : List Nat).map (fun i : Nat => (kWX5_compress32 cB cI cL cBB cII cSh h_this a_this this_taped this_code this_kind this_rate this_filled this_total this_bitAt this_k this_e1 this_du this_dv f_this_cubes f_this_state f_this_wordsp60 f_this_block)[i]?) = List.map some (kWX5_turn cB cI cL cBB cII cSh) from rfl)
      have hPc := kb_Psub hP ([] : List Nat) hC
      have hDc := kb_Dsub hD ([] : List Nat) hC (by simp [kb_nd])
      refine kb_call0 (va_runS (As := [.int x2_16, .int (17 : Int32)]) (rest := [.int x1p60, .ref (a_this 16)]) C0 (kcX5_turn l D cB cI cL cBB cII cSh  _ x2_16 (17 : Int32) r_19 hu_20) (va_cwS 2 hts (kb_gS km_666 km_667 km_6 km_668) rfl rfl rfl (by decide +kernel) ⟨Nat.le_of_ble_eq_true rfl, Nat.le_of_ble_eq_true rfl⟩) ⟨kb_P_bl, (fun U hU hW => ⟨rfl, by rw [hU], by rw [hU]; exact hPc, va_K.moved hW.alike hK, kb_N_to hW hN, hDc.weaken (fun _ _ _ _ => trivial)⟩)⟩ rfl rfl hl.1 rfl (lv_room (Nat.le_of_ble_eq_true rfl)) kdX5_compress32_95 ⟨hcR, hsR⟩) hP hD hS hA ([] : List Nat) hC rfl (fun H locs hP hD hS => ?_)
      have hP : va_P D kCl (kWX5_compress32 cB cI cL cBB cII cSh h_this a_this this_taped this_code this_kind this_rate this_filled this_total this_bitAt this_k this_e1 this_du this_dv f_this_cubes f_this_state f_this_wordsp60 f_this_block) H := hP
      have hD : va_D A (kWX5_compress32 cB cI cL cBB cII cSh h_this a_this this_taped this_code this_kind this_rate this_filled this_total this_bitAt this_k this_e1 this_du this_dv f_this_cubes f_this_state f_this_wordsp60 f_this_block) := hD
      refine lv_iload_n hx hb kdX5_compress32_98 rfl (lv_at hl 1 rfl) ?_
      refine lv_bipush (v := 19) hx hb kdX5_compress32_99 (by decide) ?_
      obtain ⟨u_22, hu_22, h⟩ := kb_o_s h
      obtain ⟨r_21, rfl⟩ : ∃ z, z = u_22 := ⟨_, rfl⟩
      have hC := (show ([] : List Nat).map (fun i : Nat => (kWX5_compress32 cB cI cL cBB cII cSh h_this a_this this_taped this_code this_kind this_rate this_filled this_total this_bitAt this_k this_e1 this_du this_dv f_this_cubes f_this_state f_this_wordsp60 f_this_block)[i]?) = List.map some (kWX5_turn cB cI cL cBB cII cSh) from rfl)
      have hPc := kb_Psub hP ([] : List Nat) hC
      have hDc := kb_Dsub hD ([] : List Nat) hC (by simp [kb_nd])
      refine kb_call0 (va_runS (As := [.int x2_16, .int (19 : Int32)]) (rest := [.int r_19, .int x1p60, .ref (a_this 16)]) C0 (kcX5_turn l D cB cI cL cBB cII cSh  _ x2_16 (19 : Int32) r_21 hu_22) (va_cwS 2 hts (kb_gS km_666 km_667 km_6 km_668) rfl rfl rfl (by decide +kernel) ⟨Nat.le_of_ble_eq_true rfl, Nat.le_of_ble_eq_true rfl⟩) ⟨kb_P_bl, (fun U hU hW => ⟨rfl, by rw [hU], by rw [hU]; exact hPc, va_K.moved hW.alike hK, kb_N_to hW hN, hDc.weaken (fun _ _ _ _ => trivial)⟩)⟩ rfl rfl hl.1 rfl (lv_room (Nat.le_of_ble_eq_true rfl)) kdX5_compress32_101 ⟨hcR, hsR⟩) hP hD hS hA ([] : List Nat) hC rfl (fun H locs hP hD hS => ?_)
      have hP : va_P D kCl (kWX5_compress32 cB cI cL cBB cII cSh h_this a_this this_taped this_code this_kind this_rate this_filled this_total this_bitAt this_k this_e1 this_du this_dv f_this_cubes f_this_state f_this_wordsp60 f_this_block) H := hP
      have hD : va_D A (kWX5_compress32 cB cI cL cBB cII cSh h_this a_this this_taped this_code this_kind this_rate this_filled this_total this_bitAt this_k this_e1 this_du this_dv f_this_cubes f_this_state f_this_wordsp60 f_this_block) := hD
      refine lv_ixor hx hb kdX5_compress32_104 ?_
      refine lv_iload_n hx hb kdX5_compress32_105 rfl (lv_at hl 1 rfl) ?_
      refine lv_bipush (v := 10) hx hb kdX5_compress32_106 (by decide) ?_
      refine lv_iushr (v := ((x2_16.toUInt32 >>> ((10 : Int32).toUInt32 &&& Int32.toUInt32 31)).toInt32)) hx hb kdX5_compress32_108 rfl ?_
      refine lv_ixor hx hb kdX5_compress32_109 ?_
      refine lv_aload_n hx hb kdX5_compress32_110 rfl (lv_at hl 2 rfl) ?_
      refine va_get (ci := 5) (v := .ref (a_this 16)) (C := kRX5) (T := kTX5) (N := 35) hx hb hts kinX5 hown hK hP 0 rfl rfl 16 (by decide) (hts _ km_697) (fun _ h9 => h9) rfl kdX5_compress32_111 ?_
      refine lv_iload_n hx hb kdX5_compress32_114 rfl (lv_at hl 3 rfl) ?_
      refine lv_bipush (v := 7) hx hb kdX5_compress32_115 (by decide) ?_
      refine lv_isub hx hb kdX5_compress32_117 ?_
      obtain ⟨g_23, h⟩ := kb_g_s h
      refine va_lald hx hb hK hP 3 2 rfl rfl (kb_in_v g_23) kdX5_compress32_118 ?_
      refine lv_l2i (v := ((f_this_wordsp60 (x1p60 - (7 : Int32)).toNatClampNeg).toInt32)) hx hb kdX5_compress32_119 rfl ?_
      refine lv_iadd hx hb kdX5_compress32_120 ?_
      refine lv_iload_n hx hb kdX5_compress32_121 rfl (lv_at hl 0 rfl) ?_
      refine lv_bipush (v := 7) hx hb kdX5_compress32_122 (by decide) ?_
      obtain ⟨u_25, hu_25, h⟩ := kb_o_s h
      obtain ⟨r_24, rfl⟩ : ∃ z, z = u_25 := ⟨_, rfl⟩
      have hC := (show ([] : List Nat).map (fun i : Nat => (kWX5_compress32 cB cI cL cBB cII cSh h_this a_this this_taped this_code this_kind this_rate this_filled this_total this_bitAt this_k this_e1 this_du this_dv f_this_cubes f_this_state f_this_wordsp60 f_this_block)[i]?) = List.map some (kWX5_turn cB cI cL cBB cII cSh) from rfl)
      have hPc := kb_Psub hP ([] : List Nat) hC
      have hDc := kb_Dsub hD ([] : List Nat) hC (by simp [kb_nd])
      refine kb_call0 (va_runS (As := [.int x3_18, .int (7 : Int32)]) (rest := [.int (((r_19 ^^^ r_21) ^^^ ((x2_16.toUInt32 >>> ((10 : Int32).toUInt32 &&& Int32.toUInt32 31)).toInt32)) + ((f_this_wordsp60 (x1p60 - (7 : Int32)).toNatClampNeg).toInt32)), .int x1p60, .ref (a_this 16)]) C0 (kcX5_turn l D cB cI cL cBB cII cSh  _ x3_18 (7 : Int32) r_24 hu_25) (va_cwS 2 hts (kb_gS km_666 km_667 km_6 km_668) rfl rfl rfl (by decide +kernel) ⟨Nat.le_of_ble_eq_true rfl, Nat.le_of_ble_eq_true rfl⟩) ⟨kb_P_bl, (fun U hU hW => ⟨rfl, by rw [hU], by rw [hU]; exact hPc, va_K.moved hW.alike hK, kb_N_to hW hN, hDc.weaken (fun _ _ _ _ => trivial)⟩)⟩ rfl rfl hl.1 rfl (lv_room (Nat.le_of_ble_eq_true rfl)) kdX5_compress32_124 ⟨hcR, hsR⟩) hP hD hS hA ([] : List Nat) hC rfl (fun H locs hP hD hS => ?_)
      have hP : va_P D kCl (kWX5_compress32 cB cI cL cBB cII cSh h_this a_this this_taped this_code this_kind this_rate this_filled this_total this_bitAt this_k this_e1 this_du this_dv f_this_cubes f_this_state f_this_wordsp60 f_this_block) H := hP
      have hD : va_D A (kWX5_compress32 cB cI cL cBB cII cSh h_this a_this this_taped this_code this_kind this_rate this_filled this_total this_bitAt this_k this_e1 this_du this_dv f_this_cubes f_this_state f_this_wordsp60 f_this_block) := hD
      refine lv_iload_n hx hb kdX5_compress32_127 rfl (lv_at hl 0 rfl) ?_
      refine lv_bipush (v := 18) hx hb kdX5_compress32_128 (by decide) ?_
      obtain ⟨u_27, hu_27, h⟩ := kb_o_s h
      obtain ⟨r_26, rfl⟩ : ∃ z, z = u_27 := ⟨_, rfl⟩
      have hC := (show ([] : List Nat).map (fun i : Nat => (kWX5_compress32 cB cI cL cBB cII cSh h_this a_this this_taped this_code this_kind this_rate this_filled this_total this_bitAt this_k this_e1 this_du this_dv f_this_cubes f_this_state f_this_wordsp60 f_this_block)[i]?) = List.map some (kWX5_turn cB cI cL cBB cII cSh) from rfl)
      have hPc := kb_Psub hP ([] : List Nat) hC
      have hDc := kb_Dsub hD ([] : List Nat) hC (by simp [kb_nd])
      refine kb_call0 (va_runS (As := [.int x3_18, .int (18 : Int32)]) (rest := [.int r_24, .int (((r_19 ^^^ r_21) ^^^ ((x2_16.toUInt32 >>> ((10 : Int32).toUInt32 &&& Int32.toUInt32 31)).toInt32)) + ((f_this_wordsp60 (x1p60 - (7 : Int32)).toNatClampNeg).toInt32)), .int x1p60, .ref (a_this 16)]) C0 (kcX5_turn l D cB cI cL cBB cII cSh  _ x3_18 (18 : Int32) r_26 hu_27) (va_cwS 2 hts (kb_gS km_666 km_667 km_6 km_668) rfl rfl rfl (by decide +kernel) ⟨Nat.le_of_ble_eq_true rfl, Nat.le_of_ble_eq_true rfl⟩) ⟨kb_P_bl, (fun U hU hW => ⟨rfl, by rw [hU], by rw [hU]; exact hPc, va_K.moved hW.alike hK, kb_N_to hW hN, hDc.weaken (fun _ _ _ _ => trivial)⟩)⟩ rfl rfl hl.1 rfl (lv_room (Nat.le_of_ble_eq_true rfl)) kdX5_compress32_130 ⟨hcR, hsR⟩) hP hD hS hA ([] : List Nat) hC rfl (fun H locs hP hD hS => ?_)
      have hP : va_P D kCl (kWX5_compress32 cB cI cL cBB cII cSh h_this a_this this_taped this_code this_kind this_rate this_filled this_total this_bitAt this_k this_e1 this_du this_dv f_this_cubes f_this_state f_this_wordsp60 f_this_block) H := hP
      have hD : va_D A (kWX5_compress32 cB cI cL cBB cII cSh h_this a_this this_taped this_code this_kind this_rate this_filled this_total this_bitAt this_k this_e1 this_du this_dv f_this_cubes f_this_state f_this_wordsp60 f_this_block) := hD
      refine lv_ixor hx hb kdX5_compress32_133 ?_
      refine lv_iload_n hx hb kdX5_compress32_134 rfl (lv_at hl 0 rfl) ?_
      refine lv_iconst (v := 3) hx hb kdX5_compress32_135 (by decide) ?_
      refine lv_iushr (v := ((x3_18.toUInt32 >>> ((3 : Int32).toUInt32 &&& Int32.toUInt32 31)).toInt32)) hx hb kdX5_compress32_136 rfl ?_
      refine lv_ixor hx hb kdX5_compress32_137 ?_
      refine lv_iadd hx hb kdX5_compress32_138 ?_
      refine lv_aload_n hx hb kdX5_compress32_139 rfl (lv_at hl 2 rfl) ?_
      refine va_get (ci := 5) (v := .ref (a_this 16)) (C := kRX5) (T := kTX5) (N := 35) hx hb hts kinX5 hown hK hP 0 rfl rfl 16 (by decide) (hts _ km_697) (fun _ h9 => h9) rfl kdX5_compress32_140 ?_
      refine lv_iload_n hx hb kdX5_compress32_143 rfl (lv_at hl 3 rfl) ?_
      refine lv_bipush (v := 16) hx hb kdX5_compress32_144 (by decide) ?_
      refine lv_isub hx hb kdX5_compress32_146 ?_
      obtain ⟨g_28, h⟩ := kb_g_s h
      refine va_lald hx hb hK hP 3 2 rfl rfl (kb_in_v g_28) kdX5_compress32_147 ?_
      refine lv_l2i (v := ((f_this_wordsp60 (x1p60 - (16 : Int32)).toNatClampNeg).toInt32)) hx hb kdX5_compress32_148 rfl ?_
      refine lv_iadd hx hb kdX5_compress32_149 ?_
      refine lv_i2l (v := ((((((r_19 ^^^ r_21) ^^^ ((x2_16.toUInt32 >>> ((10 : Int32).toUInt32 &&& Int32.toUInt32 31)).toInt32)) + ((f_this_wordsp60 (x1p60 - (7 : Int32)).toNatClampNeg).toInt32)) + ((r_24 ^^^ r_26) ^^^ ((x3_18.toUInt32 >>> ((3 : Int32).toUInt32 &&& Int32.toUInt32 31)).toInt32))) + ((f_this_wordsp60 (x1p60 - (16 : Int32)).toNatClampNeg).toInt32)).toInt64)) hx hb kdX5_compress32_150 rfl ?_
      obtain ⟨g_29, h⟩ := kb_g_s h
      refine va_last hx hb hK hP hD hS 3 2 rfl rfl (kb_in_v g_29) kdX5_compress32_151 (fun H locs hP hD hS => ?_)
      obtain ⟨f_30, ef_30⟩ : ∃ y, y = vp_updL f_this_wordsp60 x1p60.toNatClampNeg ((((((r_19 ^^^ r_21) ^^^ ((x2_16.toUInt32 >>> ((10 : Int32).toUInt32 &&& Int32.toUInt32 31)).toInt32)) + ((f_this_wordsp60 (x1p60 - (7 : Int32)).toNatClampNeg).toInt32)) + ((r_24 ^^^ r_26) ^^^ ((x3_18.toUInt32 >>> ((3 : Int32).toUInt32 &&& Int32.toUInt32 31)).toInt32))) + ((f_this_wordsp60 (x1p60 - (16 : Int32)).toNatClampNeg).toInt32)).toInt64) := ⟨_, rfl⟩
      have h := kb_n_s ef_30 h
      have hP : va_P D kCl (kWX5_compress32 cB cI cL cBB cII cSh h_this a_this this_taped this_code this_kind this_rate this_filled this_total this_bitAt this_k this_e1 this_du this_dv f_this_cubes f_this_state f_30 f_this_block) H := by rw [ef_30]; exact hP
      have hD : va_D A (kWX5_compress32 cB cI cL cBB cII cSh h_this a_this this_taped this_code this_kind this_rate this_filled this_total this_bitAt this_k this_e1 this_du this_dv f_this_cubes f_this_state f_30 f_this_block) := by rw [ef_30]; exact hD
      obtain ⟨x1_31, ex1_31⟩ : ∃ y : Int32, y = x1p60 + Int32.ofInt 1 := ⟨_, rfl⟩
      have h := kb_n_s ex1_31 h
      refine lv_iinc (v := x1_31) (lv' := [(1, .int x1_31), (3, .int x3_18), (2, .int x2_16), (0, .ref h_this)]) hx hb kdX5_compress32_152 hl (k := 3) rfl ex1_31.symm (by decide) rfl (fun ls hl => ?_)
      refine lv_goto (tgt := 60) hx hb kdX5_compress32_155 (by decide) ?_
      obtain rfl := Option.some.inj h
      exact ih x1_31 f_30 r ho _ _ _ hP hD hS (lv_sub hl [3, 0] rfl) hk0
set_option maxHeartbeats 4000000 in
set_option maxRecDepth 100000 in
theorem klX5_compress32_232 {p : Program} {l : Launch} {e : Env} {s : State} {m : MethodId} {args : Array Value} {below : List Frame} {meth : Method} {c : Code} {cells slots : Nat} {Q : State → Prop} {D : va_G} {cB cI cL cBB cII cSh : ClassId} {A : Nat → Prop} (C0 : CallFix p m c prog_8_method_34_code 12 s args kwA kRX5) (hlocks : meth.locks = false) (hK : va_K D kCl (kb_T cB cI cL cBB cII cSh) s) (hN : kb_N s) (hA : ∀ q, s.heap.size ≤ q → A q) (hcR : cells ≤ krX5_compress32.cells) (hsR : slots ≤ krX5_compress32.slots) (h_this : Nat) (a_this : Nat → Nat) (this_taped : Int32) (this_code : Int32) (this_kind : Int32) (this_rate : Int32) (this_filled : Int32) (this_total : Int64) (this_bitAt : Int32) (this_k : Int32) (this_e1 : Int32) (this_du : Int32) (this_dv : Int32) (f_this_cubes : Nat → Int64) (f_this_state : Nat → Int64) (f_this_wordsp60_33 : Nat → Int64) (f_this_block : Nat → Int32) :
    ∀ (fuel : Nat) (x1p232 : Int32) (x2p232 : Int32) (x3p232 : Int32) (x4p232 : Int32) (x5p232 : Int32) (x6p232 : Int32) (x7p232 : Int32) (x8p232 : Int32) (x9p232 : Int32) (r : Int32 × Int32 × Int32 × Int32 × Int32 × Int32 × Int32 × Int32 × Int32), kb_w (fun u : Int32 × Int32 × Int32 × Int32 × Int32 × Int32 × Int32 × Int32 × Int32 => kSX5_compress32_232 f_this_cubes f_this_wordsp60_33 u.1 u.2.1 u.2.2.1 u.2.2.2.1 u.2.2.2.2.1 u.2.2.2.2.2.1 u.2.2.2.2.2.2.1 u.2.2.2.2.2.2.2.1 u.2.2.2.2.2.2.2.2) fuel (x1p232, x2p232, x3p232, x4p232, x5p232, x6p232, x7p232, x8p232, x9p232) = some r → ∀ (H : Heap) (locs : List Loc) (ls : Array Slot), va_P D kCl (kWX5_compress32 cB cI cL cBB cII cSh h_this a_this this_taped this_code this_kind this_rate this_filled this_total this_bitAt this_k this_e1 this_du this_dv f_this_cubes f_this_state f_this_wordsp60_33 f_this_block) H → va_D A (kWX5_compress32 cB cI cL cBB cII cSh h_this a_this this_taped this_code this_kind this_rate this_filled this_total this_bitAt this_k this_e1 this_du this_dv f_this_cubes f_this_state f_this_wordsp60_33 f_this_block) → va_S A s.heap H locs → lv_has ls 12 [(0, .ref h_this), (1, .int x1p232), (2, .int x2p232), (3, .int x3p232), (4, .int x4p232), (5, .int x5p232), (6, .int x6p232), (7, .int x7p232), (8, .int x8p232), (9, .int x9p232)] → (∀ (x1p232' : Int32) (x2p232' : Int32) (x3p232' : Int32) (x4p232' : Int32) (x5p232' : Int32) (x6p232' : Int32) (x7p232' : Int32) (x8p232' : Int32) (x9p232' : Int32), r = (x1p232', x2p232', x3p232', x4p232', x5p232', x6p232', x7p232', x8p232', x9p232') → ∀ (H : Heap) (locs : List Loc) (ls : Array Slot), va_P D kCl (kWX5_compress32 cB cI cL cBB cII cSh h_this a_this this_taped this_code this_kind this_rate this_filled this_total this_bitAt this_k this_e1 this_du this_dv f_this_cubes f_this_state f_this_wordsp60_33 f_this_block) H → va_D A (kWX5_compress32 cB cI cL cBB cII cSh h_this a_this this_taped this_code this_kind this_rate this_filled this_total this_bitAt this_k this_e1 this_du this_dv f_this_cubes f_this_state f_this_wordsp60_33 f_this_block) → va_S A s.heap H locs → lv_has ls 12 [(0, .ref h_this), (1, .int x1p232'), (2, .int x2p232'), (3, .int x3p232'), (4, .int x4p232'), (5, .int x5p232'), (6, .int x6p232'), (7, .int x7p232'), (8, .int x8p232'), (9, .int x9p232')] → W p l e krX5_compress32 s m args below meth c H locs cells slots Q (F0 m 373 ls [])) → W p l e krX5_compress32 s m args below meth c H locs cells slots Q (F0 m 232 ls []) := by
  obtain ⟨hx, hb, hml, hown, hts⟩ := id C0
  intro fuel
  induction fuel with
  | zero =>
    intro x1p232 x2p232 x3p232 x4p232 x5p232 x6p232 x7p232 x8p232 x9p232 r h
    exact absurd h (kb_w_z _ _ _)
  | succ fuel ih =>
    intro x1p232 x2p232 x3p232 x4p232 x5p232 x6p232 x7p232 x8p232 x9p232 r h H locs ls hP hD hS hl hk0
    obtain ⟨o, h, ho⟩ := kb_w_s h
    have h : kSX5_compress32_232 f_this_cubes f_this_wordsp60_33 x1p232 x2p232 x3p232 x4p232 x5p232 x6p232 x7p232 x8p232 x9p232 = some o := h
    unfold kSX5_compress32_232 at h
    refine lv_iload hx hb kdX5_compress32_232 (lv_at hl 9 rfl) ?_
    refine lv_bipush (v := 64) hx hb kdX5_compress32_234 (by decide) ?_
    refine lv_icmp_ge (tgt := 373) hx hb kdX5_compress32_236 (by decide) (fun c_42 => ?_) (fun c_42 => ?_)
    · have h := kb_b_t c_42 h
      obtain rfl := Option.some.inj h
      exact hk0 x1p232 x2p232 x3p232 x4p232 x5p232 x6p232 x7p232 x8p232 x9p232 ho.symm _ _ _ hP hD hS (lv_sub hl [0, 1, 2, 3, 4, 5, 6, 7, 8, 9] rfl)
    · have h := kb_b_f c_42 h
      refine lv_iload hx hb kdX5_compress32_239 (lv_at hl 8 rfl) ?_
      refine lv_iload hx hb kdX5_compress32_241 (lv_at hl 5 rfl) ?_
      refine lv_bipush (v := 6) hx hb kdX5_compress32_243 (by decide) ?_
      obtain ⟨u_44, hu_44, h⟩ := kb_o_s h
      obtain ⟨r_43, rfl⟩ : ∃ z, z = u_44 := ⟨_, rfl⟩
      have hC := (show ([] : List Nat).map (fun i : Nat => (kWX5_compress32 cB cI cL cBB cII cSh h_this a_this this_taped this_code this_kind this_rate this_filled this_total this_bitAt this_k this_e1 this_du this_dv f_this_cubes f_this_state f_this_wordsp60_33 f_this_block)[i]?) = List.map some (kWX5_turn cB cI cL cBB cII cSh) from rfl)
      have hPc := kb_Psub hP ([] : List Nat) hC
      have hDc := kb_Dsub hD ([] : List Nat) hC (by simp [kb_nd])
      refine kb_call0 (va_runS (As := [.int x5p232, .int (6 : Int32)]) (rest := [.int x8p232]) C0 (kcX5_turn l D cB cI cL cBB cII cSh  _ x5p232 (6 : Int32) r_43 hu_44) (va_cwS 2 hts (kb_gS km_666 km_667 km_6 km_668) rfl rfl rfl (by decide +kernel) ⟨Nat.le_of_ble_eq_true rfl, Nat.le_of_ble_eq_true rfl⟩) ⟨kb_P_bl, (fun U hU hW => ⟨rfl, by rw [hU], by rw [hU]; exact hPc, va_K.moved hW.alike hK, kb_N_to hW hN, hDc.weaken (fun _ _ _ _ => trivial)⟩)⟩ rfl rfl hl.1 rfl (lv_room (Nat.le_of_ble_eq_true rfl)) kdX5_compress32_245 ⟨hcR, hsR⟩) hP hD hS hA ([] : List Nat) hC rfl (fun H locs hP hD hS => ?_)
      have hP : va_P D kCl (kWX5_compress32 cB cI cL cBB cII cSh h_this a_this this_taped this_code this_kind this_rate this_filled this_total this_bitAt this_k this_e1 this_du this_dv f_this_cubes f_this_state f_this_wordsp60_33 f_this_block) H := hP
      have hD : va_D A (kWX5_compress32 cB cI cL cBB cII cSh h_this a_this this_taped this_code this_kind this_rate this_filled this_total this_bitAt this_k this_e1 this_du this_dv f_this_cubes f_this_state f_this_wordsp60_33 f_this_block) := hD
      refine lv_iload hx hb kdX5_compress32_248 (lv_at hl 5 rfl) ?_
      refine lv_bipush (v := 11) hx hb kdX5_compress32_250 (by decide) ?_
      obtain ⟨u_46, hu_46, h⟩ := kb_o_s h
      obtain ⟨r_45, rfl⟩ : ∃ z, z = u_46 := ⟨_, rfl⟩
      have hC := (show ([] : List Nat).map (fun i : Nat => (kWX5_compress32 cB cI cL cBB cII cSh h_this a_this this_taped this_code this_kind this_rate this_filled this_total this_bitAt this_k this_e1 this_du this_dv f_this_cubes f_this_state f_this_wordsp60_33 f_this_block)[i]?) = List.map some (kWX5_turn cB cI cL cBB cII cSh) from rfl)
      have hPc := kb_Psub hP ([] : List Nat) hC
      have hDc := kb_Dsub hD ([] : List Nat) hC (by simp [kb_nd])
      refine kb_call0 (va_runS (As := [.int x5p232, .int (11 : Int32)]) (rest := [.int r_43, .int x8p232]) C0 (kcX5_turn l D cB cI cL cBB cII cSh  _ x5p232 (11 : Int32) r_45 hu_46) (va_cwS 2 hts (kb_gS km_666 km_667 km_6 km_668) rfl rfl rfl (by decide +kernel) ⟨Nat.le_of_ble_eq_true rfl, Nat.le_of_ble_eq_true rfl⟩) ⟨kb_P_bl, (fun U hU hW => ⟨rfl, by rw [hU], by rw [hU]; exact hPc, va_K.moved hW.alike hK, kb_N_to hW hN, hDc.weaken (fun _ _ _ _ => trivial)⟩)⟩ rfl rfl hl.1 rfl (lv_room (Nat.le_of_ble_eq_true rfl)) kdX5_compress32_252 ⟨hcR, hsR⟩) hP hD hS hA ([] : List Nat) hC rfl (fun H locs hP hD hS => ?_)
      have hP : va_P D kCl (kWX5_compress32 cB cI cL cBB cII cSh h_this a_this this_taped this_code this_kind this_rate this_filled this_total this_bitAt this_k this_e1 this_du this_dv f_this_cubes f_this_state f_this_wordsp60_33 f_this_block) H := hP
      have hD : va_D A (kWX5_compress32 cB cI cL cBB cII cSh h_this a_this this_taped this_code this_kind this_rate this_filled this_total this_bitAt this_k this_e1 this_du this_dv f_this_cubes f_this_state f_this_wordsp60_33 f_this_block) := hD
      refine lv_ixor hx hb kdX5_compress32_255 ?_
      refine lv_iload hx hb kdX5_compress32_256 (lv_at hl 5 rfl) ?_
      refine lv_bipush (v := 25) hx hb kdX5_compress32_258 (by decide) ?_
      obtain ⟨u_48, hu_48, h⟩ := kb_o_s h
      obtain ⟨r_47, rfl⟩ : ∃ z, z = u_48 := ⟨_, rfl⟩
      have hC := (show ([] : List Nat).map (fun i : Nat => (kWX5_compress32 cB cI cL cBB cII cSh h_this a_this this_taped this_code this_kind this_rate this_filled this_total this_bitAt this_k this_e1 this_du this_dv f_this_cubes f_this_state f_this_wordsp60_33 f_this_block)[i]?) = List.map some (kWX5_turn cB cI cL cBB cII cSh) from rfl)
      have hPc := kb_Psub hP ([] : List Nat) hC
      have hDc := kb_Dsub hD ([] : List Nat) hC (by simp [kb_nd])
      refine kb_call0 (va_runS (As := [.int x5p232, .int (25 : Int32)]) (rest := [.int (r_43 ^^^ r_45), .int x8p232]) C0 (kcX5_turn l D cB cI cL cBB cII cSh  _ x5p232 (25 : Int32) r_47 hu_48) (va_cwS 2 hts (kb_gS km_666 km_667 km_6 km_668) rfl rfl rfl (by decide +kernel) ⟨Nat.le_of_ble_eq_true rfl, Nat.le_of_ble_eq_true rfl⟩) ⟨kb_P_bl, (fun U hU hW => ⟨rfl, by rw [hU], by rw [hU]; exact hPc, va_K.moved hW.alike hK, kb_N_to hW hN, hDc.weaken (fun _ _ _ _ => trivial)⟩)⟩ rfl rfl hl.1 rfl (lv_room (Nat.le_of_ble_eq_true rfl)) kdX5_compress32_260 ⟨hcR, hsR⟩) hP hD hS hA ([] : List Nat) hC rfl (fun H locs hP hD hS => ?_)
      have hP : va_P D kCl (kWX5_compress32 cB cI cL cBB cII cSh h_this a_this this_taped this_code this_kind this_rate this_filled this_total this_bitAt this_k this_e1 this_du this_dv f_this_cubes f_this_state f_this_wordsp60_33 f_this_block) H := hP
      have hD : va_D A (kWX5_compress32 cB cI cL cBB cII cSh h_this a_this this_taped this_code this_kind this_rate this_filled this_total this_bitAt this_k this_e1 this_du this_dv f_this_cubes f_this_state f_this_wordsp60_33 f_this_block) := hD
      refine lv_ixor hx hb kdX5_compress32_263 ?_
      refine lv_iadd hx hb kdX5_compress32_264 ?_
      refine lv_iload hx hb kdX5_compress32_265 (lv_at hl 5 rfl) ?_
      refine lv_iload hx hb kdX5_compress32_267 (lv_at hl 6 rfl) ?_
      refine lv_iand hx hb kdX5_compress32_269 ?_
      refine lv_iload hx hb kdX5_compress32_270 (lv_at hl 5 rfl) ?_
      refine lv_iconst (v := -1) hx hb kdX5_compress32_272 (by decide) ?_
      refine lv_ixor hx hb kdX5_compress32_273 ?_
      refine lv_iload hx hb kdX5_compress32_274 (lv_at hl 7 rfl) ?_
      refine lv_iand hx hb kdX5_compress32_276 ?_
      refine lv_ixor hx hb kdX5_compress32_277 ?_
      refine lv_iadd hx hb kdX5_compress32_278 ?_
      refine lv_aload_n hx hb kdX5_compress32_279 rfl (lv_at hl 0 rfl) ?_
      refine va_get (ci := 5) (v := .ref (a_this 6)) (C := kRX5) (T := kTX5) (N := 35) hx hb hts kinX5 hown hK hP 0 rfl rfl 6 (by decide) (hts _ km_687) (fun _ h9 => h9) rfl kdX5_compress32_280 ?_
      refine lv_iload hx hb kdX5_compress32_283 (lv_at hl 9 rfl) ?_
      obtain ⟨g_49, h⟩ := kb_g_s h
      refine va_lald hx hb hK hP 1 2 rfl rfl (kb_in_v g_49) kdX5_compress32_285 ?_
      refine lv_bipush (v := 32) hx hb kdX5_compress32_286 (by decide) ?_
      refine lv_lushr (v := (((f_this_cubes x9p232.toNatClampNeg).toUInt64 >>> ((32 : Int32).toInt64.toUInt64 &&& Int64.toUInt64 63)).toInt64)) hx hb kdX5_compress32_288 rfl ?_
      refine lv_l2i (v := ((((f_this_cubes x9p232.toNatClampNeg).toUInt64 >>> ((32 : Int32).toInt64.toUInt64 &&& Int64.toUInt64 63)).toInt64).toInt32)) hx hb kdX5_compress32_289 rfl ?_
      refine lv_iadd hx hb kdX5_compress32_290 ?_
      refine lv_aload_n hx hb kdX5_compress32_291 rfl (lv_at hl 0 rfl) ?_
      refine va_get (ci := 5) (v := .ref (a_this 16)) (C := kRX5) (T := kTX5) (N := 35) hx hb hts kinX5 hown hK hP 0 rfl rfl 16 (by decide) (hts _ km_697) (fun _ h9 => h9) rfl kdX5_compress32_292 ?_
      refine lv_iload hx hb kdX5_compress32_295 (lv_at hl 9 rfl) ?_
      obtain ⟨g_50, h⟩ := kb_g_s h
      refine va_lald hx hb hK hP 3 2 rfl rfl (kb_in_v g_50) kdX5_compress32_297 ?_
      refine lv_l2i (v := ((f_this_wordsp60_33 x9p232.toNatClampNeg).toInt32)) hx hb kdX5_compress32_298 rfl ?_
      refine lv_iadd hx hb kdX5_compress32_299 ?_
      refine lv_topi (fun x10_51 ex10_51 => ?_)
      have h := kb_n_s ex10_51 h
      refine lv_istore (lv' := [(10, .int x10_51), (0, .ref h_this), (1, .int x1p232), (2, .int x2p232), (3, .int x3p232), (4, .int x4p232), (5, .int x5p232), (6, .int x6p232), (7, .int x7p232), (8, .int x8p232), (9, .int x9p232)]) hx hb kdX5_compress32_300 hl (by decide) rfl (fun ls hl => ?_)
      refine lv_iload_n hx hb kdX5_compress32_302 rfl (lv_at hl 2 rfl) ?_
      refine lv_iconst (v := 2) hx hb kdX5_compress32_303 (by decide) ?_
      obtain ⟨u_53, hu_53, h⟩ := kb_o_s h
      obtain ⟨r_52, rfl⟩ : ∃ z, z = u_53 := ⟨_, rfl⟩
      have hC := (show ([] : List Nat).map (fun i : Nat => (kWX5_compress32 cB cI cL cBB cII cSh h_this a_this this_taped this_code this_kind this_rate this_filled this_total this_bitAt this_k this_e1 this_du this_dv f_this_cubes f_this_state f_this_wordsp60_33 f_this_block)[i]?) = List.map some (kWX5_turn cB cI cL cBB cII cSh) from rfl)
      have hPc := kb_Psub hP ([] : List Nat) hC
      have hDc := kb_Dsub hD ([] : List Nat) hC (by simp [kb_nd])
      refine kb_call0 (va_runS (As := [.int x1p232, .int (2 : Int32)]) (rest := []) C0 (kcX5_turn l D cB cI cL cBB cII cSh  _ x1p232 (2 : Int32) r_52 hu_53) (va_cwS 2 hts (kb_gS km_666 km_667 km_6 km_668) rfl rfl rfl (by decide +kernel) ⟨Nat.le_of_ble_eq_true rfl, Nat.le_of_ble_eq_true rfl⟩) ⟨kb_P_bl, (fun U hU hW => ⟨rfl, by rw [hU], by rw [hU]; exact hPc, va_K.moved hW.alike hK, kb_N_to hW hN, hDc.weaken (fun _ _ _ _ => trivial)⟩)⟩ rfl rfl hl.1 rfl (lv_room (Nat.le_of_ble_eq_true rfl)) kdX5_compress32_304 ⟨hcR, hsR⟩) hP hD hS hA ([] : List Nat) hC rfl (fun H locs hP hD hS => ?_)
      have hP : va_P D kCl (kWX5_compress32 cB cI cL cBB cII cSh h_this a_this this_taped this_code this_kind this_rate this_filled this_total this_bitAt this_k this_e1 this_du this_dv f_this_cubes f_this_state f_this_wordsp60_33 f_this_block) H := hP
      have hD : va_D A (kWX5_compress32 cB cI cL cBB cII cSh h_this a_this this_taped this_code this_kind this_rate this_filled this_total this_bitAt this_k this_e1 this_du this_dv f_this_cubes f_this_state f_this_wordsp60_33 f_this_block) := hD
      refine lv_iload_n hx hb kdX5_compress32_307 rfl (lv_at hl 2 rfl) ?_
      refine lv_bipush (v := 13) hx hb kdX5_compress32_308 (by decide) ?_
      obtain ⟨u_55, hu_55, h⟩ := kb_o_s h
      obtain ⟨r_54, rfl⟩ : ∃ z, z = u_55 := ⟨_, rfl⟩
      have hC := (show ([] : List Nat).map (fun i : Nat => (kWX5_compress32 cB cI cL cBB cII cSh h_this a_this this_taped this_code this_kind this_rate this_filled this_total this_bitAt this_k this_e1 this_du this_dv f_this_cubes f_this_state f_this_wordsp60_33 f_this_block)[i]?) = List.map some (kWX5_turn cB cI cL cBB cII cSh) from rfl)
      have hPc := kb_Psub hP ([] : List Nat) hC
      have hDc := kb_Dsub hD ([] : List Nat) hC (by simp [kb_nd])
      refine kb_call0 (va_runS (As := [.int x1p232, .int (13 : Int32)]) (rest := [.int r_52]) C0 (kcX5_turn l D cB cI cL cBB cII cSh  _ x1p232 (13 : Int32) r_54 hu_55) (va_cwS 2 hts (kb_gS km_666 km_667 km_6 km_668) rfl rfl rfl (by decide +kernel) ⟨Nat.le_of_ble_eq_true rfl, Nat.le_of_ble_eq_true rfl⟩) ⟨kb_P_bl, (fun U hU hW => ⟨rfl, by rw [hU], by rw [hU]; exact hPc, va_K.moved hW.alike hK, kb_N_to hW hN, hDc.weaken (fun _ _ _ _ => trivial)⟩)⟩ rfl rfl hl.1 rfl (lv_room (Nat.le_of_ble_eq_true rfl)) kdX5_compress32_310 ⟨hcR, hsR⟩) hP hD hS hA ([] : List Nat) hC rfl (fun H locs hP hD hS => ?_)
      have hP : va_P D kCl (kWX5_compress32 cB cI cL cBB cII cSh h_this a_this this_taped this_code this_kind this_rate this_filled this_total this_bitAt this_k this_e1 this_du this_dv f_this_cubes f_this_state f_this_wordsp60_33 f_this_block) H := hP
      have hD : va_D A (kWX5_compress32 cB cI cL cBB cII cSh h_this a_this this_taped this_code this_kind this_rate this_filled this_total this_bitAt this_k this_e1 this_du this_dv f_this_cubes f_this_state f_this_wordsp60_33 f_this_block) := hD
      refine lv_ixor hx hb kdX5_compress32_313 ?_
      refine lv_iload_n hx hb kdX5_compress32_314 rfl (lv_at hl 2 rfl) ?_
      refine lv_bipush (v := 22) hx hb kdX5_compress32_315 (by decide) ?_
      obtain ⟨u_57, hu_57, h⟩ := kb_o_s h
      obtain ⟨r_56, rfl⟩ : ∃ z, z = u_57 := ⟨_, rfl⟩
      have hC := (show ([] : List Nat).map (fun i : Nat => (kWX5_compress32 cB cI cL cBB cII cSh h_this a_this this_taped this_code this_kind this_rate this_filled this_total this_bitAt this_k this_e1 this_du this_dv f_this_cubes f_this_state f_this_wordsp60_33 f_this_block)[i]?) = List.map some (kWX5_turn cB cI cL cBB cII cSh) from rfl)
      have hPc := kb_Psub hP ([] : List Nat) hC
      have hDc := kb_Dsub hD ([] : List Nat) hC (by simp [kb_nd])
      refine kb_call0 (va_runS (As := [.int x1p232, .int (22 : Int32)]) (rest := [.int (r_52 ^^^ r_54)]) C0 (kcX5_turn l D cB cI cL cBB cII cSh  _ x1p232 (22 : Int32) r_56 hu_57) (va_cwS 2 hts (kb_gS km_666 km_667 km_6 km_668) rfl rfl rfl (by decide +kernel) ⟨Nat.le_of_ble_eq_true rfl, Nat.le_of_ble_eq_true rfl⟩) ⟨kb_P_bl, (fun U hU hW => ⟨rfl, by rw [hU], by rw [hU]; exact hPc, va_K.moved hW.alike hK, kb_N_to hW hN, hDc.weaken (fun _ _ _ _ => trivial)⟩)⟩ rfl rfl hl.1 rfl (lv_room (Nat.le_of_ble_eq_true rfl)) kdX5_compress32_317 ⟨hcR, hsR⟩) hP hD hS hA ([] : List Nat) hC rfl (fun H locs hP hD hS => ?_)
      have hP : va_P D kCl (kWX5_compress32 cB cI cL cBB cII cSh h_this a_this this_taped this_code this_kind this_rate this_filled this_total this_bitAt this_k this_e1 this_du this_dv f_this_cubes f_this_state f_this_wordsp60_33 f_this_block) H := hP
      have hD : va_D A (kWX5_compress32 cB cI cL cBB cII cSh h_this a_this this_taped this_code this_kind this_rate this_filled this_total this_bitAt this_k this_e1 this_du this_dv f_this_cubes f_this_state f_this_wordsp60_33 f_this_block) := hD
      refine lv_ixor hx hb kdX5_compress32_320 ?_
      refine lv_iload_n hx hb kdX5_compress32_321 rfl (lv_at hl 2 rfl) ?_
      refine lv_iload_n hx hb kdX5_compress32_322 rfl (lv_at hl 3 rfl) ?_
      refine lv_iand hx hb kdX5_compress32_323 ?_
      refine lv_iload_n hx hb kdX5_compress32_324 rfl (lv_at hl 2 rfl) ?_
      refine lv_iload_n hx hb kdX5_compress32_325 rfl (lv_at hl 4 rfl) ?_
      refine lv_iand hx hb kdX5_compress32_326 ?_
      refine lv_ixor hx hb kdX5_compress32_327 ?_
      refine lv_iload_n hx hb kdX5_compress32_328 rfl (lv_at hl 3 rfl) ?_
      refine lv_iload_n hx hb kdX5_compress32_329 rfl (lv_at hl 4 rfl) ?_
      refine lv_iand hx hb kdX5_compress32_330 ?_
      refine lv_ixor hx hb kdX5_compress32_331 ?_
      refine lv_iadd hx hb kdX5_compress32_332 ?_
      refine lv_topi (fun x11_58 ex11_58 => ?_)
      have h := kb_n_s ex11_58 h
      refine lv_istore (lv' := [(11, .int x11_58), (10, .int x10_51), (0, .ref h_this), (1, .int x1p232), (2, .int x2p232), (3, .int x3p232), (4, .int x4p232), (5, .int x5p232), (6, .int x6p232), (7, .int x7p232), (8, .int x8p232), (9, .int x9p232)]) hx hb kdX5_compress32_333 hl (by decide) rfl (fun ls hl => ?_)
      refine lv_iload hx hb kdX5_compress32_335 (lv_at hl 9 rfl) ?_
      refine lv_istore (lv' := [(8, .int x7p232), (11, .int x11_58), (10, .int x10_51), (0, .ref h_this), (1, .int x1p232), (2, .int x2p232), (3, .int x3p232), (4, .int x4p232), (5, .int x5p232), (6, .int x6p232), (7, .int x7p232), (9, .int x9p232)]) hx hb kdX5_compress32_337 hl (by decide) rfl (fun ls hl => ?_)
      refine lv_iload hx hb kdX5_compress32_339 (lv_at hl 9 rfl) ?_
      refine lv_istore (lv' := [(7, .int x6p232), (8, .int x7p232), (11, .int x11_58), (10, .int x10_51), (0, .ref h_this), (1, .int x1p232), (2, .int x2p232), (3, .int x3p232), (4, .int x4p232), (5, .int x5p232), (6, .int x6p232), (9, .int x9p232)]) hx hb kdX5_compress32_341 hl (by decide) rfl (fun ls hl => ?_)
      refine lv_iload hx hb kdX5_compress32_343 (lv_at hl 9 rfl) ?_
      refine lv_istore (lv' := [(6, .int x5p232), (7, .int x6p232), (8, .int x7p232), (11, .int x11_58), (10, .int x10_51), (0, .ref h_this), (1, .int x1p232), (2, .int x2p232), (3, .int x3p232), (4, .int x4p232), (5, .int x5p232), (9, .int x9p232)]) hx hb kdX5_compress32_345 hl (by decide) rfl (fun ls hl => ?_)
      refine lv_iload hx hb kdX5_compress32_347 (lv_at hl 9 rfl) ?_
      refine lv_iload hx hb kdX5_compress32_349 (lv_at hl 4 rfl) ?_
      refine lv_iadd hx hb kdX5_compress32_351 ?_
      refine lv_topi (fun x5_59 ex5_59 => ?_)
      have h := kb_n_s ex5_59 h
      refine lv_istore (lv' := [(5, .int x5_59), (6, .int x5p232), (7, .int x6p232), (8, .int x7p232), (11, .int x11_58), (10, .int x10_51), (0, .ref h_this), (1, .int x1p232), (2, .int x2p232), (3, .int x3p232), (4, .int x4p232), (9, .int x9p232)]) hx hb kdX5_compress32_352 hl (by decide) rfl (fun ls hl => ?_)
      refine lv_iload_n hx hb kdX5_compress32_354 rfl (lv_at hl 9 rfl) ?_
      refine lv_istore (lv' := [(4, .int x3p232), (5, .int x5_59), (6, .int x5p232), (7, .int x6p232), (8, .int x7p232), (11, .int x11_58), (10, .int x10_51), (0, .ref h_this), (1, .int x1p232), (2, .int x2p232), (3, .int x3p232), (9, .int x9p232)]) hx hb kdX5_compress32_355 hl (by decide) rfl (fun ls hl => ?_)
      refine lv_iload_n hx hb kdX5_compress32_357 rfl (lv_at hl 9 rfl) ?_
      refine lv_istore_n (lv' := [(3, .int x2p232), (4, .int x3p232), (5, .int x5_59), (6, .int x5p232), (7, .int x6p232), (8, .int x7p232), (11, .int x11_58), (10, .int x10_51), (0, .ref h_this), (1, .int x1p232), (2, .int x2p232), (9, .int x9p232)]) hx hb kdX5_compress32_358 rfl hl (by decide) rfl (fun ls hl => ?_)
      refine lv_iload_n hx hb kdX5_compress32_359 rfl (lv_at hl 9 rfl) ?_
      refine lv_istore_n (lv' := [(2, .int x1p232), (3, .int x2p232), (4, .int x3p232), (5, .int x5_59), (6, .int x5p232), (7, .int x6p232), (8, .int x7p232), (11, .int x11_58), (10, .int x10_51), (0, .ref h_this), (1, .int x1p232), (9, .int x9p232)]) hx hb kdX5_compress32_360 rfl hl (by decide) rfl (fun ls hl => ?_)
      refine lv_iload hx hb kdX5_compress32_361 (lv_at hl 8 rfl) ?_
      refine lv_iload hx hb kdX5_compress32_363 (lv_at hl 7 rfl) ?_
      refine lv_iadd hx hb kdX5_compress32_365 ?_
      refine lv_topi (fun x1_60 ex1_60 => ?_)
      have h := kb_n_s ex1_60 h
      refine lv_istore_n (lv' := [(1, .int x1_60), (2, .int x1p232), (3, .int x2p232), (4, .int x3p232), (5, .int x5_59), (6, .int x5p232), (7, .int x6p232), (8, .int x7p232), (11, .int x11_58), (10, .int x10_51), (0, .ref h_this), (9, .int x9p232)]) hx hb kdX5_compress32_366 rfl hl (by decide) rfl (fun ls hl => ?_)
      obtain ⟨x9_61, ex9_61⟩ : ∃ y : Int32, y = x9p232 + Int32.ofInt 1 := ⟨_, rfl⟩
      have h := kb_n_s ex9_61 h
      refine lv_iinc (v := x9_61) (lv' := [(9, .int x9_61), (1, .int x1_60), (2, .int x1p232), (3, .int x2p232), (4, .int x3p232), (5, .int x5_59), (6, .int x5p232), (7, .int x6p232), (8, .int x7p232), (11, .int x11_58), (10, .int x10_51), (0, .ref h_this)]) hx hb kdX5_compress32_367 hl (k := 11) rfl ex9_61.symm (by decide) rfl (fun ls hl => ?_)
      refine lv_goto (tgt := 232) hx hb kdX5_compress32_370 (by decide) ?_
      obtain rfl := Option.some.inj h
      exact ih x1_60 x1p232 x2p232 x3p232 x5_59 x5p232 x6p232 x7p232 x9_61 r ho _ _ _ hP hD hS (lv_sub hl [11, 1, 2, 3, 4, 5, 6, 7, 8, 0] rfl) hk0
set_option maxHeartbeats 4000000 in
set_option maxRecDepth 100000 in
theorem kcX5_compress32 (l : Launch) (D : va_G) (cB cI cL cBB cII cSh : ClassId) (h_this : Nat) (a_this : Nat → Nat) (sz : Nat) (this_taped : Int32) (this_code : Int32) (this_kind : Int32) (this_rate : Int32) (this_filled : Int32) (this_total : Int64) (this_bitAt : Int32) (this_k : Int32) (this_e1 : Int32) (this_du : Int32) (this_dv : Int32) (f_this_cubes : Nat → Int64) (f_this_state : Nat → Int64) (f_this_words : Nat → Int64) (f_this_block : Nat → Int32) (out : (Nat → Int64) × (Nat → Int64)) (h : kFX5_compress32 f_this_cubes f_this_state f_this_words f_this_block = some out) : Met l kyX5_compress32 kwX5_compress32 krX5_compress32 (kb_P D kCl (kb_T cB cI cL cBB cII cSh) [.ref h_this] (kWX5_compress32 cB cI cL cBB cII cSh h_this a_this this_taped this_code this_kind this_rate this_filled this_total this_bitAt this_k this_e1 this_du this_dv f_this_cubes f_this_state f_this_words f_this_block) sz) (kb_Q D kCl (kb_T cB cI cL cBB cII cSh) (va_A (kWX5_compress32 cB cI cL cBB cII cSh h_this a_this this_taped this_code this_kind this_rate this_filled this_total this_bitAt this_k this_e1 this_du this_dv f_this_cubes f_this_state f_this_words f_this_block) sz) none (kWX5_compress32 cB cI cL cBB cII cSh h_this a_this this_taped this_code this_kind this_rate this_filled this_total this_bitAt this_k this_e1 this_du this_dv f_this_cubes out.1 out.2 f_this_block)) 0 0 (va_A (kWX5_compress32 cB cI cL cBB cII cSh h_this a_this this_taped this_code this_kind this_rate this_filled this_total this_bitAt this_k this_e1 this_du this_dv f_this_cubes f_this_state f_this_words f_this_block) sz) := by
  refine Met.ofW (cc := prog_8_method_34_code) (maxL := 12) (ret := none) (by decide) rfl ?_
  intro p e s m args below meth c s₁ B hml hv
  obtain ⟨rfl, hsz, hP, hK, hN, hD0⟩ := hv
  have hx := B.exec
  have hb := B.bytes
  have hr := B.returns
  have hts0 := atoms_spec (ws := kwX5_compress32) B.pre
  have hts : ∀ w ∈ kwA, w.before _ s = true := fun w h => hts0 w (List.mem_cons_of_mem _ h)
  have hown : s.vm.findClass kRX5 = some m.cls := findClass_of_methodNamed B.named
  have hlocks := B.notSynchronized
  subst hsz
  have hD := hD0.self (sz := s.heap.size)
  generalize hAe : va_A (kWX5_compress32 cB cI cL cBB cII cSh h_this a_this this_taped this_code this_kind this_rate this_filled this_total this_bitAt this_k this_e1 this_du this_dv f_this_cubes f_this_state f_this_words f_this_block) s.heap.size = A at hD ⊢
  have hA : ∀ q : Nat, s.heap.size ≤ q → A q := fun q h => by rw [← hAe]; exact Or.inr h
  have hS : va_S A s.heap s.heap [] := va_S.rf
  have C0 : CallFix p m c prog_8_method_34_code 12 s _ kwA kRX5 := ⟨hx, hb, hml, hown, hts⟩
  have hl := lv_entry ([.ref h_this]) (n := 12) (Nat.le_of_ble_eq_true rfl)
  rw [lg_entry_eq]
  generalize (lg_sl ([.ref h_this]) ++ List.replicate (12 - (lg_sl ([.ref h_this])).length) Slot.unset).toArray = ls at hl ⊢
  have hl : lv_has ls 12 [(0, .ref h_this)] := hl
  unfold kFX5_compress32 at h
  refine lv_iconst (v := 0) hx hb kdX5_compress32_0 (by decide) ?_
  refine lv_istore_n (lv' := [(1, .int (0 : Int32)), (0, .ref h_this)]) hx hb kdX5_compress32_1 rfl hl (by decide) rfl (fun ls hl => ?_)
  obtain ⟨r_81, hr_81, h⟩ := kb_o_s h
  refine klX5_compress32_2 C0 hlocks hK hN hA (by decide) (by decide) h_this a_this this_taped this_code this_kind this_rate this_filled this_total this_bitAt this_k this_e1 this_du this_dv f_this_cubes f_this_state f_this_block 100000 (0 : Int32) f_this_words r_81 hr_81 _ _ _ hP hD hS (lv_sub hl [1, 0] rfl) (fun x1p2_12 f_this_wordsp2_13 er_81 H locs ls hP hD hS hl => ?_)
  subst er_81
  refine lv_bipush (v := 16) hx hb kdX5_compress32_57 (by decide) ?_
  refine lv_istore_n (lv' := [(1, .int (16 : Int32)), (0, .ref h_this)]) hx hb kdX5_compress32_59 rfl hl (by decide) rfl (fun ls hl => ?_)
  obtain ⟨r_80, hr_80, h⟩ := kb_o_s h
  refine klX5_compress32_60 C0 hlocks hK hN hA (by decide) (by decide) h_this a_this this_taped this_code this_kind this_rate this_filled this_total this_bitAt this_k this_e1 this_du this_dv f_this_cubes f_this_state f_this_block 100000 (16 : Int32) f_this_wordsp2_13 r_80 hr_80 _ _ _ hP hD hS (lv_sub hl [1, 0] rfl) (fun x1p60_32 f_this_wordsp60_33 er_80 H locs ls hP hD hS hl => ?_)
  subst er_80
  refine lv_aload_n hx hb kdX5_compress32_158 rfl (lv_at hl 0 rfl) ?_
  refine va_get (ci := 5) (v := .ref (a_this 13)) (C := kRX5) (T := kTX5) (N := 35) hx hb hts kinX5 hown hK hP 0 rfl rfl 13 (by decide) (hts _ km_694) (fun _ h9 => h9) rfl kdX5_compress32_159 ?_
  refine lv_iconst (v := 0) hx hb kdX5_compress32_162 (by decide) ?_
  refine va_lald hx hb hK hP 2 2 rfl rfl (kb_in_v (by decide)) kdX5_compress32_163 ?_
  refine lv_l2i (v := ((f_this_state (0 : Int32).toNatClampNeg).toInt32)) hx hb kdX5_compress32_164 rfl ?_
  refine lv_topi (fun x1_34 ex1_34 => ?_)
  have h := kb_n_s ex1_34 h
  refine lv_istore_n (lv' := [(1, .int x1_34), (0, .ref h_this)]) hx hb kdX5_compress32_165 rfl hl (by decide) rfl (fun ls hl => ?_)
  refine lv_aload_n hx hb kdX5_compress32_166 rfl (lv_at hl 1 rfl) ?_
  refine va_get (ci := 5) (v := .ref (a_this 13)) (C := kRX5) (T := kTX5) (N := 35) hx hb hts kinX5 hown hK hP 0 rfl rfl 13 (by decide) (hts _ km_694) (fun _ h9 => h9) rfl kdX5_compress32_167 ?_
  refine lv_iconst (v := 1) hx hb kdX5_compress32_170 (by decide) ?_
  refine va_lald hx hb hK hP 2 2 rfl rfl (kb_in_v (by decide)) kdX5_compress32_171 ?_
  refine lv_l2i (v := ((f_this_state (1 : Int32).toNatClampNeg).toInt32)) hx hb kdX5_compress32_172 rfl ?_
  refine lv_topi (fun x2_35 ex2_35 => ?_)
  have h := kb_n_s ex2_35 h
  refine lv_istore_n (lv' := [(2, .int x2_35), (1, .int x1_34), (0, .ref h_this)]) hx hb kdX5_compress32_173 rfl hl (by decide) rfl (fun ls hl => ?_)
  refine lv_aload_n hx hb kdX5_compress32_174 rfl (lv_at hl 2 rfl) ?_
  refine va_get (ci := 5) (v := .ref (a_this 13)) (C := kRX5) (T := kTX5) (N := 35) hx hb hts kinX5 hown hK hP 0 rfl rfl 13 (by decide) (hts _ km_694) (fun _ h9 => h9) rfl kdX5_compress32_175 ?_
  refine lv_iconst (v := 2) hx hb kdX5_compress32_178 (by decide) ?_
  refine va_lald hx hb hK hP 2 2 rfl rfl (kb_in_v (by decide)) kdX5_compress32_179 ?_
  refine lv_l2i (v := ((f_this_state (2 : Int32).toNatClampNeg).toInt32)) hx hb kdX5_compress32_180 rfl ?_
  refine lv_topi (fun x3_36 ex3_36 => ?_)
  have h := kb_n_s ex3_36 h
  refine lv_istore_n (lv' := [(3, .int x3_36), (2, .int x2_35), (1, .int x1_34), (0, .ref h_this)]) hx hb kdX5_compress32_181 rfl hl (by decide) rfl (fun ls hl => ?_)
  refine lv_aload_n hx hb kdX5_compress32_182 rfl (lv_at hl 3 rfl) ?_
  refine va_get (ci := 5) (v := .ref (a_this 13)) (C := kRX5) (T := kTX5) (N := 35) hx hb hts kinX5 hown hK hP 0 rfl rfl 13 (by decide) (hts _ km_694) (fun _ h9 => h9) rfl kdX5_compress32_183 ?_
  refine lv_iconst (v := 3) hx hb kdX5_compress32_186 (by decide) ?_
  refine va_lald hx hb hK hP 2 2 rfl rfl (kb_in_v (by decide)) kdX5_compress32_187 ?_
  refine lv_l2i (v := ((f_this_state (3 : Int32).toNatClampNeg).toInt32)) hx hb kdX5_compress32_188 rfl ?_
  refine lv_topi (fun x4_37 ex4_37 => ?_)
  have h := kb_n_s ex4_37 h
  refine lv_istore (lv' := [(4, .int x4_37), (3, .int x3_36), (2, .int x2_35), (1, .int x1_34), (0, .ref h_this)]) hx hb kdX5_compress32_189 hl (by decide) rfl (fun ls hl => ?_)
  refine lv_aload_n hx hb kdX5_compress32_191 rfl (lv_at hl 4 rfl) ?_
  refine va_get (ci := 5) (v := .ref (a_this 13)) (C := kRX5) (T := kTX5) (N := 35) hx hb hts kinX5 hown hK hP 0 rfl rfl 13 (by decide) (hts _ km_694) (fun _ h9 => h9) rfl kdX5_compress32_192 ?_
  refine lv_iconst (v := 4) hx hb kdX5_compress32_195 (by decide) ?_
  refine va_lald hx hb hK hP 2 2 rfl rfl (kb_in_v (by decide)) kdX5_compress32_196 ?_
  refine lv_l2i (v := ((f_this_state (4 : Int32).toNatClampNeg).toInt32)) hx hb kdX5_compress32_197 rfl ?_
  refine lv_topi (fun x5_38 ex5_38 => ?_)
  have h := kb_n_s ex5_38 h
  refine lv_istore (lv' := [(5, .int x5_38), (4, .int x4_37), (3, .int x3_36), (2, .int x2_35), (1, .int x1_34), (0, .ref h_this)]) hx hb kdX5_compress32_198 hl (by decide) rfl (fun ls hl => ?_)
  refine lv_aload_n hx hb kdX5_compress32_200 rfl (lv_at hl 5 rfl) ?_
  refine va_get (ci := 5) (v := .ref (a_this 13)) (C := kRX5) (T := kTX5) (N := 35) hx hb hts kinX5 hown hK hP 0 rfl rfl 13 (by decide) (hts _ km_694) (fun _ h9 => h9) rfl kdX5_compress32_201 ?_
  refine lv_iconst (v := 5) hx hb kdX5_compress32_204 (by decide) ?_
  refine va_lald hx hb hK hP 2 2 rfl rfl (kb_in_v (by decide)) kdX5_compress32_205 ?_
  refine lv_l2i (v := ((f_this_state (5 : Int32).toNatClampNeg).toInt32)) hx hb kdX5_compress32_206 rfl ?_
  refine lv_topi (fun x6_39 ex6_39 => ?_)
  have h := kb_n_s ex6_39 h
  refine lv_istore (lv' := [(6, .int x6_39), (5, .int x5_38), (4, .int x4_37), (3, .int x3_36), (2, .int x2_35), (1, .int x1_34), (0, .ref h_this)]) hx hb kdX5_compress32_207 hl (by decide) rfl (fun ls hl => ?_)
  refine lv_aload_n hx hb kdX5_compress32_209 rfl (lv_at hl 6 rfl) ?_
  refine va_get (ci := 5) (v := .ref (a_this 13)) (C := kRX5) (T := kTX5) (N := 35) hx hb hts kinX5 hown hK hP 0 rfl rfl 13 (by decide) (hts _ km_694) (fun _ h9 => h9) rfl kdX5_compress32_210 ?_
  refine lv_bipush (v := 6) hx hb kdX5_compress32_213 (by decide) ?_
  refine va_lald hx hb hK hP 2 2 rfl rfl (kb_in_v (by decide)) kdX5_compress32_215 ?_
  refine lv_l2i (v := ((f_this_state (6 : Int32).toNatClampNeg).toInt32)) hx hb kdX5_compress32_216 rfl ?_
  refine lv_topi (fun x7_40 ex7_40 => ?_)
  have h := kb_n_s ex7_40 h
  refine lv_istore (lv' := [(7, .int x7_40), (6, .int x6_39), (5, .int x5_38), (4, .int x4_37), (3, .int x3_36), (2, .int x2_35), (1, .int x1_34), (0, .ref h_this)]) hx hb kdX5_compress32_217 hl (by decide) rfl (fun ls hl => ?_)
  refine lv_aload_n hx hb kdX5_compress32_219 rfl (lv_at hl 7 rfl) ?_
  refine va_get (ci := 5) (v := .ref (a_this 13)) (C := kRX5) (T := kTX5) (N := 35) hx hb hts kinX5 hown hK hP 0 rfl rfl 13 (by decide) (hts _ km_694) (fun _ h9 => h9) rfl kdX5_compress32_220 ?_
  refine lv_bipush (v := 7) hx hb kdX5_compress32_223 (by decide) ?_
  refine va_lald hx hb hK hP 2 2 rfl rfl (kb_in_v (by decide)) kdX5_compress32_225 ?_
  refine lv_l2i (v := ((f_this_state (7 : Int32).toNatClampNeg).toInt32)) hx hb kdX5_compress32_226 rfl ?_
  refine lv_topi (fun x8_41 ex8_41 => ?_)
  have h := kb_n_s ex8_41 h
  refine lv_istore (lv' := [(8, .int x8_41), (7, .int x7_40), (6, .int x6_39), (5, .int x5_38), (4, .int x4_37), (3, .int x3_36), (2, .int x2_35), (1, .int x1_34), (0, .ref h_this)]) hx hb kdX5_compress32_227 hl (by decide) rfl (fun ls hl => ?_)
  refine lv_iconst (v := 0) hx hb kdX5_compress32_229 (by decide) ?_
  refine lv_istore (lv' := [(9, .int (0 : Int32)), (8, .int x8_41), (7, .int x7_40), (6, .int x6_39), (5, .int x5_38), (4, .int x4_37), (3, .int x3_36), (2, .int x2_35), (1, .int x1_34), (0, .ref h_this)]) hx hb kdX5_compress32_230 hl (by decide) rfl (fun ls hl => ?_)
  obtain ⟨r_79, hr_79, h⟩ := kb_o_s h
  refine klX5_compress32_232 C0 hlocks hK hN hA (by decide) (by decide) h_this a_this this_taped this_code this_kind this_rate this_filled this_total this_bitAt this_k this_e1 this_du this_dv f_this_cubes f_this_state f_this_wordsp60_33 f_this_block 100000 x1_34 x2_35 x3_36 x4_37 x5_38 x6_39 x7_40 x8_41 (0 : Int32) r_79 hr_79 _ _ _ hP hD hS (lv_sub hl [9, 8, 7, 6, 5, 4, 3, 2, 1, 0] rfl) (fun x1p232_62 x2p232_63 x3p232_64 x4p232_65 x5p232_66 x6p232_67 x7p232_68 x8p232_69 x9p232_70 er_79 H locs ls hP hD hS hl => ?_)
  subst er_79
  refine lv_aload_n hx hb kdX5_compress32_373 rfl (lv_at hl 0 rfl) ?_
  refine va_get (ci := 5) (v := .ref (a_this 13)) (C := kRX5) (T := kTX5) (N := 35) hx hb hts kinX5 hown hK hP 0 rfl rfl 13 (by decide) (hts _ km_694) (fun _ h9 => h9) rfl kdX5_compress32_374 ?_
  refine lv_iconst (v := 0) hx hb kdX5_compress32_377 (by decide) ?_
  refine lv_dup2_11 hx hb kdX5_compress32_378 rfl rfl ?_
  refine va_lald hx hb hK hP 2 2 rfl rfl (kb_in_v (by decide)) kdX5_compress32_379 ?_
  refine lv_iload_n hx hb kdX5_compress32_380 rfl (lv_at hl 1 rfl) ?_
  refine lv_i2l (v := (x1p232_62.toInt64)) hx hb kdX5_compress32_381 rfl ?_
  refine lv_ladd hx hb kdX5_compress32_382 ?_
  refine va_last hx hb hK hP hD hS 2 2 rfl rfl (kb_in_v (by decide)) kdX5_compress32_383 (fun H locs hP hD hS => ?_)
  obtain ⟨f_71, ef_71⟩ : ∃ y, y = vp_updL f_this_state (0 : Int32).toNatClampNeg ((f_this_state (0 : Int32).toNatClampNeg) + (x1p232_62.toInt64)) := ⟨_, rfl⟩
  have h := kb_n_s ef_71 h
  have hP : va_P D kCl (kWX5_compress32 cB cI cL cBB cII cSh h_this a_this this_taped this_code this_kind this_rate this_filled this_total this_bitAt this_k this_e1 this_du this_dv f_this_cubes f_71 f_this_wordsp60_33 f_this_block) H := by rw [ef_71]; exact hP
  have hD : va_D A (kWX5_compress32 cB cI cL cBB cII cSh h_this a_this this_taped this_code this_kind this_rate this_filled this_total this_bitAt this_k this_e1 this_du this_dv f_this_cubes f_71 f_this_wordsp60_33 f_this_block) := by rw [ef_71]; exact hD
  refine lv_aload_n hx hb kdX5_compress32_384 rfl (lv_at hl 0 rfl) ?_
  refine va_get (ci := 5) (v := .ref (a_this 13)) (C := kRX5) (T := kTX5) (N := 35) hx hb hts kinX5 hown hK hP 0 rfl rfl 13 (by decide) (hts _ km_694) (fun _ h9 => h9) rfl kdX5_compress32_385 ?_
  refine lv_iconst (v := 1) hx hb kdX5_compress32_388 (by decide) ?_
  refine lv_dup2_11 hx hb kdX5_compress32_389 rfl rfl ?_
  refine va_lald hx hb hK hP 2 2 rfl rfl (kb_in_v (by decide)) kdX5_compress32_390 ?_
  refine lv_iload_n hx hb kdX5_compress32_391 rfl (lv_at hl 2 rfl) ?_
  refine lv_i2l (v := (x2p232_63.toInt64)) hx hb kdX5_compress32_392 rfl ?_
  refine lv_ladd hx hb kdX5_compress32_393 ?_
  refine va_last hx hb hK hP hD hS 2 2 rfl rfl (kb_in_v (by decide)) kdX5_compress32_394 (fun H locs hP hD hS => ?_)
  obtain ⟨f_72, ef_72⟩ : ∃ y, y = vp_updL f_71 (1 : Int32).toNatClampNeg ((f_71 (1 : Int32).toNatClampNeg) + (x2p232_63.toInt64)) := ⟨_, rfl⟩
  have h := kb_n_s ef_72 h
  have hP : va_P D kCl (kWX5_compress32 cB cI cL cBB cII cSh h_this a_this this_taped this_code this_kind this_rate this_filled this_total this_bitAt this_k this_e1 this_du this_dv f_this_cubes f_72 f_this_wordsp60_33 f_this_block) H := by rw [ef_72]; exact hP
  have hD : va_D A (kWX5_compress32 cB cI cL cBB cII cSh h_this a_this this_taped this_code this_kind this_rate this_filled this_total this_bitAt this_k this_e1 this_du this_dv f_this_cubes f_72 f_this_wordsp60_33 f_this_block) := by rw [ef_72]; exact hD
  refine lv_aload_n hx hb kdX5_compress32_395 rfl (lv_at hl 0 rfl) ?_
  refine va_get (ci := 5) (v := .ref (a_this 13)) (C := kRX5) (T := kTX5) (N := 35) hx hb hts kinX5 hown hK hP 0 rfl rfl 13 (by decide) (hts _ km_694) (fun _ h9 => h9) rfl kdX5_compress32_396 ?_
  refine lv_iconst (v := 2) hx hb kdX5_compress32_399 (by decide) ?_
  refine lv_dup2_11 hx hb kdX5_compress32_400 rfl rfl ?_
  refine va_lald hx hb hK hP 2 2 rfl rfl (kb_in_v (by decide)) kdX5_compress32_401 ?_
  refine lv_iload_n hx hb kdX5_compress32_402 rfl (lv_at hl 3 rfl) ?_
  refine lv_i2l (v := (x3p232_64.toInt64)) hx hb kdX5_compress32_403 rfl ?_
  refine lv_ladd hx hb kdX5_compress32_404 ?_
  refine va_last hx hb hK hP hD hS 2 2 rfl rfl (kb_in_v (by decide)) kdX5_compress32_405 (fun H locs hP hD hS => ?_)
  obtain ⟨f_73, ef_73⟩ : ∃ y, y = vp_updL f_72 (2 : Int32).toNatClampNeg ((f_72 (2 : Int32).toNatClampNeg) + (x3p232_64.toInt64)) := ⟨_, rfl⟩
  have h := kb_n_s ef_73 h
  have hP : va_P D kCl (kWX5_compress32 cB cI cL cBB cII cSh h_this a_this this_taped this_code this_kind this_rate this_filled this_total this_bitAt this_k this_e1 this_du this_dv f_this_cubes f_73 f_this_wordsp60_33 f_this_block) H := by rw [ef_73]; exact hP
  have hD : va_D A (kWX5_compress32 cB cI cL cBB cII cSh h_this a_this this_taped this_code this_kind this_rate this_filled this_total this_bitAt this_k this_e1 this_du this_dv f_this_cubes f_73 f_this_wordsp60_33 f_this_block) := by rw [ef_73]; exact hD
  refine lv_aload_n hx hb kdX5_compress32_406 rfl (lv_at hl 0 rfl) ?_
  refine va_get (ci := 5) (v := .ref (a_this 13)) (C := kRX5) (T := kTX5) (N := 35) hx hb hts kinX5 hown hK hP 0 rfl rfl 13 (by decide) (hts _ km_694) (fun _ h9 => h9) rfl kdX5_compress32_407 ?_
  refine lv_iconst (v := 3) hx hb kdX5_compress32_410 (by decide) ?_
  refine lv_dup2_11 hx hb kdX5_compress32_411 rfl rfl ?_
  refine va_lald hx hb hK hP 2 2 rfl rfl (kb_in_v (by decide)) kdX5_compress32_412 ?_
  refine lv_iload hx hb kdX5_compress32_413 (lv_at hl 4 rfl) ?_
  refine lv_i2l (v := (x4p232_65.toInt64)) hx hb kdX5_compress32_415 rfl ?_
  refine lv_ladd hx hb kdX5_compress32_416 ?_
  refine va_last hx hb hK hP hD hS 2 2 rfl rfl (kb_in_v (by decide)) kdX5_compress32_417 (fun H locs hP hD hS => ?_)
  obtain ⟨f_74, ef_74⟩ : ∃ y, y = vp_updL f_73 (3 : Int32).toNatClampNeg ((f_73 (3 : Int32).toNatClampNeg) + (x4p232_65.toInt64)) := ⟨_, rfl⟩
  have h := kb_n_s ef_74 h
  have hP : va_P D kCl (kWX5_compress32 cB cI cL cBB cII cSh h_this a_this this_taped this_code this_kind this_rate this_filled this_total this_bitAt this_k this_e1 this_du this_dv f_this_cubes f_74 f_this_wordsp60_33 f_this_block) H := by rw [ef_74]; exact hP
  have hD : va_D A (kWX5_compress32 cB cI cL cBB cII cSh h_this a_this this_taped this_code this_kind this_rate this_filled this_total this_bitAt this_k this_e1 this_du this_dv f_this_cubes f_74 f_this_wordsp60_33 f_this_block) := by rw [ef_74]; exact hD
  refine lv_aload_n hx hb kdX5_compress32_418 rfl (lv_at hl 0 rfl) ?_
  refine va_get (ci := 5) (v := .ref (a_this 13)) (C := kRX5) (T := kTX5) (N := 35) hx hb hts kinX5 hown hK hP 0 rfl rfl 13 (by decide) (hts _ km_694) (fun _ h9 => h9) rfl kdX5_compress32_419 ?_
  refine lv_iconst (v := 4) hx hb kdX5_compress32_422 (by decide) ?_
  refine lv_dup2_11 hx hb kdX5_compress32_423 rfl rfl ?_
  refine va_lald hx hb hK hP 2 2 rfl rfl (kb_in_v (by decide)) kdX5_compress32_424 ?_
  refine lv_iload hx hb kdX5_compress32_425 (lv_at hl 5 rfl) ?_
  refine lv_i2l (v := (x5p232_66.toInt64)) hx hb kdX5_compress32_427 rfl ?_
  refine lv_ladd hx hb kdX5_compress32_428 ?_
  refine va_last hx hb hK hP hD hS 2 2 rfl rfl (kb_in_v (by decide)) kdX5_compress32_429 (fun H locs hP hD hS => ?_)
  obtain ⟨f_75, ef_75⟩ : ∃ y, y = vp_updL f_74 (4 : Int32).toNatClampNeg ((f_74 (4 : Int32).toNatClampNeg) + (x5p232_66.toInt64)) := ⟨_, rfl⟩
  have h := kb_n_s ef_75 h
  have hP : va_P D kCl (kWX5_compress32 cB cI cL cBB cII cSh h_this a_this this_taped this_code this_kind this_rate this_filled this_total this_bitAt this_k this_e1 this_du this_dv f_this_cubes f_75 f_this_wordsp60_33 f_this_block) H := by rw [ef_75]; exact hP
  have hD : va_D A (kWX5_compress32 cB cI cL cBB cII cSh h_this a_this this_taped this_code this_kind this_rate this_filled this_total this_bitAt this_k this_e1 this_du this_dv f_this_cubes f_75 f_this_wordsp60_33 f_this_block) := by rw [ef_75]; exact hD
  refine lv_aload_n hx hb kdX5_compress32_430 rfl (lv_at hl 0 rfl) ?_
  refine va_get (ci := 5) (v := .ref (a_this 13)) (C := kRX5) (T := kTX5) (N := 35) hx hb hts kinX5 hown hK hP 0 rfl rfl 13 (by decide) (hts _ km_694) (fun _ h9 => h9) rfl kdX5_compress32_431 ?_
  refine lv_iconst (v := 5) hx hb kdX5_compress32_434 (by decide) ?_
  refine lv_dup2_11 hx hb kdX5_compress32_435 rfl rfl ?_
  refine va_lald hx hb hK hP 2 2 rfl rfl (kb_in_v (by decide)) kdX5_compress32_436 ?_
  refine lv_iload hx hb kdX5_compress32_437 (lv_at hl 6 rfl) ?_
  refine lv_i2l (v := (x6p232_67.toInt64)) hx hb kdX5_compress32_439 rfl ?_
  refine lv_ladd hx hb kdX5_compress32_440 ?_
  refine va_last hx hb hK hP hD hS 2 2 rfl rfl (kb_in_v (by decide)) kdX5_compress32_441 (fun H locs hP hD hS => ?_)
  obtain ⟨f_76, ef_76⟩ : ∃ y, y = vp_updL f_75 (5 : Int32).toNatClampNeg ((f_75 (5 : Int32).toNatClampNeg) + (x6p232_67.toInt64)) := ⟨_, rfl⟩
  have h := kb_n_s ef_76 h
  have hP : va_P D kCl (kWX5_compress32 cB cI cL cBB cII cSh h_this a_this this_taped this_code this_kind this_rate this_filled this_total this_bitAt this_k this_e1 this_du this_dv f_this_cubes f_76 f_this_wordsp60_33 f_this_block) H := by rw [ef_76]; exact hP
  have hD : va_D A (kWX5_compress32 cB cI cL cBB cII cSh h_this a_this this_taped this_code this_kind this_rate this_filled this_total this_bitAt this_k this_e1 this_du this_dv f_this_cubes f_76 f_this_wordsp60_33 f_this_block) := by rw [ef_76]; exact hD
  refine lv_aload_n hx hb kdX5_compress32_442 rfl (lv_at hl 0 rfl) ?_
  refine va_get (ci := 5) (v := .ref (a_this 13)) (C := kRX5) (T := kTX5) (N := 35) hx hb hts kinX5 hown hK hP 0 rfl rfl 13 (by decide) (hts _ km_694) (fun _ h9 => h9) rfl kdX5_compress32_443 ?_
  refine lv_bipush (v := 6) hx hb kdX5_compress32_446 (by decide) ?_
  refine lv_dup2_11 hx hb kdX5_compress32_448 rfl rfl ?_
  refine va_lald hx hb hK hP 2 2 rfl rfl (kb_in_v (by decide)) kdX5_compress32_449 ?_
  refine lv_iload hx hb kdX5_compress32_450 (lv_at hl 7 rfl) ?_
  refine lv_i2l (v := (x7p232_68.toInt64)) hx hb kdX5_compress32_452 rfl ?_
  refine lv_ladd hx hb kdX5_compress32_453 ?_
  refine va_last hx hb hK hP hD hS 2 2 rfl rfl (kb_in_v (by decide)) kdX5_compress32_454 (fun H locs hP hD hS => ?_)
  obtain ⟨f_77, ef_77⟩ : ∃ y, y = vp_updL f_76 (6 : Int32).toNatClampNeg ((f_76 (6 : Int32).toNatClampNeg) + (x7p232_68.toInt64)) := ⟨_, rfl⟩
  have h := kb_n_s ef_77 h
  have hP : va_P D kCl (kWX5_compress32 cB cI cL cBB cII cSh h_this a_this this_taped this_code this_kind this_rate this_filled this_total this_bitAt this_k this_e1 this_du this_dv f_this_cubes f_77 f_this_wordsp60_33 f_this_block) H := by rw [ef_77]; exact hP
  have hD : va_D A (kWX5_compress32 cB cI cL cBB cII cSh h_this a_this this_taped this_code this_kind this_rate this_filled this_total this_bitAt this_k this_e1 this_du this_dv f_this_cubes f_77 f_this_wordsp60_33 f_this_block) := by rw [ef_77]; exact hD
  refine lv_aload_n hx hb kdX5_compress32_455 rfl (lv_at hl 0 rfl) ?_
  refine va_get (ci := 5) (v := .ref (a_this 13)) (C := kRX5) (T := kTX5) (N := 35) hx hb hts kinX5 hown hK hP 0 rfl rfl 13 (by decide) (hts _ km_694) (fun _ h9 => h9) rfl kdX5_compress32_456 ?_
  refine lv_bipush (v := 7) hx hb kdX5_compress32_459 (by decide) ?_
  refine lv_dup2_11 hx hb kdX5_compress32_461 rfl rfl ?_
  refine va_lald hx hb hK hP 2 2 rfl rfl (kb_in_v (by decide)) kdX5_compress32_462 ?_
  refine lv_iload hx hb kdX5_compress32_463 (lv_at hl 8 rfl) ?_
  refine lv_i2l (v := (x8p232_69.toInt64)) hx hb kdX5_compress32_465 rfl ?_
  refine lv_ladd hx hb kdX5_compress32_466 ?_
  refine va_last hx hb hK hP hD hS 2 2 rfl rfl (kb_in_v (by decide)) kdX5_compress32_467 (fun H locs hP hD hS => ?_)
  obtain ⟨f_78, ef_78⟩ : ∃ y, y = vp_updL f_77 (7 : Int32).toNatClampNeg ((f_77 (7 : Int32).toNatClampNeg) + (x8p232_69.toInt64)) := ⟨_, rfl⟩
  have h := kb_n_s ef_78 h
  have hP : va_P D kCl (kWX5_compress32 cB cI cL cBB cII cSh h_this a_this this_taped this_code this_kind this_rate this_filled this_total this_bitAt this_k this_e1 this_du this_dv f_this_cubes f_78 f_this_wordsp60_33 f_this_block) H := by rw [ef_78]; exact hP
  have hD : va_D A (kWX5_compress32 cB cI cL cBB cII cSh h_this a_this this_taped this_code this_kind this_rate this_filled this_total this_bitAt this_k this_e1 this_du this_dv f_this_cubes f_78 f_this_wordsp60_33 f_this_block) := by rw [ef_78]; exact hD
  obtain rfl := Option.some.inj h
  exact W.vret hx hb hr (fun t ht hW => ⟨⟨rfl, by rw [ht]; exact hP, va_K.moved hW.alike hK, hD⟩, hS.F ht⟩) hS.2.2 kdX5_compress32_468

-- 435.ModuleKemModel.clear.lean.txt
abbrev kWX5_clear (cB cI cL cBB cII cSh : ClassId) (h_a1 : Nat) (n_a1 : Nat) (f_a1 : Nat → Int32) : va_W := [(h_a1, .inl (cI, n_a1, .inl f_a1))]
def krX5_clear : Room := { frames := 0, cells := 0, slots := 0, locals := 0 }
set_option maxHeartbeats 4000000 in
set_option maxRecDepth 100000 in
theorem klX5_clear_2 {p : Program} {l : Launch} {e : Env} {s : State} {m : MethodId} {args : Array Value} {below : List Frame} {meth : Method} {c : Code} {cells slots : Nat} {Q : State → Prop} {D : va_G} {cB cI cL cBB cII cSh : ClassId} {A : Nat → Prop} (C0 : CallFix p m c prog_8_method_38_code 2 s args kwA kRX5) (hlocks : meth.locks = false) (hK : va_K D kCl (kb_T cB cI cL cBB cII cSh) s) (hN : kb_N s) (hA : ∀ q, s.heap.size ≤ q → A q) (hcR : cells ≤ krX5_clear.cells) (hsR : slots ≤ krX5_clear.slots) (h_a1 : Nat) (n_a1 : Nat) :
    ∀ (fuel : Nat) (x1p2 : Int32) (f_a1p2 : Nat → Int32) (r : Int32 × (Nat → Int32)), kb_w (fun u : Int32 × (Nat → Int32) => kSX5_clear_2 n_a1 u.1 u.2) fuel (x1p2, f_a1p2) = some r → ∀ (H : Heap) (locs : List Loc) (ls : Array Slot), va_P D kCl (kWX5_clear cB cI cL cBB cII cSh h_a1 n_a1 f_a1p2) H → va_D A (kWX5_clear cB cI cL cBB cII cSh h_a1 n_a1 f_a1p2) → va_S A s.heap H locs → lv_has ls 2 [(0, .ref h_a1), (1, .int x1p2)] → (∀ (x1p2' : Int32) (f_a1p2' : Nat → Int32), r = (x1p2', f_a1p2') → ∀ (H : Heap) (locs : List Loc) (ls : Array Slot), va_P D kCl (kWX5_clear cB cI cL cBB cII cSh h_a1 n_a1 f_a1p2') H → va_D A (kWX5_clear cB cI cL cBB cII cSh h_a1 n_a1 f_a1p2') → va_S A s.heap H locs → lv_has ls 2 [(0, .ref h_a1), (1, .int x1p2')] → W p l e krX5_clear s m args below meth c H locs cells slots Q (F0 m 19 ls [])) → W p l e krX5_clear s m args below meth c H locs cells slots Q (F0 m 2 ls []) := by
  obtain ⟨hx, hb, hml, hown, hts⟩ := id C0
  intro fuel
  induction fuel with
  | zero =>
    intro x1p2 f_a1p2 r h
    exact absurd h (kb_w_z _ _ _)
  | succ fuel ih =>
    intro x1p2 f_a1p2 r h H locs ls hP hD hS hl hk0
    obtain ⟨o, h, ho⟩ := kb_w_s h
    have h : kSX5_clear_2 n_a1 x1p2 f_a1p2 = some o := h
    unfold kSX5_clear_2 at h
    refine lv_iload_n hx hb kdX5_clear_2 rfl (lv_at hl 1 rfl) ?_
    refine lv_sipush (v := 256) hx hb kdX5_clear_3 (by decide) ?_
    refine lv_icmp_ge (tgt := 19) hx hb kdX5_clear_6 (by decide) (fun c_1 => ?_) (fun c_1 => ?_)
    · have h := kb_b_t c_1 h
      obtain rfl := Option.some.inj h
      exact hk0 x1p2 f_a1p2 ho.symm _ _ _ hP hD hS (lv_sub hl [0, 1] rfl)
    · have h := kb_b_f c_1 h
      refine lv_aload_n hx hb kdX5_clear_9 rfl (lv_at hl 0 rfl) ?_
      refine lv_iload_n hx hb kdX5_clear_10 rfl (lv_at hl 1 rfl) ?_
      refine lv_iconst (v := 0) hx hb kdX5_clear_11 (by decide) ?_
      obtain ⟨g_2, h⟩ := kb_g_s h
      refine va_iast hx hb hK hP hD hS 0 1 rfl rfl (kb_in_v g_2) kdX5_clear_12 (fun H locs hP hD hS => ?_)
      obtain ⟨f_3, ef_3⟩ : ∃ y, y = upd f_a1p2 x1p2.toNatClampNeg (0 : Int32) := ⟨_, rfl⟩
      have h := kb_n_s ef_3 h
      have hP : va_P D kCl (kWX5_clear cB cI cL cBB cII cSh h_a1 n_a1 f_3) H := by rw [ef_3]; exact hP
      have hD : va_D A (kWX5_clear cB cI cL cBB cII cSh h_a1 n_a1 f_3) := by rw [ef_3]; exact hD
      obtain ⟨x1_4, ex1_4⟩ : ∃ y : Int32, y = x1p2 + Int32.ofInt 1 := ⟨_, rfl⟩
      have h := kb_n_s ex1_4 h
      refine lv_iinc (v := x1_4) (lv' := [(1, .int x1_4), (0, .ref h_a1)]) hx hb kdX5_clear_13 hl (k := 1) rfl ex1_4.symm (by decide) rfl (fun ls hl => ?_)
      refine lv_goto (tgt := 2) hx hb kdX5_clear_16 (by decide) ?_
      obtain rfl := Option.some.inj h
      exact ih x1_4 f_3 r ho _ _ _ hP hD hS (lv_sub hl [1, 0] rfl) hk0
set_option maxHeartbeats 4000000 in
set_option maxRecDepth 100000 in
theorem kcX5_clear (l : Launch) (D : va_G) (cB cI cL cBB cII cSh : ClassId) (h_a1 : Nat) (sz : Nat) (n_a1 : Nat) (f_a1 : Nat → Int32) (out : (Nat → Int32)) (h : kFX5_clear n_a1 f_a1 = some out) : Met l kyX5_clear kwX5_clear krX5_clear (kb_P D kCl (kb_T cB cI cL cBB cII cSh) [.ref h_a1] (kWX5_clear cB cI cL cBB cII cSh h_a1 n_a1 f_a1) sz) (kb_Q D kCl (kb_T cB cI cL cBB cII cSh) (va_A (kWX5_clear cB cI cL cBB cII cSh h_a1 n_a1 f_a1) sz) none (kWX5_clear cB cI cL cBB cII cSh h_a1 n_a1 out)) 0 0 (va_A (kWX5_clear cB cI cL cBB cII cSh h_a1 n_a1 f_a1) sz) := by
  refine Met.ofW (cc := prog_8_method_38_code) (maxL := 2) (ret := none) (by decide) rfl ?_
  intro p e s m args below meth c s₁ B hml hv
  obtain ⟨rfl, hsz, hP, hK, hN, hD0⟩ := hv
  have hx := B.exec
  have hb := B.bytes
  have hr := B.returns
  have hts0 := atoms_spec (ws := kwX5_clear) B.pre
  have hts : ∀ w ∈ kwA, w.before _ s = true := fun w h => hts0 w (List.mem_cons_of_mem _ h)
  have hown : s.vm.findClass kRX5 = some m.cls := findClass_of_methodNamed B.named
  have hlocks := B.notSynchronized
  subst hsz
  have hD := hD0.self (sz := s.heap.size)
  generalize hAe : va_A (kWX5_clear cB cI cL cBB cII cSh h_a1 n_a1 f_a1) s.heap.size = A at hD ⊢
  have hA : ∀ q : Nat, s.heap.size ≤ q → A q := fun q h => by rw [← hAe]; exact Or.inr h
  have hS : va_S A s.heap s.heap [] := va_S.rf
  have C0 : CallFix p m c prog_8_method_38_code 2 s _ kwA kRX5 := ⟨hx, hb, hml, hown, hts⟩
  have hl := lv_entry ([.ref h_a1]) (n := 2) (Nat.le_of_ble_eq_true rfl)
  rw [lg_entry_eq]
  generalize (lg_sl ([.ref h_a1]) ++ List.replicate (2 - (lg_sl ([.ref h_a1])).length) Slot.unset).toArray = ls at hl ⊢
  have hl : lv_has ls 2 [(0, .ref h_a1)] := hl
  unfold kFX5_clear at h
  refine lv_iconst (v := 0) hx hb kdX5_clear_0 (by decide) ?_
  refine lv_istore_n (lv' := [(1, .int (0 : Int32)), (0, .ref h_a1)]) hx hb kdX5_clear_1 rfl hl (by decide) rfl (fun ls hl => ?_)
  obtain ⟨r_7, hr_7, h⟩ := kb_o_s h
  refine klX5_clear_2 C0 hlocks hK hN hA (by decide) (by decide) h_a1 n_a1 100000 (0 : Int32) f_a1 r_7 hr_7 _ _ _ hP hD hS (lv_sub hl [1, 0] rfl) (fun x1p2_5 f_a1p2_6 er_7 H locs ls hP hD hS hl => ?_)
  subst er_7
  obtain rfl := Option.some.inj h
  exact W.vret hx hb hr (fun t ht hW => ⟨⟨rfl, by rw [ht]; exact hP, va_K.moved hW.alike hK, hD⟩, hS.F ht⟩) hS.2.2 kdX5_clear_19

-- 436.ModuleKemModel.turned.lean.txt
abbrev kWX5_turned (cB cI cL cBB cII cSh : ClassId)   : va_W := []
def krX5_turned : Room := { frames := 0, cells := 0, slots := 0, locals := 0 }
set_option maxHeartbeats 4000000 in
set_option maxRecDepth 100000 in
theorem klX5_turned_4 {p : Program} {l : Launch} {e : Env} {s : State} {m : MethodId} {args : Array Value} {below : List Frame} {meth : Method} {c : Code} {cells slots : Nat} {Q : State → Prop} {D : va_G} {cB cI cL cBB cII cSh : ClassId} {A : Nat → Prop} (C0 : CallFix p m c prog_8_method_39_code 4 s args kwA kRX5) (hlocks : meth.locks = false) (hK : va_K D kCl (kb_T cB cI cL cBB cII cSh) s) (hN : kb_N s) (hA : ∀ q, s.heap.size ≤ q → A q) (hcR : cells ≤ krX5_turned.cells) (hsR : slots ≤ krX5_turned.slots)  (p1 : Int32) (p2 : Int32) :
    ∀ (fuel : Nat) (x2p4 : Int32) (x3p4 : Int32) (r : Int32 × Int32), kb_w (fun u : Int32 × Int32 => kSX5_turned_4 p1 p2 u.1 u.2) fuel (x2p4, x3p4) = some r → ∀ (H : Heap) (locs : List Loc) (ls : Array Slot), va_P D kCl (kWX5_turned cB cI cL cBB cII cSh) H → va_D A (kWX5_turned cB cI cL cBB cII cSh) → va_S A s.heap H locs → lv_has ls 4 [(0, .int p1), (1, .int p2), (2, .int x2p4), (3, .int x3p4)] → (∀ (x2p4' : Int32) (x3p4' : Int32), r = (x2p4', x3p4') → ∀ (H : Heap) (locs : List Loc) (ls : Array Slot), va_P D kCl (kWX5_turned cB cI cL cBB cII cSh) H → va_D A (kWX5_turned cB cI cL cBB cII cSh) → va_S A s.heap H locs → lv_has ls 4 [(0, .int p1), (1, .int p2), (2, .int x2p4'), (3, .int x3p4')] → W p l e krX5_turned s m args below meth c H locs cells slots Q (F0 m 34 ls [])) → W p l e krX5_turned s m args below meth c H locs cells slots Q (F0 m 4 ls []) := by
  obtain ⟨hx, hb, hml, hown, hts⟩ := id C0
  intro fuel
  induction fuel with
  | zero =>
    intro x2p4 x3p4 r h
    exact absurd h (kb_w_z _ _ _)
  | succ fuel ih =>
    intro x2p4 x3p4 r h H locs ls hP hD hS hl hk0
    obtain ⟨o, h, ho⟩ := kb_w_s h
    have h : kSX5_turned_4 p1 p2 x2p4 x3p4 = some o := h
    unfold kSX5_turned_4 at h
    refine lv_iload_n hx hb kdX5_turned_4 rfl (lv_at hl 3 rfl) ?_
    refine lv_iload_n hx hb kdX5_turned_5 rfl (lv_at hl 1 rfl) ?_
    refine lv_icmp_ge (tgt := 34) hx hb kdX5_turned_6 (by decide) (fun c_1 => ?_) (fun c_1 => ?_)
    · have h := kb_b_t c_1 h
      obtain rfl := Option.some.inj h
      exact hk0 x2p4 x3p4 ho.symm _ _ _ hP hD hS (lv_sub hl [0, 1, 2, 3] rfl)
    · have h := kb_b_f c_1 h
      refine lv_iload_n hx hb kdX5_turned_9 rfl (lv_at hl 0 rfl) ?_
      refine lv_iload_n hx hb kdX5_turned_10 rfl (lv_at hl 3 rfl) ?_
      refine lv_ishr hx hb kdX5_turned_11 ?_
      refine lv_iconst (v := 1) hx hb kdX5_turned_12 (by decide) ?_
      refine lv_iand hx hb kdX5_turned_13 ?_
      refine lv_iconst (v := 1) hx hb kdX5_turned_14 (by decide) ?_
      refine lv_icmp_ne (tgt := 28) hx hb kdX5_turned_15 (by decide) (fun c_2 => ?_) (fun c_2 => ?_)
      · have h := kb_b_f c_2 h
        obtain ⟨x3_3, ex3_3⟩ : ∃ y : Int32, y = x3p4 + Int32.ofInt 1 := ⟨_, rfl⟩
        have h := kb_n_s ex3_3 h
        refine lv_iinc (v := x3_3) (lv' := [(3, .int x3_3), (0, .int p1), (1, .int p2), (2, .int x2p4)]) hx hb kdX5_turned_28 hl (k := 3) rfl ex3_3.symm (by decide) rfl (fun ls hl => ?_)
        refine lv_goto (tgt := 4) hx hb kdX5_turned_31 (by decide) ?_
        obtain rfl := Option.some.inj h
        exact ih x2p4 x3_3 r ho _ _ _ hP hD hS (lv_sub hl [1, 2, 3, 0] rfl) hk0
      · have h := kb_b_t c_2 h
        refine lv_iload_n hx hb kdX5_turned_18 rfl (lv_at hl 2 rfl) ?_
        refine lv_iconst (v := 1) hx hb kdX5_turned_19 (by decide) ?_
        refine lv_iload_n hx hb kdX5_turned_20 rfl (lv_at hl 1 rfl) ?_
        refine lv_iconst (v := 1) hx hb kdX5_turned_21 (by decide) ?_
        refine lv_isub hx hb kdX5_turned_22 ?_
        refine lv_iload_n hx hb kdX5_turned_23 rfl (lv_at hl 3 rfl) ?_
        refine lv_isub hx hb kdX5_turned_24 ?_
        refine lv_ishl hx hb kdX5_turned_25 ?_
        refine lv_ior hx hb kdX5_turned_26 ?_
        refine lv_topi (fun x2_4 ex2_4 => ?_)
        have h := kb_n_s ex2_4 h
        refine lv_istore_n (lv' := [(2, .int x2_4), (0, .int p1), (1, .int p2), (3, .int x3p4)]) hx hb kdX5_turned_27 rfl hl (by decide) rfl (fun ls hl => ?_)
        obtain ⟨x3_5, ex3_5⟩ : ∃ y : Int32, y = x3p4 + Int32.ofInt 1 := ⟨_, rfl⟩
        have h := kb_n_s ex3_5 h
        refine lv_iinc (v := x3_5) (lv' := [(3, .int x3_5), (2, .int x2_4), (0, .int p1), (1, .int p2)]) hx hb kdX5_turned_28 hl (k := 3) rfl ex3_5.symm (by decide) rfl (fun ls hl => ?_)
        refine lv_goto (tgt := 4) hx hb kdX5_turned_31 (by decide) ?_
        obtain rfl := Option.some.inj h
        exact ih x2_4 x3_5 r ho _ _ _ hP hD hS (lv_sub hl [2, 3, 1, 0] rfl) hk0
set_option maxHeartbeats 4000000 in
set_option maxRecDepth 100000 in
theorem kcX5_turned (l : Launch) (D : va_G) (cB cI cL cBB cII cSh : ClassId)  (sz : Nat) (p1 : Int32) (p2 : Int32) (out : Int32) (h : kFX5_turned p1 p2 = some out) : Met l kyX5_turned kwX5_turned krX5_turned (kb_P D kCl (kb_T cB cI cL cBB cII cSh) [.int p1, .int p2] (kWX5_turned cB cI cL cBB cII cSh) sz) (kb_Q D kCl (kb_T cB cI cL cBB cII cSh) (va_A (kWX5_turned cB cI cL cBB cII cSh) sz) (some (.int out)) (kWX5_turned cB cI cL cBB cII cSh)) 0 0 (va_A (kWX5_turned cB cI cL cBB cII cSh) sz) := by
  refine Met.ofW (cc := prog_8_method_39_code) (maxL := 4) (ret := (some .int)) (by decide) rfl ?_
  intro p e s m args below meth c s₁ B hml hv
  obtain ⟨rfl, hsz, hP, hK, hN, hD0⟩ := hv
  have hx := B.exec
  have hb := B.bytes
  have hr := B.returns
  have hts0 := atoms_spec (ws := kwX5_turned) B.pre
  have hts : ∀ w ∈ kwA, w.before _ s = true := fun w h => hts0 w (List.mem_cons_of_mem _ h)
  have hown : s.vm.findClass kRX5 = some m.cls := findClass_of_methodNamed B.named
  have hlocks := B.notSynchronized
  subst hsz
  have hD := hD0.self (sz := s.heap.size)
  generalize hAe : va_A (kWX5_turned cB cI cL cBB cII cSh) s.heap.size = A at hD ⊢
  have hA : ∀ q : Nat, s.heap.size ≤ q → A q := fun q h => by rw [← hAe]; exact Or.inr h
  have hS : va_S A s.heap s.heap [] := va_S.rf
  have C0 : CallFix p m c prog_8_method_39_code 4 s _ kwA kRX5 := ⟨hx, hb, hml, hown, hts⟩
  have hl := lv_entry ([.int p1, .int p2]) (n := 4) (Nat.le_of_ble_eq_true rfl)
  rw [lg_entry_eq]
  generalize (lg_sl ([.int p1, .int p2]) ++ List.replicate (4 - (lg_sl ([.int p1, .int p2])).length) Slot.unset).toArray = ls at hl ⊢
  have hl : lv_has ls 4 [(0, .int p1), (1, .int p2)] := hl
  unfold kFX5_turned at h
  refine lv_iconst (v := 0) hx hb kdX5_turned_0 (by decide) ?_
  refine lv_istore_n (lv' := [(2, .int (0 : Int32)), (0, .int p1), (1, .int p2)]) hx hb kdX5_turned_1 rfl hl (by decide) rfl (fun ls hl => ?_)
  refine lv_iconst (v := 0) hx hb kdX5_turned_2 (by decide) ?_
  refine lv_istore_n (lv' := [(3, .int (0 : Int32)), (2, .int (0 : Int32)), (0, .int p1), (1, .int p2)]) hx hb kdX5_turned_3 rfl hl (by decide) rfl (fun ls hl => ?_)
  obtain ⟨r_8, hr_8, h⟩ := kb_o_s h
  refine klX5_turned_4 C0 hlocks hK hN hA (by decide) (by decide) p1 p2 100000 (0 : Int32) (0 : Int32) r_8 hr_8 _ _ _ hP hD hS (lv_sub hl [2, 3, 1, 0] rfl) (fun x2p4_6 x3p4_7 er_8 H locs ls hP hD hS hl => ?_)
  subst er_8
  refine lv_iload_n hx hb kdX5_turned_34 rfl (lv_at hl 2 rfl) ?_
  obtain rfl := Option.some.inj h
  exact W.iret (v := x2p4_6) hx hb hr (fun t ht hW => ⟨⟨rfl, by rw [ht]; exact hP, va_K.moved hW.alike hK, hD⟩, hS.F ht⟩) hS.2.2 kdX5_turned_35

-- 437.ModuleKemModel.bitOf.lean.txt
abbrev kWX5_bitOf (cB cI cL cBB cII cSh : ClassId) (h_a1 : Nat) (n_a1 : Nat) (f_a1 : Nat → Int32) : va_W := [(h_a1, .inl (cB, n_a1, .inl f_a1))]
def krX5_bitOf : Room := { frames := 0, cells := 0, slots := 0, locals := 0 }
set_option maxHeartbeats 4000000 in
set_option maxRecDepth 100000 in
theorem kcX5_bitOf (l : Launch) (D : va_G) (cB cI cL cBB cII cSh : ClassId) (h_a1 : Nat) (sz : Nat) (p2 : Int32) (p3 : Int32) (n_a1 : Nat) (f_a1 : Nat → Int32) (out : Int32) (h : kFX5_bitOf p2 p3 n_a1 f_a1 = some out) : Met l kyX5_bitOf kwX5_bitOf krX5_bitOf (kb_P D kCl (kb_T cB cI cL cBB cII cSh) [.ref h_a1, .int p2, .int p3] (kWX5_bitOf cB cI cL cBB cII cSh h_a1 n_a1 f_a1) sz) (kb_Q D kCl (kb_T cB cI cL cBB cII cSh) (va_A (kWX5_bitOf cB cI cL cBB cII cSh h_a1 n_a1 f_a1) sz) (some (.int out)) (kWX5_bitOf cB cI cL cBB cII cSh h_a1 n_a1 f_a1)) 0 0 (va_A (kWX5_bitOf cB cI cL cBB cII cSh h_a1 n_a1 f_a1) sz) := by
  refine Met.ofW (cc := prog_8_method_40_code) (maxL := 3) (ret := (some .int)) (by decide) rfl ?_
  intro p e s m args below meth c s₁ B hml hv
  obtain ⟨rfl, hsz, hP, hK, hN, hD0⟩ := hv
  have hx := B.exec
  have hb := B.bytes
  have hr := B.returns
  have hts0 := atoms_spec (ws := kwX5_bitOf) B.pre
  have hts : ∀ w ∈ kwA, w.before _ s = true := fun w h => hts0 w (List.mem_cons_of_mem _ h)
  have hown : s.vm.findClass kRX5 = some m.cls := findClass_of_methodNamed B.named
  have hlocks := B.notSynchronized
  subst hsz
  have hD := hD0.self (sz := s.heap.size)
  generalize hAe : va_A (kWX5_bitOf cB cI cL cBB cII cSh h_a1 n_a1 f_a1) s.heap.size = A at hD ⊢
  have hA : ∀ q : Nat, s.heap.size ≤ q → A q := fun q h => by rw [← hAe]; exact Or.inr h
  have hS : va_S A s.heap s.heap [] := va_S.rf
  have C0 : CallFix p m c prog_8_method_40_code 3 s _ kwA kRX5 := ⟨hx, hb, hml, hown, hts⟩
  have hl := lv_entry ([.ref h_a1, .int p2, .int p3]) (n := 3) (Nat.le_of_ble_eq_true rfl)
  rw [lg_entry_eq]
  generalize (lg_sl ([.ref h_a1, .int p2, .int p3]) ++ List.replicate (3 - (lg_sl ([.ref h_a1, .int p2, .int p3])).length) Slot.unset).toArray = ls at hl ⊢
  have hl : lv_has ls 3 [(0, .ref h_a1), (1, .int p2), (2, .int p3)] := hl
  unfold kFX5_bitOf at h
  refine lv_aload_n hx hb kdX5_bitOf_0 rfl (lv_at hl 0 rfl) ?_
  refine lv_iload_n hx hb kdX5_bitOf_1 rfl (lv_at hl 1 rfl) ?_
  refine lv_iload_n hx hb kdX5_bitOf_2 rfl (lv_at hl 2 rfl) ?_
  refine lv_bipush (v := 8) hx hb kdX5_bitOf_3 (by decide) ?_
  refine lv_idiv hx hb kdX5_bitOf_5 (by decide) ?_
  refine lv_iadd hx hb kdX5_bitOf_6 ?_
  obtain ⟨g_1, h⟩ := kb_g_s h
  refine va_bald hx hb hK hP 0 0 rfl rfl (kb_in_v g_1) kdX5_bitOf_7 ?_
  refine lv_iload_n hx hb kdX5_bitOf_8 rfl (lv_at hl 2 rfl) ?_
  refine lv_bipush (v := 8) hx hb kdX5_bitOf_9 (by decide) ?_
  refine lv_irem hx hb kdX5_bitOf_11 (by decide) ?_
  refine lv_ishr hx hb kdX5_bitOf_12 ?_
  refine lv_iconst (v := 1) hx hb kdX5_bitOf_13 (by decide) ?_
  refine lv_iand hx hb kdX5_bitOf_14 ?_
  obtain rfl := Option.some.inj h
  exact W.iret (v := (((f_a1 (p2 + (p3 / (8 : Int32))).toNatClampNeg) >>> ((p3 - p3 / (8 : Int32) * (8 : Int32)) &&& 31)) &&& (1 : Int32))) hx hb hr (fun t ht hW => ⟨⟨rfl, by rw [ht]; exact hP, va_K.moved hW.alike hK, hD⟩, hS.F ht⟩) hS.2.2 kdX5_bitOf_15

-- 438.ModuleKemModel.putBits.lean.txt
abbrev kWX5_putBits (cB cI cL cBB cII cSh : ClassId) (h_this : Nat) (a_this : Nat → Nat) (h_a1 : Nat) (n_a1 : Nat) (this_taped : Int32) (this_code : Int32) (this_kind : Int32) (this_rate : Int32) (this_filled : Int32) (this_total : Int64) (this_bitAt : Int32) (this_k : Int32) (this_e1 : Int32) (this_du : Int32) (this_dv : Int32) (f_a1 : Nat → Int32) : va_W := [(h_this, koX5 a_this this_taped this_code this_kind this_rate this_filled this_total this_bitAt this_k this_e1 this_du this_dv), (h_a1, .inl (cB, n_a1, .inl f_a1))]
def krX5_putBits : Room := { frames := 0, cells := 0, slots := 0, locals := 0 }
set_option maxHeartbeats 4000000 in
set_option maxRecDepth 100000 in
theorem klX5_putBits_3 {p : Program} {l : Launch} {e : Env} {s : State} {m : MethodId} {args : Array Value} {below : List Frame} {meth : Method} {c : Code} {cells slots : Nat} {Q : State → Prop} {D : va_G} {cB cI cL cBB cII cSh : ClassId} {A : Nat → Prop} (C0 : CallFix p m c prog_8_method_41_code 7 s args kwA kRX5) (hlocks : meth.locks = false) (hK : va_K D kCl (kb_T cB cI cL cBB cII cSh) s) (hN : kb_N s) (hA : ∀ q, s.heap.size ≤ q → A q) (hcR : cells ≤ krX5_putBits.cells) (hsR : slots ≤ krX5_putBits.slots) (h_this h_a1 : Nat) (a_this : Nat → Nat) (p2 : Int32) (p3 : Int32) (p4 : Int32) (n_a1 : Nat) (this_taped : Int32) (this_code : Int32) (this_kind : Int32) (this_rate : Int32) (this_filled : Int32) (this_total : Int64) (this_bitAt : Int32) (this_k : Int32) (this_e1 : Int32) (this_du : Int32) (this_dv : Int32) :
    ∀ (fuel : Nat) (x5p3 : Int32) (f_a1p3 : Nat → Int32) (r : Int32 × (Nat → Int32)), kb_w (fun u : Int32 × (Nat → Int32) => kSX5_putBits_3 p2 p3 p4 n_a1 this_bitAt u.1 u.2) fuel (x5p3, f_a1p3) = some r → ∀ (H : Heap) (locs : List Loc) (ls : Array Slot), va_P D kCl (kWX5_putBits cB cI cL cBB cII cSh h_this a_this h_a1 n_a1 this_taped this_code this_kind this_rate this_filled this_total this_bitAt this_k this_e1 this_du this_dv f_a1p3) H → va_D A (kWX5_putBits cB cI cL cBB cII cSh h_this a_this h_a1 n_a1 this_taped this_code this_kind this_rate this_filled this_total this_bitAt this_k this_e1 this_du this_dv f_a1p3) → va_S A s.heap H locs → lv_has ls 7 [(0, .ref h_this), (1, .ref h_a1), (2, .int p2), (3, .int p3), (4, .int p4), (5, .int x5p3)] → (∀ (x5p3' : Int32) (f_a1p3' : Nat → Int32), r = (x5p3', f_a1p3') → ∀ (H : Heap) (locs : List Loc) (ls : Array Slot), va_P D kCl (kWX5_putBits cB cI cL cBB cII cSh h_this a_this h_a1 n_a1 this_taped this_code this_kind this_rate this_filled this_total this_bitAt this_k this_e1 this_du this_dv f_a1p3') H → va_D A (kWX5_putBits cB cI cL cBB cII cSh h_this a_this h_a1 n_a1 this_taped this_code this_kind this_rate this_filled this_total this_bitAt this_k this_e1 this_du this_dv f_a1p3') → va_S A s.heap H locs → lv_has ls 7 [(0, .ref h_this), (1, .ref h_a1), (2, .int p2), (3, .int p3), (4, .int p4), (5, .int x5p3')] → W p l e krX5_putBits s m args below meth c H locs cells slots Q (F0 m 69 ls [])) → W p l e krX5_putBits s m args below meth c H locs cells slots Q (F0 m 3 ls []) := by
  obtain ⟨hx, hb, hml, hown, hts⟩ := id C0
  intro fuel
  induction fuel with
  | zero =>
    intro x5p3 f_a1p3 r h
    exact absurd h (kb_w_z _ _ _)
  | succ fuel ih =>
    intro x5p3 f_a1p3 r h H locs ls hP hD hS hl hk0
    obtain ⟨o, h, ho⟩ := kb_w_s h
    have h : kSX5_putBits_3 p2 p3 p4 n_a1 this_bitAt x5p3 f_a1p3 = some o := h
    unfold kSX5_putBits_3 at h
    refine lv_iload hx hb kdX5_putBits_3 (lv_at hl 5 rfl) ?_
    refine lv_iload hx hb kdX5_putBits_5 (lv_at hl 4 rfl) ?_
    refine lv_icmp_ge (tgt := 69) hx hb kdX5_putBits_7 (by decide) (fun c_1 => ?_) (fun c_1 => ?_)
    · have h := kb_b_t c_1 h
      obtain rfl := Option.some.inj h
      exact hk0 x5p3 f_a1p3 ho.symm _ _ _ hP hD hS (lv_sub hl [0, 1, 2, 3, 4, 5] rfl)
    · have h := kb_b_f c_1 h
      refine lv_aload_n hx hb kdX5_putBits_10 rfl (lv_at hl 0 rfl) ?_
      refine va_get (ci := 5) (v := .int this_bitAt) (C := kRX5) (T := kTX5) (N := 35) hx hb hts kinX5 hown hK hP 0 rfl rfl 22 (by decide) (hts _ km_703) (fun _ h9 => h9) rfl kdX5_putBits_11 ?_
      refine lv_iload hx hb kdX5_putBits_14 (lv_at hl 5 rfl) ?_
      refine lv_iadd hx hb kdX5_putBits_16 ?_
      refine lv_topi (fun x6_2 ex6_2 => ?_)
      have h := kb_n_s ex6_2 h
      refine lv_istore (lv' := [(6, .int x6_2), (0, .ref h_this), (1, .ref h_a1), (2, .int p2), (3, .int p3), (4, .int p4), (5, .int x5p3)]) hx hb kdX5_putBits_17 hl (by decide) rfl (fun ls hl => ?_)
      refine lv_iload hx hb kdX5_putBits_19 (lv_at hl 0 rfl) ?_
      refine lv_bipush (v := 8) hx hb kdX5_putBits_21 (by decide) ?_
      refine lv_irem hx hb kdX5_putBits_23 (by decide) ?_
      refine lv_if_ne (tgt := 37) hx hb kdX5_putBits_24 (by decide) (fun c_3 => ?_) (fun c_3 => ?_)
      · have h := kb_b_f c_3 h
        refine lv_aload_n hx hb kdX5_putBits_37 rfl (lv_at hl 2 rfl) ?_
        refine lv_iload_n hx hb kdX5_putBits_38 rfl (lv_at hl 3 rfl) ?_
        refine lv_iload hx hb kdX5_putBits_39 (lv_at hl 0 rfl) ?_
        refine lv_bipush (v := 8) hx hb kdX5_putBits_41 (by decide) ?_
        refine lv_idiv hx hb kdX5_putBits_43 (by decide) ?_
        refine lv_iadd hx hb kdX5_putBits_44 ?_
        refine lv_dup2_11 hx hb kdX5_putBits_45 rfl rfl ?_
        obtain ⟨g_4, h⟩ := kb_g_s h
        refine va_bald hx hb hK hP 1 0 rfl rfl (kb_in_v g_4) kdX5_putBits_46 ?_
        refine lv_iload_n hx hb kdX5_putBits_47 rfl (lv_at hl 4 rfl) ?_
        refine lv_iload hx hb kdX5_putBits_48 (lv_at hl 6 rfl) ?_
        refine lv_ishr hx hb kdX5_putBits_50 ?_
        refine lv_iconst (v := 1) hx hb kdX5_putBits_51 (by decide) ?_
        refine lv_iand hx hb kdX5_putBits_52 ?_
        refine lv_iload hx hb kdX5_putBits_53 (lv_at hl 0 rfl) ?_
        refine lv_bipush (v := 8) hx hb kdX5_putBits_55 (by decide) ?_
        refine lv_irem hx hb kdX5_putBits_57 (by decide) ?_
        refine lv_ishl hx hb kdX5_putBits_58 ?_
        refine lv_i2b (v := ((((p3 >>> (x5p3 &&& 31)) &&& (1 : Int32)) <<< ((x6_2 - x6_2 / (8 : Int32) * (8 : Int32)) &&& 31)).toInt8.toInt32)) hx hb kdX5_putBits_59 rfl ?_
        refine lv_ior hx hb kdX5_putBits_60 ?_
        refine lv_i2b (v := (((f_a1p3 (p2 + (x6_2 / (8 : Int32))).toNatClampNeg) ||| ((((p3 >>> (x5p3 &&& 31)) &&& (1 : Int32)) <<< ((x6_2 - x6_2 / (8 : Int32) * (8 : Int32)) &&& 31)).toInt8.toInt32)).toInt8.toInt32)) hx hb kdX5_putBits_61 rfl ?_
        obtain ⟨g_5, h⟩ := kb_g_s h
        refine va_bast hx hb hK hP hD hS 1 0 rfl rfl (kb_in_v g_5) kdX5_putBits_62 (fun H locs hP hD hS => ?_)
        obtain ⟨f_6, ef_6⟩ : ∃ y, y = upd f_a1p3 (p2 + (x6_2 / (8 : Int32))).toNatClampNeg (vp_nar .byte (((f_a1p3 (p2 + (x6_2 / (8 : Int32))).toNatClampNeg) ||| ((((p3 >>> (x5p3 &&& 31)) &&& (1 : Int32)) <<< ((x6_2 - x6_2 / (8 : Int32) * (8 : Int32)) &&& 31)).toInt8.toInt32)).toInt8.toInt32)) := ⟨_, rfl⟩
        have h := kb_n_s ef_6 h
        have hP : va_P D kCl (kWX5_putBits cB cI cL cBB cII cSh h_this a_this h_a1 n_a1 this_taped this_code this_kind this_rate this_filled this_total this_bitAt this_k this_e1 this_du this_dv f_6) H := by rw [ef_6]; exact hP
        have hD : va_D A (kWX5_putBits cB cI cL cBB cII cSh h_this a_this h_a1 n_a1 this_taped this_code this_kind this_rate this_filled this_total this_bitAt this_k this_e1 this_du this_dv f_6) := by rw [ef_6]; exact hD
        obtain ⟨x5_7, ex5_7⟩ : ∃ y : Int32, y = x5p3 + Int32.ofInt 1 := ⟨_, rfl⟩
        have h := kb_n_s ex5_7 h
        refine lv_iinc (v := x5_7) (lv' := [(5, .int x5_7), (6, .int x6_2), (0, .ref h_this), (1, .ref h_a1), (2, .int p2), (3, .int p3), (4, .int p4)]) hx hb kdX5_putBits_63 hl (k := 6) rfl ex5_7.symm (by decide) rfl (fun ls hl => ?_)
        refine lv_goto (tgt := 3) hx hb kdX5_putBits_66 (by decide) ?_
        obtain rfl := Option.some.inj h
        exact ih x5_7 f_6 r ho _ _ _ hP hD hS (lv_sub hl [2, 3, 4, 5, 6, 0] rfl) hk0
      · have h := kb_b_t c_3 h
        refine lv_aload_n hx hb kdX5_putBits_27 rfl (lv_at hl 2 rfl) ?_
        refine lv_iload_n hx hb kdX5_putBits_28 rfl (lv_at hl 3 rfl) ?_
        refine lv_iload hx hb kdX5_putBits_29 (lv_at hl 0 rfl) ?_
        refine lv_bipush (v := 8) hx hb kdX5_putBits_31 (by decide) ?_
        refine lv_idiv hx hb kdX5_putBits_33 (by decide) ?_
        refine lv_iadd hx hb kdX5_putBits_34 ?_
        refine lv_iconst (v := 0) hx hb kdX5_putBits_35 (by decide) ?_
        obtain ⟨g_8, h⟩ := kb_g_s h
        refine va_bast hx hb hK hP hD hS 1 0 rfl rfl (kb_in_v g_8) kdX5_putBits_36 (fun H locs hP hD hS => ?_)
        obtain ⟨f_9, ef_9⟩ : ∃ y, y = upd f_a1p3 (p2 + (x6_2 / (8 : Int32))).toNatClampNeg (vp_nar .byte (0 : Int32)) := ⟨_, rfl⟩
        have h := kb_n_s ef_9 h
        have hP : va_P D kCl (kWX5_putBits cB cI cL cBB cII cSh h_this a_this h_a1 n_a1 this_taped this_code this_kind this_rate this_filled this_total this_bitAt this_k this_e1 this_du this_dv f_9) H := by rw [ef_9]; exact hP
        have hD : va_D A (kWX5_putBits cB cI cL cBB cII cSh h_this a_this h_a1 n_a1 this_taped this_code this_kind this_rate this_filled this_total this_bitAt this_k this_e1 this_du this_dv f_9) := by rw [ef_9]; exact hD
        refine lv_aload_n hx hb kdX5_putBits_37 rfl (lv_at hl 2 rfl) ?_
        refine lv_iload_n hx hb kdX5_putBits_38 rfl (lv_at hl 3 rfl) ?_
        refine lv_iload hx hb kdX5_putBits_39 (lv_at hl 0 rfl) ?_
        refine lv_bipush (v := 8) hx hb kdX5_putBits_41 (by decide) ?_
        refine lv_idiv hx hb kdX5_putBits_43 (by decide) ?_
        refine lv_iadd hx hb kdX5_putBits_44 ?_
        refine lv_dup2_11 hx hb kdX5_putBits_45 rfl rfl ?_
        obtain ⟨g_10, h⟩ := kb_g_s h
        refine va_bald hx hb hK hP 1 0 rfl rfl (kb_in_v g_10) kdX5_putBits_46 ?_
        refine lv_iload_n hx hb kdX5_putBits_47 rfl (lv_at hl 4 rfl) ?_
        refine lv_iload hx hb kdX5_putBits_48 (lv_at hl 6 rfl) ?_
        refine lv_ishr hx hb kdX5_putBits_50 ?_
        refine lv_iconst (v := 1) hx hb kdX5_putBits_51 (by decide) ?_
        refine lv_iand hx hb kdX5_putBits_52 ?_
        refine lv_iload hx hb kdX5_putBits_53 (lv_at hl 0 rfl) ?_
        refine lv_bipush (v := 8) hx hb kdX5_putBits_55 (by decide) ?_
        refine lv_irem hx hb kdX5_putBits_57 (by decide) ?_
        refine lv_ishl hx hb kdX5_putBits_58 ?_
        refine lv_i2b (v := ((((p3 >>> (x5p3 &&& 31)) &&& (1 : Int32)) <<< ((x6_2 - x6_2 / (8 : Int32) * (8 : Int32)) &&& 31)).toInt8.toInt32)) hx hb kdX5_putBits_59 rfl ?_
        refine lv_ior hx hb kdX5_putBits_60 ?_
        refine lv_i2b (v := (((f_9 (p2 + (x6_2 / (8 : Int32))).toNatClampNeg) ||| ((((p3 >>> (x5p3 &&& 31)) &&& (1 : Int32)) <<< ((x6_2 - x6_2 / (8 : Int32) * (8 : Int32)) &&& 31)).toInt8.toInt32)).toInt8.toInt32)) hx hb kdX5_putBits_61 rfl ?_
        obtain ⟨g_11, h⟩ := kb_g_s h
        refine va_bast hx hb hK hP hD hS 1 0 rfl rfl (kb_in_v g_11) kdX5_putBits_62 (fun H locs hP hD hS => ?_)
        obtain ⟨f_12, ef_12⟩ : ∃ y, y = upd f_9 (p2 + (x6_2 / (8 : Int32))).toNatClampNeg (vp_nar .byte (((f_9 (p2 + (x6_2 / (8 : Int32))).toNatClampNeg) ||| ((((p3 >>> (x5p3 &&& 31)) &&& (1 : Int32)) <<< ((x6_2 - x6_2 / (8 : Int32) * (8 : Int32)) &&& 31)).toInt8.toInt32)).toInt8.toInt32)) := ⟨_, rfl⟩
        have h := kb_n_s ef_12 h
        have hP : va_P D kCl (kWX5_putBits cB cI cL cBB cII cSh h_this a_this h_a1 n_a1 this_taped this_code this_kind this_rate this_filled this_total this_bitAt this_k this_e1 this_du this_dv f_12) H := by rw [ef_12]; exact hP
        have hD : va_D A (kWX5_putBits cB cI cL cBB cII cSh h_this a_this h_a1 n_a1 this_taped this_code this_kind this_rate this_filled this_total this_bitAt this_k this_e1 this_du this_dv f_12) := by rw [ef_12]; exact hD
        obtain ⟨x5_13, ex5_13⟩ : ∃ y : Int32, y = x5p3 + Int32.ofInt 1 := ⟨_, rfl⟩
        have h := kb_n_s ex5_13 h
        refine lv_iinc (v := x5_13) (lv' := [(5, .int x5_13), (6, .int x6_2), (0, .ref h_this), (1, .ref h_a1), (2, .int p2), (3, .int p3), (4, .int p4)]) hx hb kdX5_putBits_63 hl (k := 6) rfl ex5_13.symm (by decide) rfl (fun ls hl => ?_)
        refine lv_goto (tgt := 3) hx hb kdX5_putBits_66 (by decide) ?_
        obtain rfl := Option.some.inj h
        exact ih x5_13 f_12 r ho _ _ _ hP hD hS (lv_sub hl [2, 3, 4, 5, 6, 0] rfl) hk0
set_option maxHeartbeats 4000000 in
set_option maxRecDepth 100000 in
theorem kcX5_putBits (l : Launch) (D : va_G) (cB cI cL cBB cII cSh : ClassId) (h_this h_a1 : Nat) (a_this : Nat → Nat) (sz : Nat) (p2 : Int32) (p3 : Int32) (p4 : Int32) (n_a1 : Nat) (this_taped : Int32) (this_code : Int32) (this_kind : Int32) (this_rate : Int32) (this_filled : Int32) (this_total : Int64) (this_bitAt : Int32) (this_k : Int32) (this_e1 : Int32) (this_du : Int32) (this_dv : Int32) (f_a1 : Nat → Int32) (out : Int32 × (Nat → Int32)) (h : kFX5_putBits p2 p3 p4 n_a1 this_bitAt f_a1 = some out) : Met l kyX5_putBits kwX5_putBits krX5_putBits (kb_P D kCl (kb_T cB cI cL cBB cII cSh) [.ref h_this, .ref h_a1, .int p2, .int p3, .int p4] (kWX5_putBits cB cI cL cBB cII cSh h_this a_this h_a1 n_a1 this_taped this_code this_kind this_rate this_filled this_total this_bitAt this_k this_e1 this_du this_dv f_a1) sz) (kb_Q D kCl (kb_T cB cI cL cBB cII cSh) (va_A (kWX5_putBits cB cI cL cBB cII cSh h_this a_this h_a1 n_a1 this_taped this_code this_kind this_rate this_filled this_total this_bitAt this_k this_e1 this_du this_dv f_a1) sz) none (kWX5_putBits cB cI cL cBB cII cSh h_this a_this h_a1 n_a1 this_taped this_code this_kind this_rate this_filled this_total out.1 this_k this_e1 this_du this_dv out.2)) 0 0 (va_A (kWX5_putBits cB cI cL cBB cII cSh h_this a_this h_a1 n_a1 this_taped this_code this_kind this_rate this_filled this_total this_bitAt this_k this_e1 this_du this_dv f_a1) sz) := by
  refine Met.ofW (cc := prog_8_method_41_code) (maxL := 7) (ret := none) (by decide) rfl ?_
  intro p e s m args below meth c s₁ B hml hv
  obtain ⟨rfl, hsz, hP, hK, hN, hD0⟩ := hv
  have hx := B.exec
  have hb := B.bytes
  have hr := B.returns
  have hts0 := atoms_spec (ws := kwX5_putBits) B.pre
  have hts : ∀ w ∈ kwA, w.before _ s = true := fun w h => hts0 w (List.mem_cons_of_mem _ h)
  have hown : s.vm.findClass kRX5 = some m.cls := findClass_of_methodNamed B.named
  have hlocks := B.notSynchronized
  subst hsz
  have hD := hD0.self (sz := s.heap.size)
  generalize hAe : va_A (kWX5_putBits cB cI cL cBB cII cSh h_this a_this h_a1 n_a1 this_taped this_code this_kind this_rate this_filled this_total this_bitAt this_k this_e1 this_du this_dv f_a1) s.heap.size = A at hD ⊢
  have hA : ∀ q : Nat, s.heap.size ≤ q → A q := fun q h => by rw [← hAe]; exact Or.inr h
  have hS : va_S A s.heap s.heap [] := va_S.rf
  have C0 : CallFix p m c prog_8_method_41_code 7 s _ kwA kRX5 := ⟨hx, hb, hml, hown, hts⟩
  have hl := lv_entry ([.ref h_this, .ref h_a1, .int p2, .int p3, .int p4]) (n := 7) (Nat.le_of_ble_eq_true rfl)
  rw [lg_entry_eq]
  generalize (lg_sl ([.ref h_this, .ref h_a1, .int p2, .int p3, .int p4]) ++ List.replicate (7 - (lg_sl ([.ref h_this, .ref h_a1, .int p2, .int p3, .int p4])).length) Slot.unset).toArray = ls at hl ⊢
  have hl : lv_has ls 7 [(0, .ref h_this), (1, .ref h_a1), (2, .int p2), (3, .int p3), (4, .int p4)] := hl
  unfold kFX5_putBits at h
  refine lv_iconst (v := 0) hx hb kdX5_putBits_0 (by decide) ?_
  refine lv_istore (lv' := [(5, .int (0 : Int32)), (0, .ref h_this), (1, .ref h_a1), (2, .int p2), (3, .int p3), (4, .int p4)]) hx hb kdX5_putBits_1 hl (by decide) rfl (fun ls hl => ?_)
  obtain ⟨r_17, hr_17, h⟩ := kb_o_s h
  refine klX5_putBits_3 C0 hlocks hK hN hA (by decide) (by decide) h_this h_a1 a_this p2 p3 p4 n_a1 this_taped this_code this_kind this_rate this_filled this_total this_bitAt this_k this_e1 this_du this_dv 100000 (0 : Int32) f_a1 r_17 hr_17 _ _ _ hP hD hS (lv_sub hl [1, 2, 3, 4, 5, 0] rfl) (fun x5p3_14 f_a1p3_15 er_17 H locs ls hP hD hS hl => ?_)
  subst er_17
  refine lv_aload_n hx hb kdX5_putBits_69 rfl (lv_at hl 0 rfl) ?_
  refine lv_dup hx hb kdX5_putBits_70 rfl ?_
  refine va_get (ci := 5) (v := .int this_bitAt) (C := kRX5) (T := kTX5) (N := 35) hx hb hts kinX5 hown hK hP 0 rfl rfl 22 (by decide) (hts _ km_703) (fun _ h9 => h9) rfl kdX5_putBits_71 ?_
  refine lv_iload hx hb kdX5_putBits_74 (lv_at hl 4 rfl) ?_
  refine lv_iadd hx hb kdX5_putBits_76 ?_
  refine lv_topi (fun w_16 ew_16 => ?_)
  have h := kb_n_s ew_16 h
  refine va_put (ci := 5) (v := .int w_16) (C := kRX5) (T := kTX5) (N := 35) hx hb hts kinX5 ktyX5 ktyX5_ok knX5 hown hK hP hD hS 0 rfl rfl 22 (by decide) (hts _ km_703) (fun _ h9 => h9) rfl (ktyX5_ok 22 (by decide)) rfl rfl (Nat.le_of_ble_eq_true rfl) kdX5_putBits_77 (fun H locs hP hD hS => ?_)
  have hP : va_P D kCl (kWX5_putBits cB cI cL cBB cII cSh h_this a_this h_a1 n_a1 this_taped this_code this_kind this_rate this_filled this_total w_16 this_k this_e1 this_du this_dv f_a1p3_15) H := hP
  have hD : va_D A (kWX5_putBits cB cI cL cBB cII cSh h_this a_this h_a1 n_a1 this_taped this_code this_kind this_rate this_filled this_total w_16 this_k this_e1 this_du this_dv f_a1p3_15) := hD
  obtain rfl := Option.some.inj h
  exact W.vret hx hb hr (fun t ht hW => ⟨⟨rfl, by rw [ht]; exact hP, va_K.moved hW.alike hK, hD⟩, hS.F ht⟩) hS.2.2 kdX5_putBits_80

-- 439.ModuleKemModel.takeBits.lean.txt
abbrev kWX5_takeBits (cB cI cL cBB cII cSh : ClassId) (h_this : Nat) (a_this : Nat → Nat) (h_a1 : Nat) (n_a1 : Nat) (this_taped : Int32) (this_code : Int32) (this_kind : Int32) (this_rate : Int32) (this_filled : Int32) (this_total : Int64) (this_bitAt : Int32) (this_k : Int32) (this_e1 : Int32) (this_du : Int32) (this_dv : Int32) (f_a1 : Nat → Int32) : va_W := [(h_this, koX5 a_this this_taped this_code this_kind this_rate this_filled this_total this_bitAt this_k this_e1 this_du this_dv), (h_a1, .inl (cB, n_a1, .inl f_a1))]
def krX5_takeBits : Room := { frames := 1, cells := 0, slots := 0, locals := 22 }
set_option maxHeartbeats 4000000 in
set_option maxRecDepth 100000 in
theorem klX5_takeBits_6 {p : Program} {l : Launch} {e : Env} {s : State} {m : MethodId} {args : Array Value} {below : List Frame} {meth : Method} {c : Code} {cells slots : Nat} {Q : State → Prop} {D : va_G} {cB cI cL cBB cII cSh : ClassId} {A : Nat → Prop} (C0 : CallFix p m c prog_8_method_42_code 6 s args kwA kRX5) (hlocks : meth.locks = false) (hK : va_K D kCl (kb_T cB cI cL cBB cII cSh) s) (hN : kb_N s) (hA : ∀ q, s.heap.size ≤ q → A q) (hcR : cells ≤ krX5_takeBits.cells) (hsR : slots ≤ krX5_takeBits.slots) (h_this h_a1 : Nat) (a_this : Nat → Nat) (p2 : Int32) (p3 : Int32) (n_a1 : Nat) (this_taped : Int32) (this_code : Int32) (this_kind : Int32) (this_rate : Int32) (this_filled : Int32) (this_total : Int64) (this_bitAt : Int32) (this_k : Int32) (this_e1 : Int32) (this_du : Int32) (this_dv : Int32) (f_a1 : Nat → Int32) :
    ∀ (fuel : Nat) (x4p6 : Int32) (x5p6 : Int32) (r : Int32 × Int32), kb_w (fun u : Int32 × Int32 => kSX5_takeBits_6 p2 p3 n_a1 this_bitAt f_a1 u.1 u.2) fuel (x4p6, x5p6) = some r → ∀ (H : Heap) (locs : List Loc) (ls : Array Slot), va_P D kCl (kWX5_takeBits cB cI cL cBB cII cSh h_this a_this h_a1 n_a1 this_taped this_code this_kind this_rate this_filled this_total this_bitAt this_k this_e1 this_du this_dv f_a1) H → va_D A (kWX5_takeBits cB cI cL cBB cII cSh h_this a_this h_a1 n_a1 this_taped this_code this_kind this_rate this_filled this_total this_bitAt this_k this_e1 this_du this_dv f_a1) → va_S A s.heap H locs → lv_has ls 6 [(0, .ref h_this), (1, .ref h_a1), (2, .int p2), (3, .int p3), (4, .int x4p6), (5, .int x5p6)] → (∀ (x4p6' : Int32) (x5p6' : Int32), r = (x4p6', x5p6') → ∀ (H : Heap) (locs : List Loc) (ls : Array Slot), va_P D kCl (kWX5_takeBits cB cI cL cBB cII cSh h_this a_this h_a1 n_a1 this_taped this_code this_kind this_rate this_filled this_total this_bitAt this_k this_e1 this_du this_dv f_a1) H → va_D A (kWX5_takeBits cB cI cL cBB cII cSh h_this a_this h_a1 n_a1 this_taped this_code this_kind this_rate this_filled this_total this_bitAt this_k this_e1 this_du this_dv f_a1) → va_S A s.heap H locs → lv_has ls 6 [(0, .ref h_this), (1, .ref h_a1), (2, .int p2), (3, .int p3), (4, .int x4p6'), (5, .int x5p6')] → W p l e krX5_takeBits s m args below meth c H locs cells slots Q (F0 m 38 ls [])) → W p l e krX5_takeBits s m args below meth c H locs cells slots Q (F0 m 6 ls []) := by
  obtain ⟨hx, hb, hml, hown, hts⟩ := id C0
  intro fuel
  induction fuel with
  | zero =>
    intro x4p6 x5p6 r h
    exact absurd h (kb_w_z _ _ _)
  | succ fuel ih =>
    intro x4p6 x5p6 r h H locs ls hP hD hS hl hk0
    obtain ⟨o, h, ho⟩ := kb_w_s h
    have h : kSX5_takeBits_6 p2 p3 n_a1 this_bitAt f_a1 x4p6 x5p6 = some o := h
    unfold kSX5_takeBits_6 at h
    refine lv_iload hx hb kdX5_takeBits_6 (lv_at hl 5 rfl) ?_
    refine lv_iload_n hx hb kdX5_takeBits_8 rfl (lv_at hl 3 rfl) ?_
    refine lv_icmp_ge (tgt := 38) hx hb kdX5_takeBits_9 (by decide) (fun c_1 => ?_) (fun c_1 => ?_)
    · have h := kb_b_t c_1 h
      obtain rfl := Option.some.inj h
      exact hk0 x4p6 x5p6 ho.symm _ _ _ hP hD hS (lv_sub hl [0, 1, 2, 3, 4, 5] rfl)
    · have h := kb_b_f c_1 h
      refine lv_iload hx hb kdX5_takeBits_12 (lv_at hl 4 rfl) ?_
      refine lv_aload_n hx hb kdX5_takeBits_14 rfl (lv_at hl 1 rfl) ?_
      refine lv_iload_n hx hb kdX5_takeBits_15 rfl (lv_at hl 2 rfl) ?_
      refine lv_aload_n hx hb kdX5_takeBits_16 rfl (lv_at hl 0 rfl) ?_
      refine va_get (ci := 5) (v := .int this_bitAt) (C := kRX5) (T := kTX5) (N := 35) hx hb hts kinX5 hown hK hP 0 rfl rfl 22 (by decide) (hts _ km_703) (fun _ h9 => h9) rfl kdX5_takeBits_17 ?_
      refine lv_iload hx hb kdX5_takeBits_20 (lv_at hl 5 rfl) ?_
      refine lv_iadd hx hb kdX5_takeBits_22 ?_
      obtain ⟨u_3, hu_3, h⟩ := kb_o_s h
      obtain ⟨r_2, rfl⟩ : ∃ z, z = u_3 := ⟨_, rfl⟩
      have hC := (show ([1] : List Nat).map (fun i : Nat => (kWX5_takeBits cB cI cL cBB cII cSh h_this a_this h_a1 n_a1 this_taped this_code this_kind this_rate this_filled this_total this_bitAt this_k this_e1 this_du this_dv f_a1)[i]?) = List.map some (kWX5_bitOf cB cI cL cBB cII cSh h_a1 n_a1 f_a1) from rfl)
      have hPc := kb_Psub hP ([1] : List Nat) hC
      have hDc := kb_Dsub hD ([1] : List Nat) hC (by simp [kb_nd])
      refine kb_call0 (va_runS (As := [.ref h_a1, .int p2, .int (this_bitAt + x5p6)]) (rest := [.int x4p6]) C0 (kcX5_bitOf l D cB cI cL cBB cII cSh h_a1 _ p2 (this_bitAt + x5p6) n_a1 f_a1 r_2 hu_3) (va_cwS 3 hts (kb_gS km_858 km_859 km_6 km_860) rfl rfl rfl (by decide +kernel) ⟨Nat.le_of_ble_eq_true rfl, Nat.le_of_ble_eq_true rfl⟩) ⟨kb_P_bl, (fun U hU hW => ⟨rfl, by rw [hU], by rw [hU]; exact hPc, va_K.moved hW.alike hK, kb_N_to hW hN, hDc.weaken (fun _ _ _ _ => trivial)⟩)⟩ rfl rfl hl.1 rfl (lv_room (Nat.le_of_ble_eq_true rfl)) kdX5_takeBits_23 ⟨hcR, hsR⟩) hP hD hS hA ([1] : List Nat) hC rfl (fun H locs hP hD hS => ?_)
      have hP : va_P D kCl (kWX5_takeBits cB cI cL cBB cII cSh h_this a_this h_a1 n_a1 this_taped this_code this_kind this_rate this_filled this_total this_bitAt this_k this_e1 this_du this_dv f_a1) H := hP
      have hD : va_D A (kWX5_takeBits cB cI cL cBB cII cSh h_this a_this h_a1 n_a1 this_taped this_code this_kind this_rate this_filled this_total this_bitAt this_k this_e1 this_du this_dv f_a1) := hD
      refine lv_iload hx hb kdX5_takeBits_26 (lv_at hl 5 rfl) ?_
      refine lv_ishl hx hb kdX5_takeBits_28 ?_
      refine lv_ior hx hb kdX5_takeBits_29 ?_
      refine lv_topi (fun x4_4 ex4_4 => ?_)
      have h := kb_n_s ex4_4 h
      refine lv_istore (lv' := [(4, .int x4_4), (0, .ref h_this), (1, .ref h_a1), (2, .int p2), (3, .int p3), (5, .int x5p6)]) hx hb kdX5_takeBits_30 hl (by decide) rfl (fun ls hl => ?_)
      obtain ⟨x5_5, ex5_5⟩ : ∃ y : Int32, y = x5p6 + Int32.ofInt 1 := ⟨_, rfl⟩
      have h := kb_n_s ex5_5 h
      refine lv_iinc (v := x5_5) (lv' := [(5, .int x5_5), (4, .int x4_4), (0, .ref h_this), (1, .ref h_a1), (2, .int p2), (3, .int p3)]) hx hb kdX5_takeBits_32 hl (k := 5) rfl ex5_5.symm (by decide) rfl (fun ls hl => ?_)
      refine lv_goto (tgt := 6) hx hb kdX5_takeBits_35 (by decide) ?_
      obtain rfl := Option.some.inj h
      exact ih x4_4 x5_5 r ho _ _ _ hP hD hS (lv_sub hl [2, 3, 4, 5, 1, 0] rfl) hk0
set_option maxHeartbeats 4000000 in
set_option maxRecDepth 100000 in
theorem kcX5_takeBits (l : Launch) (D : va_G) (cB cI cL cBB cII cSh : ClassId) (h_this h_a1 : Nat) (a_this : Nat → Nat) (sz : Nat) (p2 : Int32) (p3 : Int32) (n_a1 : Nat) (this_taped : Int32) (this_code : Int32) (this_kind : Int32) (this_rate : Int32) (this_filled : Int32) (this_total : Int64) (this_bitAt : Int32) (this_k : Int32) (this_e1 : Int32) (this_du : Int32) (this_dv : Int32) (f_a1 : Nat → Int32) (out : Int32 × Int32) (h : kFX5_takeBits p2 p3 n_a1 this_bitAt f_a1 = some out) : Met l kyX5_takeBits kwX5_takeBits krX5_takeBits (kb_P D kCl (kb_T cB cI cL cBB cII cSh) [.ref h_this, .ref h_a1, .int p2, .int p3] (kWX5_takeBits cB cI cL cBB cII cSh h_this a_this h_a1 n_a1 this_taped this_code this_kind this_rate this_filled this_total this_bitAt this_k this_e1 this_du this_dv f_a1) sz) (kb_Q D kCl (kb_T cB cI cL cBB cII cSh) (va_A (kWX5_takeBits cB cI cL cBB cII cSh h_this a_this h_a1 n_a1 this_taped this_code this_kind this_rate this_filled this_total this_bitAt this_k this_e1 this_du this_dv f_a1) sz) (some (.int out.1)) (kWX5_takeBits cB cI cL cBB cII cSh h_this a_this h_a1 n_a1 this_taped this_code this_kind this_rate this_filled this_total out.2 this_k this_e1 this_du this_dv f_a1)) 0 0 (va_A (kWX5_takeBits cB cI cL cBB cII cSh h_this a_this h_a1 n_a1 this_taped this_code this_kind this_rate this_filled this_total this_bitAt this_k this_e1 this_du this_dv f_a1) sz) := by
  refine Met.ofW (cc := prog_8_method_42_code) (maxL := 6) (ret := (some .int)) (by decide) rfl ?_
  intro p e s m args below meth c s₁ B hml hv
  obtain ⟨rfl, hsz, hP, hK, hN, hD0⟩ := hv
  have hx := B.exec
  have hb := B.bytes
  have hr := B.returns
  have hts0 := atoms_spec (ws := kwX5_takeBits) B.pre
  have hts : ∀ w ∈ kwA, w.before _ s = true := fun w h => hts0 w (List.mem_cons_of_mem _ h)
  have hown : s.vm.findClass kRX5 = some m.cls := findClass_of_methodNamed B.named
  have hlocks := B.notSynchronized
  subst hsz
  have hD := hD0.self (sz := s.heap.size)
  generalize hAe : va_A (kWX5_takeBits cB cI cL cBB cII cSh h_this a_this h_a1 n_a1 this_taped this_code this_kind this_rate this_filled this_total this_bitAt this_k this_e1 this_du this_dv f_a1) s.heap.size = A at hD ⊢
  have hA : ∀ q : Nat, s.heap.size ≤ q → A q := fun q h => by rw [← hAe]; exact Or.inr h
  have hS : va_S A s.heap s.heap [] := va_S.rf
  have C0 : CallFix p m c prog_8_method_42_code 6 s _ kwA kRX5 := ⟨hx, hb, hml, hown, hts⟩
  have hl := lv_entry ([.ref h_this, .ref h_a1, .int p2, .int p3]) (n := 6) (Nat.le_of_ble_eq_true rfl)
  rw [lg_entry_eq]
  generalize (lg_sl ([.ref h_this, .ref h_a1, .int p2, .int p3]) ++ List.replicate (6 - (lg_sl ([.ref h_this, .ref h_a1, .int p2, .int p3])).length) Slot.unset).toArray = ls at hl ⊢
  have hl : lv_has ls 6 [(0, .ref h_this), (1, .ref h_a1), (2, .int p2), (3, .int p3)] := hl
  unfold kFX5_takeBits at h
  refine lv_iconst (v := 0) hx hb kdX5_takeBits_0 (by decide) ?_
  refine lv_istore (lv' := [(4, .int (0 : Int32)), (0, .ref h_this), (1, .ref h_a1), (2, .int p2), (3, .int p3)]) hx hb kdX5_takeBits_1 hl (by decide) rfl (fun ls hl => ?_)
  refine lv_iconst (v := 0) hx hb kdX5_takeBits_3 (by decide) ?_
  refine lv_istore (lv' := [(5, .int (0 : Int32)), (4, .int (0 : Int32)), (0, .ref h_this), (1, .ref h_a1), (2, .int p2), (3, .int p3)]) hx hb kdX5_takeBits_4 hl (by decide) rfl (fun ls hl => ?_)
  obtain ⟨r_9, hr_9, h⟩ := kb_o_s h
  refine klX5_takeBits_6 C0 hlocks hK hN hA (by decide) (by decide) h_this h_a1 a_this p2 p3 n_a1 this_taped this_code this_kind this_rate this_filled this_total this_bitAt this_k this_e1 this_du this_dv f_a1 100000 (0 : Int32) (0 : Int32) r_9 hr_9 _ _ _ hP hD hS (lv_sub hl [2, 3, 4, 5, 1, 0] rfl) (fun x4p6_6 x5p6_7 er_9 H locs ls hP hD hS hl => ?_)
  subst er_9
  refine lv_aload_n hx hb kdX5_takeBits_38 rfl (lv_at hl 0 rfl) ?_
  refine lv_dup hx hb kdX5_takeBits_39 rfl ?_
  refine va_get (ci := 5) (v := .int this_bitAt) (C := kRX5) (T := kTX5) (N := 35) hx hb hts kinX5 hown hK hP 0 rfl rfl 22 (by decide) (hts _ km_703) (fun _ h9 => h9) rfl kdX5_takeBits_40 ?_
  refine lv_iload_n hx hb kdX5_takeBits_43 rfl (lv_at hl 3 rfl) ?_
  refine lv_iadd hx hb kdX5_takeBits_44 ?_
  refine lv_topi (fun w_8 ew_8 => ?_)
  have h := kb_n_s ew_8 h
  refine va_put (ci := 5) (v := .int w_8) (C := kRX5) (T := kTX5) (N := 35) hx hb hts kinX5 ktyX5 ktyX5_ok knX5 hown hK hP hD hS 0 rfl rfl 22 (by decide) (hts _ km_703) (fun _ h9 => h9) rfl (ktyX5_ok 22 (by decide)) rfl rfl (Nat.le_of_ble_eq_true rfl) kdX5_takeBits_45 (fun H locs hP hD hS => ?_)
  have hP : va_P D kCl (kWX5_takeBits cB cI cL cBB cII cSh h_this a_this h_a1 n_a1 this_taped this_code this_kind this_rate this_filled this_total w_8 this_k this_e1 this_du this_dv f_a1) H := hP
  have hD : va_D A (kWX5_takeBits cB cI cL cBB cII cSh h_this a_this h_a1 n_a1 this_taped this_code this_kind this_rate this_filled this_total w_8 this_k this_e1 this_du this_dv f_a1) := hD
  refine lv_iload hx hb kdX5_takeBits_48 (lv_at hl 4 rfl) ?_
  obtain rfl := Option.some.inj h
  exact W.iret (v := x4p6_6) hx hb hr (fun t ht hW => ⟨⟨rfl, by rw [ht]; exact hP, va_K.moved hW.alike hK, hD⟩, hS.F ht⟩) hS.2.2 kdX5_takeBits_50

-- 440.ModuleKemModel.kem.lean.txt
abbrev kWX5_kem (cB cI cL cBB cII cSh : ClassId) (h_this : Nat) (a_this : Nat → Nat) (this_taped : Int32) (this_code : Int32) (this_kind : Int32) (this_rate : Int32) (this_filled : Int32) (this_total : Int64) (this_bitAt : Int32) (this_k : Int32) (this_e1 : Int32) (this_du : Int32) (this_dv : Int32) (f_this_points : Nat → Int32) : va_W := [(h_this, koX5 a_this this_taped this_code this_kind this_rate this_filled this_total this_bitAt this_k this_e1 this_du this_dv), ((a_this 24), .inl (cI, 256, .inl f_this_points))]
def krX5_kem : Room := { frames := 0, cells := 0, slots := 0, locals := 0 }
set_option maxHeartbeats 4000000 in
set_option maxRecDepth 100000 in
theorem klX5_kem_59 {p : Program} {l : Launch} {e : Env} {s : State} {m : MethodId} {args : Array Value} {below : List Frame} {meth : Method} {c : Code} {cells slots : Nat} {Q : State → Prop} {D : va_G} {cB cI cL cBB cII cSh : ClassId} {A : Nat → Prop} (C0 : CallFix p m c prog_8_method_43_code 3 s args kwA kRX5) (hlocks : meth.locks = false) (hK : va_K D kCl (kb_T cB cI cL cBB cII cSh) s) (hN : kb_N s) (hA : ∀ q, s.heap.size ≤ q → A q) (hcR : cells ≤ krX5_kem.cells) (hsR : slots ≤ krX5_kem.slots) (h_this : Nat) (a_this : Nat → Nat) (this_taped : Int32) (this_code : Int32) (this_kind : Int32) (this_rate : Int32) (this_filled : Int32) (this_total : Int64) (this_bitAt : Int32) (this_kj47 : Int32) (this_e1j47 : Int32) (this_duj47 : Int32) (y0j47 : Int32) :
    ∀ (fuel : Nat) (x2p59 : Int32) (f_this_pointsp59 : Nat → Int32) (r : Int32 × (Nat → Int32)), kb_w (fun u : Int32 × (Nat → Int32) => kSX5_kem_59 u.1 u.2) fuel (x2p59, f_this_pointsp59) = some r → ∀ (H : Heap) (locs : List Loc) (ls : Array Slot), va_P D kCl (kWX5_kem cB cI cL cBB cII cSh h_this a_this this_taped this_code this_kind this_rate this_filled this_total this_bitAt this_kj47 this_e1j47 this_duj47 y0j47 f_this_pointsp59) H → va_D A (kWX5_kem cB cI cL cBB cII cSh h_this a_this this_taped this_code this_kind this_rate this_filled this_total this_bitAt this_kj47 this_e1j47 this_duj47 y0j47 f_this_pointsp59) → va_S A s.heap H locs → lv_has ls 3 [(0, .ref h_this), (2, .int x2p59)] → (∀ (x2p59' : Int32) (f_this_pointsp59' : Nat → Int32), r = (x2p59', f_this_pointsp59') → ∀ (H : Heap) (locs : List Loc) (ls : Array Slot), va_P D kCl (kWX5_kem cB cI cL cBB cII cSh h_this a_this this_taped this_code this_kind this_rate this_filled this_total this_bitAt this_kj47 this_e1j47 this_duj47 y0j47 f_this_pointsp59') H → va_D A (kWX5_kem cB cI cL cBB cII cSh h_this a_this this_taped this_code this_kind this_rate this_filled this_total this_bitAt this_kj47 this_e1j47 this_duj47 y0j47 f_this_pointsp59') → va_S A s.heap H locs → lv_has ls 3 [(0, .ref h_this), (2, .int x2p59')] → W p l e krX5_kem s m args below meth c H locs cells slots Q (F0 m 93 ls [])) → W p l e krX5_kem s m args below meth c H locs cells slots Q (F0 m 59 ls []) := by
  obtain ⟨hx, hb, hml, hown, hts⟩ := id C0
  intro fuel
  induction fuel with
  | zero =>
    intro x2p59 f_this_pointsp59 r h
    exact absurd h (kb_w_z _ _ _)
  | succ fuel ih =>
    intro x2p59 f_this_pointsp59 r h H locs ls hP hD hS hl hk0
    obtain ⟨o, h, ho⟩ := kb_w_s h
    have h : kSX5_kem_59 x2p59 f_this_pointsp59 = some o := h
    unfold kSX5_kem_59 at h
    refine lv_iload_n hx hb kdX5_kem_59 rfl (lv_at hl 1 rfl) ?_
    refine lv_sipush (v := 256) hx hb kdX5_kem_60 (by decide) ?_
    refine lv_icmp_ge (tgt := 93) hx hb kdX5_kem_63 (by decide) (fun c_6 => ?_) (fun c_6 => ?_)
    · have h := kb_b_t c_6 h
      obtain rfl := Option.some.inj h
      exact hk0 x2p59 f_this_pointsp59 ho.symm _ _ _ hP hD hS (lv_sub hl [0, 1] rfl)
    · have h := kb_b_f c_6 h
      refine lv_aload_n hx hb kdX5_kem_66 rfl (lv_at hl 0 rfl) ?_
      refine va_get (ci := 5) (v := .ref (a_this 24)) (C := kRX5) (T := kTX5) (N := 35) hx hb hts kinX5 hown hK hP 0 rfl rfl 24 (by decide) (hts _ km_705) (fun _ h9 => h9) rfl kdX5_kem_67 ?_
      refine lv_iload_n hx hb kdX5_kem_70 rfl (lv_at hl 1 rfl) ?_
      refine lv_aload_n hx hb kdX5_kem_71 rfl (lv_at hl 0 rfl) ?_
      refine va_get (ci := 5) (v := .ref (a_this 24)) (C := kRX5) (T := kTX5) (N := 35) hx hb hts kinX5 hown hK hP 0 rfl rfl 24 (by decide) (hts _ km_705) (fun _ h9 => h9) rfl kdX5_kem_72 ?_
      refine lv_iload_n hx hb kdX5_kem_75 rfl (lv_at hl 1 rfl) ?_
      refine lv_iconst (v := 1) hx hb kdX5_kem_76 (by decide) ?_
      refine lv_isub hx hb kdX5_kem_77 ?_
      obtain ⟨g_7, h⟩ := kb_g_s h
      refine va_iald hx hb hK hP 1 1 rfl rfl (kb_in_v g_7) kdX5_kem_78 ?_
      refine lv_bipush (v := 17) hx hb kdX5_kem_79 (by decide) ?_
      refine lv_imul hx hb kdX5_kem_81 ?_
      refine lv_sipush (v := 3329) hx hb kdX5_kem_82 (by decide) ?_
      refine lv_irem hx hb kdX5_kem_85 (by decide) ?_
      refine lv_topi (fun q_8 eq_8 => ?_)
      have h := kb_n_s eq_8 h
      obtain ⟨g_9, h⟩ := kb_g_s h
      refine va_iast hx hb hK hP hD hS 1 1 rfl rfl (kb_in_v g_9) kdX5_kem_86 (fun H locs hP hD hS => ?_)
      obtain ⟨f_10, ef_10⟩ : ∃ y, y = upd f_this_pointsp59 x2p59.toNatClampNeg q_8 := ⟨_, rfl⟩
      have h := kb_n_s ef_10 h
      have hP : va_P D kCl (kWX5_kem cB cI cL cBB cII cSh h_this a_this this_taped this_code this_kind this_rate this_filled this_total this_bitAt this_kj47 this_e1j47 this_duj47 y0j47 f_10) H := by rw [ef_10]; exact hP
      have hD : va_D A (kWX5_kem cB cI cL cBB cII cSh h_this a_this this_taped this_code this_kind this_rate this_filled this_total this_bitAt this_kj47 this_e1j47 this_duj47 y0j47 f_10) := by rw [ef_10]; exact hD
      obtain ⟨x2_11, ex2_11⟩ : ∃ y : Int32, y = x2p59 + Int32.ofInt 1 := ⟨_, rfl⟩
      have h := kb_n_s ex2_11 h
      refine lv_iinc (v := x2_11) (lv' := [(2, .int x2_11), (0, .ref h_this)]) hx hb kdX5_kem_87 hl (k := 1) rfl ex2_11.symm (by decide) rfl (fun ls hl => ?_)
      refine lv_goto (tgt := 59) hx hb kdX5_kem_90 (by decide) ?_
      obtain rfl := Option.some.inj h
      exact ih x2_11 f_10 r ho _ _ _ hP hD hS (lv_sub hl [1, 0] rfl) hk0
set_option maxHeartbeats 4000000 in
set_option maxRecDepth 100000 in
theorem kjX5_kem_47 {p : Program} {l : Launch} {e : Env} {s : State} {m : MethodId} {args : Array Value} {below : List Frame} {meth : Method} {c : Code} {D : va_G} {cB cI cL cBB cII cSh : ClassId} {A : Nat → Prop} (C0 : CallFix p m c prog_8_method_43_code 3 s args kwA kRX5) (hlocks : meth.locks = false) (hr : meth.sig.returnType = none) (hK : va_K D kCl (kb_T cB cI cL cBB cII cSh) s) (hN : kb_N s) (hA : ∀ q, s.heap.size ≤ q → A q) (h_this : Nat) (a_this : Nat → Nat) (this_taped : Int32) (this_code : Int32) (this_kind : Int32) (this_rate : Int32) (this_filled : Int32) (this_total : Int64) (this_bitAt : Int32) (this_kj47 : Int32) (this_e1j47 : Int32) (this_duj47 : Int32) (this_dvj47 : Int32) (f_this_pointsj47 : Nat → Int32) (y0j47 : Int32) (out : Int32 × Int32 × Int32 × Int32 × (Nat → Int32)) (h : kJX5_kem_47 this_kj47 this_e1j47 this_duj47 f_this_pointsj47 y0j47 = some out) (H : Heap) (locs : List Loc) (ls : Array Slot) (hP : va_P D kCl (kWX5_kem cB cI cL cBB cII cSh h_this a_this this_taped this_code this_kind this_rate this_filled this_total this_bitAt this_kj47 this_e1j47 this_duj47 this_dvj47 f_this_pointsj47) H) (hD : va_D A (kWX5_kem cB cI cL cBB cII cSh h_this a_this this_taped this_code this_kind this_rate this_filled this_total this_bitAt this_kj47 this_e1j47 this_duj47 this_dvj47 f_this_pointsj47)) (hS : va_S A s.heap H locs) (hl : lv_has ls 3 [(0, .ref h_this)]) : W p l e krX5_kem s m args below meth c H locs 0 0 (MQ below (kb_Q D kCl (kb_T cB cI cL cBB cII cSh) A none (kWX5_kem cB cI cL cBB cII cSh h_this a_this this_taped this_code this_kind this_rate this_filled this_total this_bitAt out.2.2.2.1 out.2.2.1 out.1 out.2.1 out.2.2.2.2)) args s 0 0 A) (F0 m 47 ls [.int y0j47, .ref h_this]) := by
  obtain ⟨hx, hb, hml, hown, hts⟩ := id C0
  unfold kJX5_kem_47 at h
  refine va_put (ci := 5) (v := .int y0j47) (C := kRX5) (T := kTX5) (N := 35) hx hb hts kinX5 ktyX5 ktyX5_ok knX5 hown hK hP hD hS 0 rfl rfl 33 (by decide) (hts _ km_714) (fun _ h9 => h9) rfl (ktyX5_ok 33 (by decide)) rfl rfl (Nat.le_of_ble_eq_true rfl) kdX5_kem_47 (fun H locs hP hD hS => ?_)
  have hP : va_P D kCl (kWX5_kem cB cI cL cBB cII cSh h_this a_this this_taped this_code this_kind this_rate this_filled this_total this_bitAt this_kj47 this_e1j47 this_duj47 y0j47 f_this_pointsj47) H := hP
  have hD : va_D A (kWX5_kem cB cI cL cBB cII cSh h_this a_this this_taped this_code this_kind this_rate this_filled this_total this_bitAt this_kj47 this_e1j47 this_duj47 y0j47 f_this_pointsj47) := hD
  refine lv_aload_n hx hb kdX5_kem_50 rfl (lv_at hl 0 rfl) ?_
  refine va_get (ci := 5) (v := .ref (a_this 24)) (C := kRX5) (T := kTX5) (N := 35) hx hb hts kinX5 hown hK hP 0 rfl rfl 24 (by decide) (hts _ km_705) (fun _ h9 => h9) rfl kdX5_kem_51 ?_
  refine lv_iconst (v := 0) hx hb kdX5_kem_54 (by decide) ?_
  refine lv_iconst (v := 1) hx hb kdX5_kem_55 (by decide) ?_
  refine va_iast hx hb hK hP hD hS 1 1 rfl rfl (kb_in_v (by decide)) kdX5_kem_56 (fun H locs hP hD hS => ?_)
  obtain ⟨f_5, ef_5⟩ : ∃ y, y = upd f_this_pointsj47 (0 : Int32).toNatClampNeg (1 : Int32) := ⟨_, rfl⟩
  have h := kb_n_s ef_5 h
  have hP : va_P D kCl (kWX5_kem cB cI cL cBB cII cSh h_this a_this this_taped this_code this_kind this_rate this_filled this_total this_bitAt this_kj47 this_e1j47 this_duj47 y0j47 f_5) H := by rw [ef_5]; exact hP
  have hD : va_D A (kWX5_kem cB cI cL cBB cII cSh h_this a_this this_taped this_code this_kind this_rate this_filled this_total this_bitAt this_kj47 this_e1j47 this_duj47 y0j47 f_5) := by rw [ef_5]; exact hD
  refine lv_iconst (v := 1) hx hb kdX5_kem_57 (by decide) ?_
  refine lv_istore_n (lv' := [(2, .int (1 : Int32)), (0, .ref h_this)]) hx hb kdX5_kem_58 rfl hl (by decide) rfl (fun ls hl => ?_)
  obtain ⟨r_14, hr_14, h⟩ := kb_o_s h
  refine klX5_kem_59 C0 hlocks hK hN hA (by decide) (by decide) h_this a_this this_taped this_code this_kind this_rate this_filled this_total this_bitAt this_kj47 this_e1j47 this_duj47 y0j47 100000 (1 : Int32) f_5 r_14 hr_14 _ _ _ hP hD hS (lv_sub hl [1, 0] rfl) (fun x2p59_12 f_this_pointsp59_13 er_14 H locs ls hP hD hS hl => ?_)
  subst er_14
  obtain rfl := Option.some.inj h
  exact W.vret hx hb hr (fun t ht hW => ⟨⟨rfl, by rw [ht]; exact hP, va_K.moved hW.alike hK, hD⟩, hS.F ht⟩) hS.2.2 kdX5_kem_93
set_option maxHeartbeats 4000000 in
set_option maxRecDepth 100000 in
theorem kjX5_kem_33 {p : Program} {l : Launch} {e : Env} {s : State} {m : MethodId} {args : Array Value} {below : List Frame} {meth : Method} {c : Code} {D : va_G} {cB cI cL cBB cII cSh : ClassId} {A : Nat → Prop} (C0 : CallFix p m c prog_8_method_43_code 3 s args kwA kRX5) (hlocks : meth.locks = false) (hr : meth.sig.returnType = none) (hK : va_K D kCl (kb_T cB cI cL cBB cII cSh) s) (hN : kb_N s) (hA : ∀ q, s.heap.size ≤ q → A q) (h_this : Nat) (a_this : Nat → Nat) (x1j33 : Int32) (this_taped : Int32) (this_code : Int32) (this_kind : Int32) (this_rate : Int32) (this_filled : Int32) (this_total : Int64) (this_bitAt : Int32) (this_kj33 : Int32) (this_e1j33 : Int32) (this_duj33 : Int32) (this_dvj33 : Int32) (f_this_pointsj33 : Nat → Int32) (y0j33 : Int32) (out : Int32 × Int32 × Int32 × Int32 × (Nat → Int32)) (h : kJX5_kem_33 x1j33 this_kj33 this_e1j33 f_this_pointsj33 y0j33 = some out) (H : Heap) (locs : List Loc) (ls : Array Slot) (hP : va_P D kCl (kWX5_kem cB cI cL cBB cII cSh h_this a_this this_taped this_code this_kind this_rate this_filled this_total this_bitAt this_kj33 this_e1j33 this_duj33 this_dvj33 f_this_pointsj33) H) (hD : va_D A (kWX5_kem cB cI cL cBB cII cSh h_this a_this this_taped this_code this_kind this_rate this_filled this_total this_bitAt this_kj33 this_e1j33 this_duj33 this_dvj33 f_this_pointsj33)) (hS : va_S A s.heap H locs) (hl : lv_has ls 3 [(0, .ref h_this), (1, .int x1j33)]) : W p l e krX5_kem s m args below meth c H locs 0 0 (MQ below (kb_Q D kCl (kb_T cB cI cL cBB cII cSh) A none (kWX5_kem cB cI cL cBB cII cSh h_this a_this this_taped this_code this_kind this_rate this_filled this_total this_bitAt out.2.2.2.1 out.2.2.1 out.1 out.2.1 out.2.2.2.2)) args s 0 0 A) (F0 m 33 ls [.int y0j33, .ref h_this]) := by
  obtain ⟨hx, hb, hml, hown, hts⟩ := id C0
  unfold kJX5_kem_33 at h
  refine va_put (ci := 5) (v := .int y0j33) (C := kRX5) (T := kTX5) (N := 35) hx hb hts kinX5 ktyX5 ktyX5_ok knX5 hown hK hP hD hS 0 rfl rfl 32 (by decide) (hts _ km_713) (fun _ h9 => h9) rfl (ktyX5_ok 32 (by decide)) rfl rfl (Nat.le_of_ble_eq_true rfl) kdX5_kem_33 (fun H locs hP hD hS => ?_)
  have hP : va_P D kCl (kWX5_kem cB cI cL cBB cII cSh h_this a_this this_taped this_code this_kind this_rate this_filled this_total this_bitAt this_kj33 this_e1j33 y0j33 this_dvj33 f_this_pointsj33) H := hP
  have hD : va_D A (kWX5_kem cB cI cL cBB cII cSh h_this a_this this_taped this_code this_kind this_rate this_filled this_total this_bitAt this_kj33 this_e1j33 y0j33 this_dvj33 f_this_pointsj33) := hD
  refine lv_aload_n hx hb kdX5_kem_36 rfl (lv_at hl 0 rfl) ?_
  refine lv_iload_n hx hb kdX5_kem_37 rfl (lv_at hl 1 rfl) ?_
  refine lv_iconst (v := 2) hx hb kdX5_kem_38 (by decide) ?_
  refine lv_icmp_ne (tgt := 46) hx hb kdX5_kem_39 (by decide) (fun c_4 => ?_) (fun c_4 => ?_)
  · have h := kb_b_f c_4 h
    refine lv_iconst (v := 4) hx hb kdX5_kem_46 (by decide) ?_
    exact kjX5_kem_47 C0 hlocks hr hK hN hA h_this a_this this_taped this_code this_kind this_rate this_filled this_total this_bitAt this_kj33 this_e1j33 y0j33 this_dvj33 f_this_pointsj33 (4 : Int32) _ h _ _ _ hP hD hS (lv_sub hl [0] rfl)
  · have h := kb_b_t c_4 h
    refine lv_iconst (v := 5) hx hb kdX5_kem_42 (by decide) ?_
    refine lv_goto (tgt := 47) hx hb kdX5_kem_43 (by decide) ?_
    exact kjX5_kem_47 C0 hlocks hr hK hN hA h_this a_this this_taped this_code this_kind this_rate this_filled this_total this_bitAt this_kj33 this_e1j33 y0j33 this_dvj33 f_this_pointsj33 (5 : Int32) _ h _ _ _ hP hD hS (lv_sub hl [0] rfl)
set_option maxHeartbeats 4000000 in
set_option maxRecDepth 100000 in
theorem kjX5_kem_17 {p : Program} {l : Launch} {e : Env} {s : State} {m : MethodId} {args : Array Value} {below : List Frame} {meth : Method} {c : Code} {D : va_G} {cB cI cL cBB cII cSh : ClassId} {A : Nat → Prop} (C0 : CallFix p m c prog_8_method_43_code 3 s args kwA kRX5) (hlocks : meth.locks = false) (hr : meth.sig.returnType = none) (hK : va_K D kCl (kb_T cB cI cL cBB cII cSh) s) (hN : kb_N s) (hA : ∀ q, s.heap.size ≤ q → A q) (h_this : Nat) (a_this : Nat → Nat) (x1j17 : Int32) (this_taped : Int32) (this_code : Int32) (this_kind : Int32) (this_rate : Int32) (this_filled : Int32) (this_total : Int64) (this_bitAt : Int32) (this_kj17 : Int32) (this_e1j17 : Int32) (this_duj17 : Int32) (this_dvj17 : Int32) (f_this_pointsj17 : Nat → Int32) (y0j17 : Int32) (out : Int32 × Int32 × Int32 × Int32 × (Nat → Int32)) (h : kJX5_kem_17 x1j17 this_kj17 f_this_pointsj17 y0j17 = some out) (H : Heap) (locs : List Loc) (ls : Array Slot) (hP : va_P D kCl (kWX5_kem cB cI cL cBB cII cSh h_this a_this this_taped this_code this_kind this_rate this_filled this_total this_bitAt this_kj17 this_e1j17 this_duj17 this_dvj17 f_this_pointsj17) H) (hD : va_D A (kWX5_kem cB cI cL cBB cII cSh h_this a_this this_taped this_code this_kind this_rate this_filled this_total this_bitAt this_kj17 this_e1j17 this_duj17 this_dvj17 f_this_pointsj17)) (hS : va_S A s.heap H locs) (hl : lv_has ls 3 [(0, .ref h_this), (1, .int x1j17)]) : W p l e krX5_kem s m args below meth c H locs 0 0 (MQ below (kb_Q D kCl (kb_T cB cI cL cBB cII cSh) A none (kWX5_kem cB cI cL cBB cII cSh h_this a_this this_taped this_code this_kind this_rate this_filled this_total this_bitAt out.2.2.2.1 out.2.2.1 out.1 out.2.1 out.2.2.2.2)) args s 0 0 A) (F0 m 17 ls [.int y0j17, .ref h_this]) := by
  obtain ⟨hx, hb, hml, hown, hts⟩ := id C0
  unfold kJX5_kem_17 at h
  refine va_put (ci := 5) (v := .int y0j17) (C := kRX5) (T := kTX5) (N := 35) hx hb hts kinX5 ktyX5 ktyX5_ok knX5 hown hK hP hD hS 0 rfl rfl 31 (by decide) (hts _ km_712) (fun _ h9 => h9) rfl (ktyX5_ok 31 (by decide)) rfl rfl (Nat.le_of_ble_eq_true rfl) kdX5_kem_17 (fun H locs hP hD hS => ?_)
  have hP : va_P D kCl (kWX5_kem cB cI cL cBB cII cSh h_this a_this this_taped this_code this_kind this_rate this_filled this_total this_bitAt this_kj17 y0j17 this_duj17 this_dvj17 f_this_pointsj17) H := hP
  have hD : va_D A (kWX5_kem cB cI cL cBB cII cSh h_this a_this this_taped this_code this_kind this_rate this_filled this_total this_bitAt this_kj17 y0j17 this_duj17 this_dvj17 f_this_pointsj17) := hD
  refine lv_aload_n hx hb kdX5_kem_20 rfl (lv_at hl 0 rfl) ?_
  refine lv_iload_n hx hb kdX5_kem_21 rfl (lv_at hl 1 rfl) ?_
  refine lv_iconst (v := 2) hx hb kdX5_kem_22 (by decide) ?_
  refine lv_icmp_ne (tgt := 31) hx hb kdX5_kem_23 (by decide) (fun c_3 => ?_) (fun c_3 => ?_)
  · have h := kb_b_f c_3 h
    refine lv_bipush (v := 10) hx hb kdX5_kem_31 (by decide) ?_
    exact kjX5_kem_33 C0 hlocks hr hK hN hA h_this a_this x1j17 this_taped this_code this_kind this_rate this_filled this_total this_bitAt this_kj17 y0j17 this_duj17 this_dvj17 f_this_pointsj17 (10 : Int32) _ h _ _ _ hP hD hS (lv_sub hl [0, 1] rfl)
  · have h := kb_b_t c_3 h
    refine lv_bipush (v := 11) hx hb kdX5_kem_26 (by decide) ?_
    refine lv_goto (tgt := 33) hx hb kdX5_kem_28 (by decide) ?_
    exact kjX5_kem_33 C0 hlocks hr hK hN hA h_this a_this x1j17 this_taped this_code this_kind this_rate this_filled this_total this_bitAt this_kj17 y0j17 this_duj17 this_dvj17 f_this_pointsj17 (11 : Int32) _ h _ _ _ hP hD hS (lv_sub hl [0, 1] rfl)
set_option maxHeartbeats 4000000 in
set_option maxRecDepth 100000 in
theorem kcX5_kem (l : Launch) (D : va_G) (cB cI cL cBB cII cSh : ClassId) (h_this : Nat) (a_this : Nat → Nat) (sz : Nat) (p1 : Int32) (this_taped : Int32) (this_code : Int32) (this_kind : Int32) (this_rate : Int32) (this_filled : Int32) (this_total : Int64) (this_bitAt : Int32) (this_k : Int32) (this_e1 : Int32) (this_du : Int32) (this_dv : Int32) (f_this_points : Nat → Int32) (out : Int32 × Int32 × Int32 × Int32 × (Nat → Int32)) (h : kFX5_kem p1 f_this_points = some out) : Met l kyX5_kem kwX5_kem krX5_kem (kb_P D kCl (kb_T cB cI cL cBB cII cSh) [.ref h_this, .int p1] (kWX5_kem cB cI cL cBB cII cSh h_this a_this this_taped this_code this_kind this_rate this_filled this_total this_bitAt this_k this_e1 this_du this_dv f_this_points) sz) (kb_Q D kCl (kb_T cB cI cL cBB cII cSh) (va_A (kWX5_kem cB cI cL cBB cII cSh h_this a_this this_taped this_code this_kind this_rate this_filled this_total this_bitAt this_k this_e1 this_du this_dv f_this_points) sz) none (kWX5_kem cB cI cL cBB cII cSh h_this a_this this_taped this_code this_kind this_rate this_filled this_total this_bitAt out.2.2.2.1 out.2.2.1 out.1 out.2.1 out.2.2.2.2)) 0 0 (va_A (kWX5_kem cB cI cL cBB cII cSh h_this a_this this_taped this_code this_kind this_rate this_filled this_total this_bitAt this_k this_e1 this_du this_dv f_this_points) sz) := by
  refine Met.ofW (cc := prog_8_method_43_code) (maxL := 3) (ret := none) (by decide) rfl ?_
  intro p e s m args below meth c s₁ B hml hv
  obtain ⟨rfl, hsz, hP, hK, hN, hD0⟩ := hv
  have hx := B.exec
  have hb := B.bytes
  have hr := B.returns
  have hts0 := atoms_spec (ws := kwX5_kem) B.pre
  have hts : ∀ w ∈ kwA, w.before _ s = true := fun w h => hts0 w (List.mem_cons_of_mem _ h)
  have hown : s.vm.findClass kRX5 = some m.cls := findClass_of_methodNamed B.named
  have hlocks := B.notSynchronized
  subst hsz
  have hD := hD0.self (sz := s.heap.size)
  generalize hAe : va_A (kWX5_kem cB cI cL cBB cII cSh h_this a_this this_taped this_code this_kind this_rate this_filled this_total this_bitAt this_k this_e1 this_du this_dv f_this_points) s.heap.size = A at hD ⊢
  have hA : ∀ q : Nat, s.heap.size ≤ q → A q := fun q h => by rw [← hAe]; exact Or.inr h
  have hS : va_S A s.heap s.heap [] := va_S.rf
  have C0 : CallFix p m c prog_8_method_43_code 3 s _ kwA kRX5 := ⟨hx, hb, hml, hown, hts⟩
  have hl := lv_entry ([.ref h_this, .int p1]) (n := 3) (Nat.le_of_ble_eq_true rfl)
  rw [lg_entry_eq]
  generalize (lg_sl ([.ref h_this, .int p1]) ++ List.replicate (3 - (lg_sl ([.ref h_this, .int p1])).length) Slot.unset).toArray = ls at hl ⊢
  have hl : lv_has ls 3 [(0, .ref h_this), (1, .int p1)] := hl
  unfold kFX5_kem at h
  refine lv_aload_n hx hb kdX5_kem_0 rfl (lv_at hl 0 rfl) ?_
  refine lv_iconst (v := 2) hx hb kdX5_kem_1 (by decide) ?_
  refine lv_iload_n hx hb kdX5_kem_2 rfl (lv_at hl 1 rfl) ?_
  refine lv_iadd hx hb kdX5_kem_3 ?_
  refine lv_topi (fun w_1 ew_1 => ?_)
  have h := kb_n_s ew_1 h
  refine va_put (ci := 5) (v := .int w_1) (C := kRX5) (T := kTX5) (N := 35) hx hb hts kinX5 ktyX5 ktyX5_ok knX5 hown hK hP hD hS 0 rfl rfl 30 (by decide) (hts _ km_711) (fun _ h9 => h9) rfl (ktyX5_ok 30 (by decide)) rfl rfl (Nat.le_of_ble_eq_true rfl) kdX5_kem_4 (fun H locs hP hD hS => ?_)
  have hP : va_P D kCl (kWX5_kem cB cI cL cBB cII cSh h_this a_this this_taped this_code this_kind this_rate this_filled this_total this_bitAt w_1 this_e1 this_du this_dv f_this_points) H := hP
  have hD : va_D A (kWX5_kem cB cI cL cBB cII cSh h_this a_this this_taped this_code this_kind this_rate this_filled this_total this_bitAt w_1 this_e1 this_du this_dv f_this_points) := hD
  refine lv_aload_n hx hb kdX5_kem_7 rfl (lv_at hl 0 rfl) ?_
  refine lv_iload_n hx hb kdX5_kem_8 rfl (lv_at hl 1 rfl) ?_
  refine lv_if_ne (tgt := 16) hx hb kdX5_kem_9 (by decide) (fun c_2 => ?_) (fun c_2 => ?_)
  · have h := kb_b_f c_2 h
    refine lv_iconst (v := 2) hx hb kdX5_kem_16 (by decide) ?_
    exact kjX5_kem_17 C0 hlocks hr hK hN hA h_this a_this p1 this_taped this_code this_kind this_rate this_filled this_total this_bitAt w_1 this_e1 this_du this_dv f_this_points (2 : Int32) _ h _ _ _ hP hD hS (lv_sub hl [0, 1] rfl)
  · have h := kb_b_t c_2 h
    refine lv_iconst (v := 3) hx hb kdX5_kem_12 (by decide) ?_
    refine lv_goto (tgt := 17) hx hb kdX5_kem_13 (by decide) ?_
    exact kjX5_kem_17 C0 hlocks hr hK hN hA h_this a_this p1 this_taped this_code this_kind this_rate this_filled this_total this_bitAt w_1 this_e1 this_du this_dv f_this_points (3 : Int32) _ h _ _ _ hP hD hS (lv_sub hl [0, 1] rfl)

-- 441.ModuleKemModel.ntt.lean.txt
abbrev kWX5_ntt (cB cI cL cBB cII cSh : ClassId) (h_this : Nat) (a_this : Nat → Nat) (h_a1 : Nat) (n_a1 : Nat) (this_taped : Int32) (this_code : Int32) (this_kind : Int32) (this_rate : Int32) (this_filled : Int32) (this_total : Int64) (this_bitAt : Int32) (this_k : Int32) (this_e1 : Int32) (this_du : Int32) (this_dv : Int32) (f_this_sum : Nat → Int64) (f_this_points : Nat → Int32) (f_a1 : Nat → Int32) : va_W := [(h_this, koX5 a_this this_taped this_code this_kind this_rate this_filled this_total this_bitAt this_k this_e1 this_du this_dv), ((a_this 23), .inl (cL, 256, .inr (.inl f_this_sum))), ((a_this 24), .inl (cI, 256, .inl f_this_points)), (h_a1, .inl (cI, n_a1, .inl f_a1))]
def krX5_ntt : Room := { frames := 1, cells := 0, slots := 0, locals := 23 }
set_option maxHeartbeats 4000000 in
set_option maxRecDepth 100000 in
theorem klX5_ntt_29 {p : Program} {l : Launch} {e : Env} {s : State} {m : MethodId} {args : Array Value} {below : List Frame} {meth : Method} {c : Code} {cells slots : Nat} {Q : State → Prop} {D : va_G} {cB cI cL cBB cII cSh : ClassId} {A : Nat → Prop} (C0 : CallFix p m c prog_8_method_44_code 11 s args kwA kRX5) (hlocks : meth.locks = false) (hK : va_K D kCl (kb_T cB cI cL cBB cII cSh) s) (hN : kb_N s) (hA : ∀ q, s.heap.size ≤ q → A q) (hcR : cells ≤ krX5_ntt.cells) (hsR : slots ≤ krX5_ntt.slots) (h_this h_a1 : Nat) (a_this : Nat → Nat) (x2p2 : Int32) (x3_4 : Int32) (n_a1 : Nat) (this_taped : Int32) (this_code : Int32) (this_kind : Int32) (this_rate : Int32) (this_filled : Int32) (this_total : Int64) (this_bitAt : Int32) (this_k : Int32) (this_e1 : Int32) (this_du : Int32) (this_dv : Int32) (f_this_sump2 : Nat → Int64) (f_this_points : Nat → Int32) (f_a1 : Nat → Int32) :
    ∀ (fuel : Nat) (x4p29 : Int64) (x6p29 : Int64) (x8p29 : Int32) (r : Int64 × Int64 × Int32), kb_w (fun u : Int64 × Int64 × Int32 => kSX5_ntt_29 x3_4 n_a1 f_this_points f_a1 u.1 u.2.1 u.2.2) fuel (x4p29, x6p29, x8p29) = some r → ∀ (H : Heap) (locs : List Loc) (ls : Array Slot), va_P D kCl (kWX5_ntt cB cI cL cBB cII cSh h_this a_this h_a1 n_a1 this_taped this_code this_kind this_rate this_filled this_total this_bitAt this_k this_e1 this_du this_dv f_this_sump2 f_this_points f_a1) H → va_D A (kWX5_ntt cB cI cL cBB cII cSh h_this a_this h_a1 n_a1 this_taped this_code this_kind this_rate this_filled this_total this_bitAt this_k this_e1 this_du this_dv f_this_sump2 f_this_points f_a1) → va_S A s.heap H locs → lv_has ls 11 [(0, .ref h_this), (1, .ref h_a1), (2, .int x2p2), (3, .int x3_4), (4, .long x4p29), (6, .long x6p29), (8, .int x8p29)] → (∀ (x4p29' : Int64) (x6p29' : Int64) (x8p29' : Int32), r = (x4p29', x6p29', x8p29') → ∀ (H : Heap) (locs : List Loc) (ls : Array Slot), va_P D kCl (kWX5_ntt cB cI cL cBB cII cSh h_this a_this h_a1 n_a1 this_taped this_code this_kind this_rate this_filled this_total this_bitAt this_k this_e1 this_du this_dv f_this_sump2 f_this_points f_a1) H → va_D A (kWX5_ntt cB cI cL cBB cII cSh h_this a_this h_a1 n_a1 this_taped this_code this_kind this_rate this_filled this_total this_bitAt this_k this_e1 this_du this_dv f_this_sump2 f_this_points f_a1) → va_S A s.heap H locs → lv_has ls 11 [(0, .ref h_this), (1, .ref h_a1), (2, .int x2p2), (3, .int x3_4), (4, .long x4p29'), (6, .long x6p29'), (8, .int x8p29')] → W p l e krX5_ntt s m args below meth c H locs cells slots Q (F0 m 91 ls [])) → W p l e krX5_ntt s m args below meth c H locs cells slots Q (F0 m 29 ls []) := by
  obtain ⟨hx, hb, hml, hown, hts⟩ := id C0
  intro fuel
  induction fuel with
  | zero =>
    intro x4p29 x6p29 x8p29 r h
    exact absurd h (kb_w_z _ _ _)
  | succ fuel ih =>
    intro x4p29 x6p29 x8p29 r h H locs ls hP hD hS hl hk0
    obtain ⟨o, h, ho⟩ := kb_w_s h
    have h : kSX5_ntt_29 x3_4 n_a1 f_this_points f_a1 x4p29 x6p29 x8p29 = some o := h
    unfold kSX5_ntt_29 at h
    refine lv_iload hx hb kdX5_ntt_29 (lv_at hl 6 rfl) ?_
    refine lv_sipush (v := 128) hx hb kdX5_ntt_31 (by decide) ?_
    refine lv_icmp_ge (tgt := 91) hx hb kdX5_ntt_34 (by decide) (fun c_5 => ?_) (fun c_5 => ?_)
    · have h := kb_b_t c_5 h
      obtain rfl := Option.some.inj h
      exact hk0 x4p29 x6p29 x8p29 ho.symm _ _ _ hP hD hS (lv_sub hl [0, 1, 2, 3, 4, 5, 6] rfl)
    · have h := kb_b_f c_5 h
      refine lv_aload_n hx hb kdX5_ntt_37 rfl (lv_at hl 0 rfl) ?_
      refine va_get (ci := 5) (v := .ref (a_this 24)) (C := kRX5) (T := kTX5) (N := 35) hx hb hts kinX5 hown hK hP 0 rfl rfl 24 (by decide) (hts _ km_705) (fun _ h9 => h9) rfl kdX5_ntt_38 ?_
      refine lv_iload_n hx hb kdX5_ntt_41 rfl (lv_at hl 3 rfl) ?_
      refine lv_iload hx hb kdX5_ntt_42 (lv_at hl 6 rfl) ?_
      refine lv_imul hx hb kdX5_ntt_44 ?_
      refine lv_sipush (v := 256) hx hb kdX5_ntt_45 (by decide) ?_
      refine lv_irem hx hb kdX5_ntt_48 (by decide) ?_
      refine lv_topi (fun q_6 eq_6 => ?_)
      have h := kb_n_s eq_6 h
      obtain ⟨g_7, h⟩ := kb_g_s h
      refine va_iald hx hb hK hP 2 1 rfl rfl (kb_in_v g_7) kdX5_ntt_49 ?_
      refine lv_i2l (v := ((f_this_points q_6.toNatClampNeg).toInt64)) hx hb kdX5_ntt_50 rfl ?_
      refine lv_topl (fun x9_8 ex9_8 => ?_)
      have h := kb_n_s ex9_8 h
      refine lv_lstore (lv' := [(9, .long x9_8), (0, .ref h_this), (1, .ref h_a1), (2, .int x2p2), (3, .int x3_4), (4, .long x4p29), (6, .long x6p29), (8, .int x8p29)]) hx hb kdX5_ntt_51 hl (by decide) rfl (fun ls hl => ?_)
      refine lv_lload hx hb kdX5_ntt_53 (lv_at hl 5 rfl) ?_
      refine lv_aload_n hx hb kdX5_ntt_55 rfl (lv_at hl 2 rfl) ?_
      refine lv_iconst (v := 2) hx hb kdX5_ntt_56 (by decide) ?_
      refine lv_iload hx hb kdX5_ntt_57 (lv_at hl 7 rfl) ?_
      refine lv_imul hx hb kdX5_ntt_59 ?_
      obtain ⟨g_9, h⟩ := kb_g_s h
      refine va_iald hx hb hK hP 3 1 rfl rfl (kb_in_v g_9) kdX5_ntt_60 ?_
      refine lv_i2l (v := ((f_a1 ((2 : Int32) * x8p29).toNatClampNeg).toInt64)) hx hb kdX5_ntt_61 rfl ?_
      refine lv_lload hx hb kdX5_ntt_62 (lv_at hl 0 rfl) ?_
      refine lv_lmul hx hb kdX5_ntt_64 ?_
      refine lv_ladd hx hb kdX5_ntt_65 ?_
      refine lv_topl (fun x4_10 ex4_10 => ?_)
      have h := kb_n_s ex4_10 h
      refine lv_lstore (lv' := [(4, .long x4_10), (9, .long x9_8), (0, .ref h_this), (1, .ref h_a1), (2, .int x2p2), (3, .int x3_4), (6, .long x6p29), (8, .int x8p29)]) hx hb kdX5_ntt_66 hl (by decide) rfl (fun ls hl => ?_)
      refine lv_lload hx hb kdX5_ntt_68 (lv_at hl 6 rfl) ?_
      refine lv_aload_n hx hb kdX5_ntt_70 rfl (lv_at hl 3 rfl) ?_
      refine lv_iconst (v := 2) hx hb kdX5_ntt_71 (by decide) ?_
      refine lv_iload hx hb kdX5_ntt_72 (lv_at hl 7 rfl) ?_
      refine lv_imul hx hb kdX5_ntt_74 ?_
      refine lv_iconst (v := 1) hx hb kdX5_ntt_75 (by decide) ?_
      refine lv_iadd hx hb kdX5_ntt_76 ?_
      obtain ⟨g_11, h⟩ := kb_g_s h
      refine va_iald hx hb hK hP 3 1 rfl rfl (kb_in_v g_11) kdX5_ntt_77 ?_
      refine lv_i2l (v := ((f_a1 (((2 : Int32) * x8p29) + (1 : Int32)).toNatClampNeg).toInt64)) hx hb kdX5_ntt_78 rfl ?_
      refine lv_lload hx hb kdX5_ntt_79 (lv_at hl 1 rfl) ?_
      refine lv_lmul hx hb kdX5_ntt_81 ?_
      refine lv_ladd hx hb kdX5_ntt_82 ?_
      refine lv_topl (fun x6_12 ex6_12 => ?_)
      have h := kb_n_s ex6_12 h
      refine lv_lstore (lv' := [(6, .long x6_12), (4, .long x4_10), (9, .long x9_8), (0, .ref h_this), (1, .ref h_a1), (2, .int x2p2), (3, .int x3_4), (8, .int x8p29)]) hx hb kdX5_ntt_83 hl (by decide) rfl (fun ls hl => ?_)
      obtain ⟨x8_13, ex8_13⟩ : ∃ y : Int32, y = x8p29 + Int32.ofInt 1 := ⟨_, rfl⟩
      have h := kb_n_s ex8_13 h
      refine lv_iinc (v := x8_13) (lv' := [(8, .int x8_13), (6, .long x6_12), (4, .long x4_10), (9, .long x9_8), (0, .ref h_this), (1, .ref h_a1), (2, .int x2p2), (3, .int x3_4)]) hx hb kdX5_ntt_85 hl (k := 7) rfl ex8_13.symm (by decide) rfl (fun ls hl => ?_)
      refine lv_goto (tgt := 29) hx hb kdX5_ntt_88 (by decide) ?_
      obtain rfl := Option.some.inj h
      exact ih x4_10 x6_12 x8_13 r ho _ _ _ hP hD hS (lv_sub hl [4, 5, 6, 7, 2, 1, 0] rfl) hk0
set_option maxHeartbeats 4000000 in
set_option maxRecDepth 100000 in
theorem klX5_ntt_2 {p : Program} {l : Launch} {e : Env} {s : State} {m : MethodId} {args : Array Value} {below : List Frame} {meth : Method} {c : Code} {cells slots : Nat} {Q : State → Prop} {D : va_G} {cB cI cL cBB cII cSh : ClassId} {A : Nat → Prop} (C0 : CallFix p m c prog_8_method_44_code 11 s args kwA kRX5) (hlocks : meth.locks = false) (hK : va_K D kCl (kb_T cB cI cL cBB cII cSh) s) (hN : kb_N s) (hA : ∀ q, s.heap.size ≤ q → A q) (hcR : cells ≤ krX5_ntt.cells) (hsR : slots ≤ krX5_ntt.slots) (h_this h_a1 : Nat) (a_this : Nat → Nat) (n_a1 : Nat) (this_taped : Int32) (this_code : Int32) (this_kind : Int32) (this_rate : Int32) (this_filled : Int32) (this_total : Int64) (this_bitAt : Int32) (this_k : Int32) (this_e1 : Int32) (this_du : Int32) (this_dv : Int32) (f_this_points : Nat → Int32) (f_a1 : Nat → Int32) :
    ∀ (fuel : Nat) (x2p2 : Int32) (f_this_sump2 : Nat → Int64) (r : Int32 × (Nat → Int64)), kb_w (fun u : Int32 × (Nat → Int64) => kSX5_ntt_2 n_a1 f_this_points f_a1 u.1 u.2) fuel (x2p2, f_this_sump2) = some r → ∀ (H : Heap) (locs : List Loc) (ls : Array Slot), va_P D kCl (kWX5_ntt cB cI cL cBB cII cSh h_this a_this h_a1 n_a1 this_taped this_code this_kind this_rate this_filled this_total this_bitAt this_k this_e1 this_du this_dv f_this_sump2 f_this_points f_a1) H → va_D A (kWX5_ntt cB cI cL cBB cII cSh h_this a_this h_a1 n_a1 this_taped this_code this_kind this_rate this_filled this_total this_bitAt this_k this_e1 this_du this_dv f_this_sump2 f_this_points f_a1) → va_S A s.heap H locs → lv_has ls 11 [(0, .ref h_this), (1, .ref h_a1), (2, .int x2p2)] → (∀ (x2p2' : Int32) (f_this_sump2' : Nat → Int64), r = (x2p2', f_this_sump2') → ∀ (H : Heap) (locs : List Loc) (ls : Array Slot), va_P D kCl (kWX5_ntt cB cI cL cBB cII cSh h_this a_this h_a1 n_a1 this_taped this_code this_kind this_rate this_filled this_total this_bitAt this_k this_e1 this_du this_dv f_this_sump2' f_this_points f_a1) H → va_D A (kWX5_ntt cB cI cL cBB cII cSh h_this a_this h_a1 n_a1 this_taped this_code this_kind this_rate this_filled this_total this_bitAt this_k this_e1 this_du this_dv f_this_sump2' f_this_points f_a1) → va_S A s.heap H locs → lv_has ls 11 [(0, .ref h_this), (1, .ref h_a1), (2, .int x2p2')] → W p l e krX5_ntt s m args below meth c H locs cells slots Q (F0 m 127 ls [])) → W p l e krX5_ntt s m args below meth c H locs cells slots Q (F0 m 2 ls []) := by
  obtain ⟨hx, hb, hml, hown, hts⟩ := id C0
  intro fuel
  induction fuel with
  | zero =>
    intro x2p2 f_this_sump2 r h
    exact absurd h (kb_w_z _ _ _)
  | succ fuel ih =>
    intro x2p2 f_this_sump2 r h H locs ls hP hD hS hl hk0
    obtain ⟨o, h, ho⟩ := kb_w_s h
    have h : kSX5_ntt_2 n_a1 f_this_points f_a1 x2p2 f_this_sump2 = some o := h
    unfold kSX5_ntt_2 at h
    refine lv_iload_n hx hb kdX5_ntt_2 rfl (lv_at hl 2 rfl) ?_
    refine lv_sipush (v := 128) hx hb kdX5_ntt_3 (by decide) ?_
    refine lv_icmp_ge (tgt := 127) hx hb kdX5_ntt_6 (by decide) (fun c_1 => ?_) (fun c_1 => ?_)
    · have h := kb_b_t c_1 h
      obtain rfl := Option.some.inj h
      exact hk0 x2p2 f_this_sump2 ho.symm _ _ _ hP hD hS (lv_sub hl [0, 1, 2] rfl)
    · have h := kb_b_f c_1 h
      refine lv_iconst (v := 2) hx hb kdX5_ntt_9 (by decide) ?_
      refine lv_iload_n hx hb kdX5_ntt_10 rfl (lv_at hl 2 rfl) ?_
      refine lv_bipush (v := 7) hx hb kdX5_ntt_11 (by decide) ?_
      obtain ⟨u_3, hu_3, h⟩ := kb_o_s h
      obtain ⟨r_2, rfl⟩ : ∃ z, z = u_3 := ⟨_, rfl⟩
      have hC := (show ([] : List Nat).map (fun i : Nat => (kWX5_ntt cB cI cL cBB cII cSh h_this a_this h_a1 n_a1 this_taped this_code this_kind this_rate this_filled this_total this_bitAt this_k this_e1 this_du this_dv f_this_sump2 f_this_points f_a1)[i]?) = List.map some (kWX5_turned cB cI cL cBB cII cSh) from rfl)
      have hPc := kb_Psub hP ([] : List Nat) hC
      have hDc := kb_Dsub hD ([] : List Nat) hC (by simp [kb_nd])
      refine kb_call0 (va_runS (As := [.int x2p2, .int (7 : Int32)]) (rest := [.int (2 : Int32)]) C0 (kcX5_turned l D cB cI cL cBB cII cSh  _ x2p2 (7 : Int32) r_2 hu_3) (va_cwS 2 hts (kb_gS km_865 km_866 km_6 km_867) rfl rfl rfl (by decide +kernel) ⟨Nat.le_of_ble_eq_true rfl, Nat.le_of_ble_eq_true rfl⟩) ⟨kb_P_bl, (fun U hU hW => ⟨rfl, by rw [hU], by rw [hU]; exact hPc, va_K.moved hW.alike hK, kb_N_to hW hN, hDc.weaken (fun _ _ _ _ => trivial)⟩)⟩ rfl rfl hl.1 rfl (lv_room (Nat.le_of_ble_eq_true rfl)) kdX5_ntt_13 ⟨hcR, hsR⟩) hP hD hS hA ([] : List Nat) hC rfl (fun H locs hP hD hS => ?_)
      have hP : va_P D kCl (kWX5_ntt cB cI cL cBB cII cSh h_this a_this h_a1 n_a1 this_taped this_code this_kind this_rate this_filled this_total this_bitAt this_k this_e1 this_du this_dv f_this_sump2 f_this_points f_a1) H := hP
      have hD : va_D A (kWX5_ntt cB cI cL cBB cII cSh h_this a_this h_a1 n_a1 this_taped this_code this_kind this_rate this_filled this_total this_bitAt this_k this_e1 this_du this_dv f_this_sump2 f_this_points f_a1) := hD
      refine lv_imul hx hb kdX5_ntt_16 ?_
      refine lv_iconst (v := 1) hx hb kdX5_ntt_17 (by decide) ?_
      refine lv_iadd hx hb kdX5_ntt_18 ?_
      refine lv_topi (fun x3_4 ex3_4 => ?_)
      have h := kb_n_s ex3_4 h
      refine lv_istore_n (lv' := [(3, .int x3_4), (0, .ref h_this), (1, .ref h_a1), (2, .int x2p2)]) hx hb kdX5_ntt_19 rfl hl (by decide) rfl (fun ls hl => ?_)
      refine lv_lconst (v := 0) hx hb kdX5_ntt_20 (by decide) ?_
      refine lv_lstore (lv' := [(4, .long (0 : Int64)), (3, .int x3_4), (0, .ref h_this), (1, .ref h_a1), (2, .int x2p2)]) hx hb kdX5_ntt_21 hl (by decide) rfl (fun ls hl => ?_)
      refine lv_lconst (v := 0) hx hb kdX5_ntt_23 (by decide) ?_
      refine lv_lstore (lv' := [(6, .long (0 : Int64)), (4, .long (0 : Int64)), (3, .int x3_4), (0, .ref h_this), (1, .ref h_a1), (2, .int x2p2)]) hx hb kdX5_ntt_24 hl (by decide) rfl (fun ls hl => ?_)
      refine lv_iconst (v := 0) hx hb kdX5_ntt_26 (by decide) ?_
      refine lv_istore (lv' := [(8, .int (0 : Int32)), (6, .long (0 : Int64)), (4, .long (0 : Int64)), (3, .int x3_4), (0, .ref h_this), (1, .ref h_a1), (2, .int x2p2)]) hx hb kdX5_ntt_27 hl (by decide) rfl (fun ls hl => ?_)
      obtain ⟨r_22, hr_22, h⟩ := kb_o_s h
      refine klX5_ntt_29 C0 hlocks hK hN hA hcR hsR h_this h_a1 a_this x2p2 x3_4 n_a1 this_taped this_code this_kind this_rate this_filled this_total this_bitAt this_k this_e1 this_du this_dv f_this_sump2 f_this_points f_a1 100000 (0 : Int64) (0 : Int64) (0 : Int32) r_22 hr_22 _ _ _ hP hD hS (lv_sub hl [4, 5, 6, 3, 2, 1, 0] rfl) (fun x4p29_14 x6p29_15 x8p29_16 er_22 H locs ls hP hD hS hl => ?_)
      subst er_22
      refine lv_aload_n hx hb kdX5_ntt_91 rfl (lv_at hl 0 rfl) ?_
      refine va_get (ci := 5) (v := .ref (a_this 23)) (C := kRX5) (T := kTX5) (N := 35) hx hb hts kinX5 hown hK hP 0 rfl rfl 23 (by decide) (hts _ km_704) (fun _ h9 => h9) rfl kdX5_ntt_92 ?_
      refine lv_iconst (v := 2) hx hb kdX5_ntt_95 (by decide) ?_
      refine lv_iload_n hx hb kdX5_ntt_96 rfl (lv_at hl 2 rfl) ?_
      refine lv_imul hx hb kdX5_ntt_97 ?_
      refine lv_lload hx hb kdX5_ntt_98 (lv_at hl 4 rfl) ?_
      refine lv_ldc2 (v := 3329) hx hb hown (hts _ km_868) kdX5_ntt_100 ?_
      refine lv_lrem hx hb kdX5_ntt_103 (by decide) ?_
      obtain ⟨g_17, h⟩ := kb_g_s h
      refine va_last hx hb hK hP hD hS 1 2 rfl rfl (kb_in_v g_17) kdX5_ntt_104 (fun H locs hP hD hS => ?_)
      obtain ⟨f_18, ef_18⟩ : ∃ y, y = vp_updL f_this_sump2 ((2 : Int32) * x2p2).toNatClampNeg (x4p29_14 - x4p29_14 / (3329 : Int64) * (3329 : Int64)) := ⟨_, rfl⟩
      have h := kb_n_s ef_18 h
      have hP : va_P D kCl (kWX5_ntt cB cI cL cBB cII cSh h_this a_this h_a1 n_a1 this_taped this_code this_kind this_rate this_filled this_total this_bitAt this_k this_e1 this_du this_dv f_18 f_this_points f_a1) H := by rw [ef_18]; exact hP
      have hD : va_D A (kWX5_ntt cB cI cL cBB cII cSh h_this a_this h_a1 n_a1 this_taped this_code this_kind this_rate this_filled this_total this_bitAt this_k this_e1 this_du this_dv f_18 f_this_points f_a1) := by rw [ef_18]; exact hD
      refine lv_aload_n hx hb kdX5_ntt_105 rfl (lv_at hl 0 rfl) ?_
      refine va_get (ci := 5) (v := .ref (a_this 23)) (C := kRX5) (T := kTX5) (N := 35) hx hb hts kinX5 hown hK hP 0 rfl rfl 23 (by decide) (hts _ km_704) (fun _ h9 => h9) rfl kdX5_ntt_106 ?_
      refine lv_iconst (v := 2) hx hb kdX5_ntt_109 (by decide) ?_
      refine lv_iload_n hx hb kdX5_ntt_110 rfl (lv_at hl 2 rfl) ?_
      refine lv_imul hx hb kdX5_ntt_111 ?_
      refine lv_iconst (v := 1) hx hb kdX5_ntt_112 (by decide) ?_
      refine lv_iadd hx hb kdX5_ntt_113 ?_
      refine lv_lload hx hb kdX5_ntt_114 (lv_at hl 5 rfl) ?_
      refine lv_ldc2 (v := 3329) hx hb hown (hts _ km_868) kdX5_ntt_116 ?_
      refine lv_lrem hx hb kdX5_ntt_119 (by decide) ?_
      obtain ⟨g_19, h⟩ := kb_g_s h
      refine va_last hx hb hK hP hD hS 1 2 rfl rfl (kb_in_v g_19) kdX5_ntt_120 (fun H locs hP hD hS => ?_)
      obtain ⟨f_20, ef_20⟩ : ∃ y, y = vp_updL f_18 (((2 : Int32) * x2p2) + (1 : Int32)).toNatClampNeg (x6p29_15 - x6p29_15 / (3329 : Int64) * (3329 : Int64)) := ⟨_, rfl⟩
      have h := kb_n_s ef_20 h
      have hP : va_P D kCl (kWX5_ntt cB cI cL cBB cII cSh h_this a_this h_a1 n_a1 this_taped this_code this_kind this_rate this_filled this_total this_bitAt this_k this_e1 this_du this_dv f_20 f_this_points f_a1) H := by rw [ef_20]; exact hP
      have hD : va_D A (kWX5_ntt cB cI cL cBB cII cSh h_this a_this h_a1 n_a1 this_taped this_code this_kind this_rate this_filled this_total this_bitAt this_k this_e1 this_du this_dv f_20 f_this_points f_a1) := by rw [ef_20]; exact hD
      obtain ⟨x2_21, ex2_21⟩ : ∃ y : Int32, y = x2p2 + Int32.ofInt 1 := ⟨_, rfl⟩
      have h := kb_n_s ex2_21 h
      refine lv_iinc (v := x2_21) (lv' := [(2, .int x2_21), (0, .ref h_this), (1, .ref h_a1), (3, .int x3_4), (4, .long x4p29_14), (6, .long x6p29_15), (8, .int x8p29_16)]) hx hb kdX5_ntt_121 hl (k := 2) rfl ex2_21.symm (by decide) rfl (fun ls hl => ?_)
      refine lv_goto (tgt := 2) hx hb kdX5_ntt_124 (by decide) ?_
      obtain rfl := Option.some.inj h
      exact ih x2_21 f_20 r ho _ _ _ hP hD hS (lv_sub hl [1, 2, 0] rfl) hk0
set_option maxHeartbeats 4000000 in
set_option maxRecDepth 100000 in
theorem klX5_ntt_129 {p : Program} {l : Launch} {e : Env} {s : State} {m : MethodId} {args : Array Value} {below : List Frame} {meth : Method} {c : Code} {cells slots : Nat} {Q : State → Prop} {D : va_G} {cB cI cL cBB cII cSh : ClassId} {A : Nat → Prop} (C0 : CallFix p m c prog_8_method_44_code 11 s args kwA kRX5) (hlocks : meth.locks = false) (hK : va_K D kCl (kb_T cB cI cL cBB cII cSh) s) (hN : kb_N s) (hA : ∀ q, s.heap.size ≤ q → A q) (hcR : cells ≤ krX5_ntt.cells) (hsR : slots ≤ krX5_ntt.slots) (h_this h_a1 : Nat) (a_this : Nat → Nat) (n_a1 : Nat) (this_taped : Int32) (this_code : Int32) (this_kind : Int32) (this_rate : Int32) (this_filled : Int32) (this_total : Int64) (this_bitAt : Int32) (this_k : Int32) (this_e1 : Int32) (this_du : Int32) (this_dv : Int32) (f_this_sump2_24 : Nat → Int64) (f_this_points : Nat → Int32) :
    ∀ (fuel : Nat) (x2p129 : Int32) (f_a1p129 : Nat → Int32) (r : Int32 × (Nat → Int32)), kb_w (fun u : Int32 × (Nat → Int32) => kSX5_ntt_129 n_a1 f_this_sump2_24 u.1 u.2) fuel (x2p129, f_a1p129) = some r → ∀ (H : Heap) (locs : List Loc) (ls : Array Slot), va_P D kCl (kWX5_ntt cB cI cL cBB cII cSh h_this a_this h_a1 n_a1 this_taped this_code this_kind this_rate this_filled this_total this_bitAt this_k this_e1 this_du this_dv f_this_sump2_24 f_this_points f_a1p129) H → va_D A (kWX5_ntt cB cI cL cBB cII cSh h_this a_this h_a1 n_a1 this_taped this_code this_kind this_rate this_filled this_total this_bitAt this_k this_e1 this_du this_dv f_this_sump2_24 f_this_points f_a1p129) → va_S A s.heap H locs → lv_has ls 11 [(0, .ref h_this), (1, .ref h_a1), (2, .int x2p129)] → (∀ (x2p129' : Int32) (f_a1p129' : Nat → Int32), r = (x2p129', f_a1p129') → ∀ (H : Heap) (locs : List Loc) (ls : Array Slot), va_P D kCl (kWX5_ntt cB cI cL cBB cII cSh h_this a_this h_a1 n_a1 this_taped this_code this_kind this_rate this_filled this_total this_bitAt this_k this_e1 this_du this_dv f_this_sump2_24 f_this_points f_a1p129') H → va_D A (kWX5_ntt cB cI cL cBB cII cSh h_this a_this h_a1 n_a1 this_taped this_code this_kind this_rate this_filled this_total this_bitAt this_k this_e1 this_du this_dv f_this_sump2_24 f_this_points f_a1p129') → va_S A s.heap H locs → lv_has ls 11 [(0, .ref h_this), (1, .ref h_a1), (2, .int x2p129')] → W p l e krX5_ntt s m args below meth c H locs cells slots Q (F0 m 152 ls [])) → W p l e krX5_ntt s m args below meth c H locs cells slots Q (F0 m 129 ls []) := by
  obtain ⟨hx, hb, hml, hown, hts⟩ := id C0
  intro fuel
  induction fuel with
  | zero =>
    intro x2p129 f_a1p129 r h
    exact absurd h (kb_w_z _ _ _)
  | succ fuel ih =>
    intro x2p129 f_a1p129 r h H locs ls hP hD hS hl hk0
    obtain ⟨o, h, ho⟩ := kb_w_s h
    have h : kSX5_ntt_129 n_a1 f_this_sump2_24 x2p129 f_a1p129 = some o := h
    unfold kSX5_ntt_129 at h
    refine lv_iload_n hx hb kdX5_ntt_129 rfl (lv_at hl 2 rfl) ?_
    refine lv_sipush (v := 256) hx hb kdX5_ntt_130 (by decide) ?_
    refine lv_icmp_ge (tgt := 152) hx hb kdX5_ntt_133 (by decide) (fun c_25 => ?_) (fun c_25 => ?_)
    · have h := kb_b_t c_25 h
      obtain rfl := Option.some.inj h
      exact hk0 x2p129 f_a1p129 ho.symm _ _ _ hP hD hS (lv_sub hl [0, 1, 2] rfl)
    · have h := kb_b_f c_25 h
      refine lv_aload_n hx hb kdX5_ntt_136 rfl (lv_at hl 1 rfl) ?_
      refine lv_iload_n hx hb kdX5_ntt_137 rfl (lv_at hl 2 rfl) ?_
      refine lv_aload_n hx hb kdX5_ntt_138 rfl (lv_at hl 0 rfl) ?_
      refine va_get (ci := 5) (v := .ref (a_this 23)) (C := kRX5) (T := kTX5) (N := 35) hx hb hts kinX5 hown hK hP 0 rfl rfl 23 (by decide) (hts _ km_704) (fun _ h9 => h9) rfl kdX5_ntt_139 ?_
      refine lv_iload_n hx hb kdX5_ntt_142 rfl (lv_at hl 2 rfl) ?_
      obtain ⟨g_26, h⟩ := kb_g_s h
      refine va_lald hx hb hK hP 1 2 rfl rfl (kb_in_v g_26) kdX5_ntt_143 ?_
      refine lv_l2i (v := ((f_this_sump2_24 x2p129.toNatClampNeg).toInt32)) hx hb kdX5_ntt_144 rfl ?_
      obtain ⟨g_27, h⟩ := kb_g_s h
      refine va_iast hx hb hK hP hD hS 3 1 rfl rfl (kb_in_v g_27) kdX5_ntt_145 (fun H locs hP hD hS => ?_)
      obtain ⟨f_28, ef_28⟩ : ∃ y, y = upd f_a1p129 x2p129.toNatClampNeg ((f_this_sump2_24 x2p129.toNatClampNeg).toInt32) := ⟨_, rfl⟩
      have h := kb_n_s ef_28 h
      have hP : va_P D kCl (kWX5_ntt cB cI cL cBB cII cSh h_this a_this h_a1 n_a1 this_taped this_code this_kind this_rate this_filled this_total this_bitAt this_k this_e1 this_du this_dv f_this_sump2_24 f_this_points f_28) H := by rw [ef_28]; exact hP
      have hD : va_D A (kWX5_ntt cB cI cL cBB cII cSh h_this a_this h_a1 n_a1 this_taped this_code this_kind this_rate this_filled this_total this_bitAt this_k this_e1 this_du this_dv f_this_sump2_24 f_this_points f_28) := by rw [ef_28]; exact hD
      obtain ⟨x2_29, ex2_29⟩ : ∃ y : Int32, y = x2p129 + Int32.ofInt 1 := ⟨_, rfl⟩
      have h := kb_n_s ex2_29 h
      refine lv_iinc (v := x2_29) (lv' := [(2, .int x2_29), (0, .ref h_this), (1, .ref h_a1)]) hx hb kdX5_ntt_146 hl (k := 2) rfl ex2_29.symm (by decide) rfl (fun ls hl => ?_)
      refine lv_goto (tgt := 129) hx hb kdX5_ntt_149 (by decide) ?_
      obtain rfl := Option.some.inj h
      exact ih x2_29 f_28 r ho _ _ _ hP hD hS (lv_sub hl [1, 2, 0] rfl) hk0
set_option maxHeartbeats 4000000 in
set_option maxRecDepth 100000 in
theorem kcX5_ntt (l : Launch) (D : va_G) (cB cI cL cBB cII cSh : ClassId) (h_this h_a1 : Nat) (a_this : Nat → Nat) (sz : Nat) (n_a1 : Nat) (this_taped : Int32) (this_code : Int32) (this_kind : Int32) (this_rate : Int32) (this_filled : Int32) (this_total : Int64) (this_bitAt : Int32) (this_k : Int32) (this_e1 : Int32) (this_du : Int32) (this_dv : Int32) (f_this_sum : Nat → Int64) (f_this_points : Nat → Int32) (f_a1 : Nat → Int32) (out : (Nat → Int64) × (Nat → Int32)) (h : kFX5_ntt n_a1 f_this_sum f_this_points f_a1 = some out) : Met l kyX5_ntt kwX5_ntt krX5_ntt (kb_P D kCl (kb_T cB cI cL cBB cII cSh) [.ref h_this, .ref h_a1] (kWX5_ntt cB cI cL cBB cII cSh h_this a_this h_a1 n_a1 this_taped this_code this_kind this_rate this_filled this_total this_bitAt this_k this_e1 this_du this_dv f_this_sum f_this_points f_a1) sz) (kb_Q D kCl (kb_T cB cI cL cBB cII cSh) (va_A (kWX5_ntt cB cI cL cBB cII cSh h_this a_this h_a1 n_a1 this_taped this_code this_kind this_rate this_filled this_total this_bitAt this_k this_e1 this_du this_dv f_this_sum f_this_points f_a1) sz) none (kWX5_ntt cB cI cL cBB cII cSh h_this a_this h_a1 n_a1 this_taped this_code this_kind this_rate this_filled this_total this_bitAt this_k this_e1 this_du this_dv out.1 f_this_points out.2)) 0 0 (va_A (kWX5_ntt cB cI cL cBB cII cSh h_this a_this h_a1 n_a1 this_taped this_code this_kind this_rate this_filled this_total this_bitAt this_k this_e1 this_du this_dv f_this_sum f_this_points f_a1) sz) := by
  refine Met.ofW (cc := prog_8_method_44_code) (maxL := 11) (ret := none) (by decide) rfl ?_
  intro p e s m args below meth c s₁ B hml hv
  obtain ⟨rfl, hsz, hP, hK, hN, hD0⟩ := hv
  have hx := B.exec
  have hb := B.bytes
  have hr := B.returns
  have hts0 := atoms_spec (ws := kwX5_ntt) B.pre
  have hts : ∀ w ∈ kwA, w.before _ s = true := fun w h => hts0 w (List.mem_cons_of_mem _ h)
  have hown : s.vm.findClass kRX5 = some m.cls := findClass_of_methodNamed B.named
  have hlocks := B.notSynchronized
  subst hsz
  have hD := hD0.self (sz := s.heap.size)
  generalize hAe : va_A (kWX5_ntt cB cI cL cBB cII cSh h_this a_this h_a1 n_a1 this_taped this_code this_kind this_rate this_filled this_total this_bitAt this_k this_e1 this_du this_dv f_this_sum f_this_points f_a1) s.heap.size = A at hD ⊢
  have hA : ∀ q : Nat, s.heap.size ≤ q → A q := fun q h => by rw [← hAe]; exact Or.inr h
  have hS : va_S A s.heap s.heap [] := va_S.rf
  have C0 : CallFix p m c prog_8_method_44_code 11 s _ kwA kRX5 := ⟨hx, hb, hml, hown, hts⟩
  have hl := lv_entry ([.ref h_this, .ref h_a1]) (n := 11) (Nat.le_of_ble_eq_true rfl)
  rw [lg_entry_eq]
  generalize (lg_sl ([.ref h_this, .ref h_a1]) ++ List.replicate (11 - (lg_sl ([.ref h_this, .ref h_a1])).length) Slot.unset).toArray = ls at hl ⊢
  have hl : lv_has ls 11 [(0, .ref h_this), (1, .ref h_a1)] := hl
  unfold kFX5_ntt at h
  refine lv_iconst (v := 0) hx hb kdX5_ntt_0 (by decide) ?_
  refine lv_istore_n (lv' := [(2, .int (0 : Int32)), (0, .ref h_this), (1, .ref h_a1)]) hx hb kdX5_ntt_1 rfl hl (by decide) rfl (fun ls hl => ?_)
  obtain ⟨r_33, hr_33, h⟩ := kb_o_s h
  refine klX5_ntt_2 C0 hlocks hK hN hA (by decide) (by decide) h_this h_a1 a_this n_a1 this_taped this_code this_kind this_rate this_filled this_total this_bitAt this_k this_e1 this_du this_dv f_this_points f_a1 100000 (0 : Int32) f_this_sum r_33 hr_33 _ _ _ hP hD hS (lv_sub hl [1, 2, 0] rfl) (fun x2p2_23 f_this_sump2_24 er_33 H locs ls hP hD hS hl => ?_)
  subst er_33
  refine lv_iconst (v := 0) hx hb kdX5_ntt_127 (by decide) ?_
  refine lv_istore_n (lv' := [(2, .int (0 : Int32)), (0, .ref h_this), (1, .ref h_a1)]) hx hb kdX5_ntt_128 rfl hl (by decide) rfl (fun ls hl => ?_)
  obtain ⟨r_32, hr_32, h⟩ := kb_o_s h
  refine klX5_ntt_129 C0 hlocks hK hN hA (by decide) (by decide) h_this h_a1 a_this n_a1 this_taped this_code this_kind this_rate this_filled this_total this_bitAt this_k this_e1 this_du this_dv f_this_sump2_24 f_this_points 100000 (0 : Int32) f_a1 r_32 hr_32 _ _ _ hP hD hS (lv_sub hl [1, 2, 0] rfl) (fun x2p129_30 f_a1p129_31 er_32 H locs ls hP hD hS hl => ?_)
  subst er_32
  obtain rfl := Option.some.inj h
  exact W.vret hx hb hr (fun t ht hW => ⟨⟨rfl, by rw [ht]; exact hP, va_K.moved hW.alike hK, hD⟩, hS.F ht⟩) hS.2.2 kdX5_ntt_152

-- 442.ModuleKemModel.unntt.lean.txt
abbrev kWX5_unntt (cB cI cL cBB cII cSh : ClassId) (h_this : Nat) (a_this : Nat → Nat) (h_a1 : Nat) (n_a1 : Nat) (this_taped : Int32) (this_code : Int32) (this_kind : Int32) (this_rate : Int32) (this_filled : Int32) (this_total : Int64) (this_bitAt : Int32) (this_k : Int32) (this_e1 : Int32) (this_du : Int32) (this_dv : Int32) (f_this_sum : Nat → Int64) (f_this_points : Nat → Int32) (f_a1 : Nat → Int32) : va_W := [(h_this, koX5 a_this this_taped this_code this_kind this_rate this_filled this_total this_bitAt this_k this_e1 this_du this_dv), ((a_this 23), .inl (cL, 256, .inr (.inl f_this_sum))), ((a_this 24), .inl (cI, 256, .inl f_this_points)), (h_a1, .inl (cI, n_a1, .inl f_a1))]
def krX5_unntt : Room := { frames := 1, cells := 0, slots := 0, locals := 23 }
set_option maxHeartbeats 4000000 in
set_option maxRecDepth 100000 in
theorem klX5_unntt_17 {p : Program} {l : Launch} {e : Env} {s : State} {m : MethodId} {args : Array Value} {below : List Frame} {meth : Method} {c : Code} {cells slots : Nat} {Q : State → Prop} {D : va_G} {cB cI cL cBB cII cSh : ClassId} {A : Nat → Prop} (C0 : CallFix p m c prog_8_method_45_code 10 s args kwA kRX5) (hlocks : meth.locks = false) (hK : va_K D kCl (kb_T cB cI cL cBB cII cSh) s) (hN : kb_N s) (hA : ∀ q, s.heap.size ≤ q → A q) (hcR : cells ≤ krX5_unntt.cells) (hsR : slots ≤ krX5_unntt.slots) (h_this h_a1 : Nat) (a_this : Nat → Nat) (x2p2 : Int32) (n_a1 : Nat) (this_taped : Int32) (this_code : Int32) (this_kind : Int32) (this_rate : Int32) (this_filled : Int32) (this_total : Int64) (this_bitAt : Int32) (this_k : Int32) (this_e1 : Int32) (this_du : Int32) (this_dv : Int32) (f_this_sump2 : Nat → Int64) (f_this_points : Nat → Int32) (f_a1 : Nat → Int32) :
    ∀ (fuel : Nat) (x3p17 : Int64) (x5p17 : Int64) (x7p17 : Int32) (r : Int64 × Int64 × Int32), kb_w (fun u : Int64 × Int64 × Int32 => kSX5_unntt_17 x2p2 n_a1 f_this_points f_a1 u.1 u.2.1 u.2.2) fuel (x3p17, x5p17, x7p17) = some r → ∀ (H : Heap) (locs : List Loc) (ls : Array Slot), va_P D kCl (kWX5_unntt cB cI cL cBB cII cSh h_this a_this h_a1 n_a1 this_taped this_code this_kind this_rate this_filled this_total this_bitAt this_k this_e1 this_du this_dv f_this_sump2 f_this_points f_a1) H → va_D A (kWX5_unntt cB cI cL cBB cII cSh h_this a_this h_a1 n_a1 this_taped this_code this_kind this_rate this_filled this_total this_bitAt this_k this_e1 this_du this_dv f_this_sump2 f_this_points f_a1) → va_S A s.heap H locs → lv_has ls 10 [(0, .ref h_this), (1, .ref h_a1), (2, .int x2p2), (3, .long x3p17), (5, .long x5p17), (7, .int x7p17)] → (∀ (x3p17' : Int64) (x5p17' : Int64) (x7p17' : Int32), r = (x3p17', x5p17', x7p17') → ∀ (H : Heap) (locs : List Loc) (ls : Array Slot), va_P D kCl (kWX5_unntt cB cI cL cBB cII cSh h_this a_this h_a1 n_a1 this_taped this_code this_kind this_rate this_filled this_total this_bitAt this_k this_e1 this_du this_dv f_this_sump2 f_this_points f_a1) H → va_D A (kWX5_unntt cB cI cL cBB cII cSh h_this a_this h_a1 n_a1 this_taped this_code this_kind this_rate this_filled this_total this_bitAt this_k this_e1 this_du this_dv f_this_sump2 f_this_points f_a1) → va_S A s.heap H locs → lv_has ls 10 [(0, .ref h_this), (1, .ref h_a1), (2, .int x2p2), (3, .long x3p17'), (5, .long x5p17'), (7, .int x7p17')] → W p l e krX5_unntt s m args below meth c H locs cells slots Q (F0 m 94 ls [])) → W p l e krX5_unntt s m args below meth c H locs cells slots Q (F0 m 17 ls []) := by
  obtain ⟨hx, hb, hml, hown, hts⟩ := id C0
  intro fuel
  induction fuel with
  | zero =>
    intro x3p17 x5p17 x7p17 r h
    exact absurd h (kb_w_z _ _ _)
  | succ fuel ih =>
    intro x3p17 x5p17 x7p17 r h H locs ls hP hD hS hl hk0
    obtain ⟨o, h, ho⟩ := kb_w_s h
    have h : kSX5_unntt_17 x2p2 n_a1 f_this_points f_a1 x3p17 x5p17 x7p17 = some o := h
    unfold kSX5_unntt_17 at h
    refine lv_iload hx hb kdX5_unntt_17 (lv_at hl 5 rfl) ?_
    refine lv_sipush (v := 128) hx hb kdX5_unntt_19 (by decide) ?_
    refine lv_icmp_ge (tgt := 94) hx hb kdX5_unntt_22 (by decide) (fun c_2 => ?_) (fun c_2 => ?_)
    · have h := kb_b_t c_2 h
      obtain rfl := Option.some.inj h
      exact hk0 x3p17 x5p17 x7p17 ho.symm _ _ _ hP hD hS (lv_sub hl [0, 1, 2, 3, 4, 5] rfl)
    · have h := kb_b_f c_2 h
      refine lv_aload_n hx hb kdX5_unntt_25 rfl (lv_at hl 0 rfl) ?_
      refine va_get (ci := 5) (v := .ref (a_this 24)) (C := kRX5) (T := kTX5) (N := 35) hx hb hts kinX5 hown hK hP 0 rfl rfl 24 (by decide) (hts _ km_705) (fun _ h9 => h9) rfl kdX5_unntt_26 ?_
      refine lv_sipush (v := 256) hx hb kdX5_unntt_29 (by decide) ?_
      refine lv_iconst (v := 2) hx hb kdX5_unntt_32 (by decide) ?_
      refine lv_iload hx hb kdX5_unntt_33 (lv_at hl 5 rfl) ?_
      refine lv_bipush (v := 7) hx hb kdX5_unntt_35 (by decide) ?_
      obtain ⟨u_4, hu_4, h⟩ := kb_o_s h
      obtain ⟨r_3, rfl⟩ : ∃ z, z = u_4 := ⟨_, rfl⟩
      have hC := (show ([] : List Nat).map (fun i : Nat => (kWX5_unntt cB cI cL cBB cII cSh h_this a_this h_a1 n_a1 this_taped this_code this_kind this_rate this_filled this_total this_bitAt this_k this_e1 this_du this_dv f_this_sump2 f_this_points f_a1)[i]?) = List.map some (kWX5_turned cB cI cL cBB cII cSh) from rfl)
      have hPc := kb_Psub hP ([] : List Nat) hC
      have hDc := kb_Dsub hD ([] : List Nat) hC (by simp [kb_nd])
      refine kb_call0 (va_runS (As := [.int x7p17, .int (7 : Int32)]) (rest := [.int (2 : Int32), .int (256 : Int32), .ref (a_this 24)]) C0 (kcX5_turned l D cB cI cL cBB cII cSh  _ x7p17 (7 : Int32) r_3 hu_4) (va_cwS 2 hts (kb_gS km_865 km_866 km_6 km_867) rfl rfl rfl (by decide +kernel) ⟨Nat.le_of_ble_eq_true rfl, Nat.le_of_ble_eq_true rfl⟩) ⟨kb_P_bl, (fun U hU hW => ⟨rfl, by rw [hU], by rw [hU]; exact hPc, va_K.moved hW.alike hK, kb_N_to hW hN, hDc.weaken (fun _ _ _ _ => trivial)⟩)⟩ rfl rfl hl.1 rfl (lv_room (Nat.le_of_ble_eq_true rfl)) kdX5_unntt_37 ⟨hcR, hsR⟩) hP hD hS hA ([] : List Nat) hC rfl (fun H locs hP hD hS => ?_)
      have hP : va_P D kCl (kWX5_unntt cB cI cL cBB cII cSh h_this a_this h_a1 n_a1 this_taped this_code this_kind this_rate this_filled this_total this_bitAt this_k this_e1 this_du this_dv f_this_sump2 f_this_points f_a1) H := hP
      have hD : va_D A (kWX5_unntt cB cI cL cBB cII cSh h_this a_this h_a1 n_a1 this_taped this_code this_kind this_rate this_filled this_total this_bitAt this_k this_e1 this_du this_dv f_this_sump2 f_this_points f_a1) := hD
      refine lv_imul hx hb kdX5_unntt_40 ?_
      refine lv_iconst (v := 1) hx hb kdX5_unntt_41 (by decide) ?_
      refine lv_iadd hx hb kdX5_unntt_42 ?_
      refine lv_iload_n hx hb kdX5_unntt_43 rfl (lv_at hl 2 rfl) ?_
      refine lv_imul hx hb kdX5_unntt_44 ?_
      refine lv_sipush (v := 256) hx hb kdX5_unntt_45 (by decide) ?_
      refine lv_irem hx hb kdX5_unntt_48 (by decide) ?_
      refine lv_topi (fun q_5 eq_5 => ?_)
      have h := kb_n_s eq_5 h
      refine lv_isub hx hb kdX5_unntt_49 ?_
      refine lv_sipush (v := 256) hx hb kdX5_unntt_50 (by decide) ?_
      refine lv_irem hx hb kdX5_unntt_53 (by decide) ?_
      refine lv_topi (fun q_6 eq_6 => ?_)
      have h := kb_n_s eq_6 h
      obtain ⟨g_7, h⟩ := kb_g_s h
      refine va_iald hx hb hK hP 2 1 rfl rfl (kb_in_v g_7) kdX5_unntt_54 ?_
      refine lv_i2l (v := ((f_this_points q_6.toNatClampNeg).toInt64)) hx hb kdX5_unntt_55 rfl ?_
      refine lv_topl (fun x8_8 ex8_8 => ?_)
      have h := kb_n_s ex8_8 h
      refine lv_lstore (lv' := [(8, .long x8_8), (0, .ref h_this), (1, .ref h_a1), (2, .int x2p2), (3, .long x3p17), (5, .long x5p17), (7, .int x7p17)]) hx hb kdX5_unntt_56 hl (by decide) rfl (fun ls hl => ?_)
      refine lv_lload_n hx hb kdX5_unntt_58 rfl (lv_at hl 4 rfl) ?_
      refine lv_aload_n hx hb kdX5_unntt_59 rfl (lv_at hl 2 rfl) ?_
      refine lv_iconst (v := 2) hx hb kdX5_unntt_60 (by decide) ?_
      refine lv_iload hx hb kdX5_unntt_61 (lv_at hl 6 rfl) ?_
      refine lv_imul hx hb kdX5_unntt_63 ?_
      obtain ⟨g_9, h⟩ := kb_g_s h
      refine va_iald hx hb hK hP 3 1 rfl rfl (kb_in_v g_9) kdX5_unntt_64 ?_
      refine lv_i2l (v := ((f_a1 ((2 : Int32) * x7p17).toNatClampNeg).toInt64)) hx hb kdX5_unntt_65 rfl ?_
      refine lv_lload hx hb kdX5_unntt_66 (lv_at hl 0 rfl) ?_
      refine lv_lmul hx hb kdX5_unntt_68 ?_
      refine lv_ladd hx hb kdX5_unntt_69 ?_
      refine lv_topl (fun x3_10 ex3_10 => ?_)
      have h := kb_n_s ex3_10 h
      refine lv_lstore_n (lv' := [(3, .long x3_10), (8, .long x8_8), (0, .ref h_this), (1, .ref h_a1), (2, .int x2p2), (5, .long x5p17), (7, .int x7p17)]) hx hb kdX5_unntt_70 rfl hl (by decide) rfl (fun ls hl => ?_)
      refine lv_lload hx hb kdX5_unntt_71 (lv_at hl 5 rfl) ?_
      refine lv_aload_n hx hb kdX5_unntt_73 rfl (lv_at hl 3 rfl) ?_
      refine lv_iconst (v := 2) hx hb kdX5_unntt_74 (by decide) ?_
      refine lv_iload hx hb kdX5_unntt_75 (lv_at hl 6 rfl) ?_
      refine lv_imul hx hb kdX5_unntt_77 ?_
      refine lv_iconst (v := 1) hx hb kdX5_unntt_78 (by decide) ?_
      refine lv_iadd hx hb kdX5_unntt_79 ?_
      obtain ⟨g_11, h⟩ := kb_g_s h
      refine va_iald hx hb hK hP 3 1 rfl rfl (kb_in_v g_11) kdX5_unntt_80 ?_
      refine lv_i2l (v := ((f_a1 (((2 : Int32) * x7p17) + (1 : Int32)).toNatClampNeg).toInt64)) hx hb kdX5_unntt_81 rfl ?_
      refine lv_lload hx hb kdX5_unntt_82 (lv_at hl 1 rfl) ?_
      refine lv_lmul hx hb kdX5_unntt_84 ?_
      refine lv_ladd hx hb kdX5_unntt_85 ?_
      refine lv_topl (fun x5_12 ex5_12 => ?_)
      have h := kb_n_s ex5_12 h
      refine lv_lstore (lv' := [(5, .long x5_12), (3, .long x3_10), (8, .long x8_8), (0, .ref h_this), (1, .ref h_a1), (2, .int x2p2), (7, .int x7p17)]) hx hb kdX5_unntt_86 hl (by decide) rfl (fun ls hl => ?_)
      obtain ⟨x7_13, ex7_13⟩ : ∃ y : Int32, y = x7p17 + Int32.ofInt 1 := ⟨_, rfl⟩
      have h := kb_n_s ex7_13 h
      refine lv_iinc (v := x7_13) (lv' := [(7, .int x7_13), (5, .long x5_12), (3, .long x3_10), (8, .long x8_8), (0, .ref h_this), (1, .ref h_a1), (2, .int x2p2)]) hx hb kdX5_unntt_88 hl (k := 6) rfl ex7_13.symm (by decide) rfl (fun ls hl => ?_)
      refine lv_goto (tgt := 17) hx hb kdX5_unntt_91 (by decide) ?_
      obtain rfl := Option.some.inj h
      exact ih x3_10 x5_12 x7_13 r ho _ _ _ hP hD hS (lv_sub hl [4, 5, 6, 2, 1, 0] rfl) hk0
set_option maxHeartbeats 4000000 in
set_option maxRecDepth 100000 in
theorem klX5_unntt_2 {p : Program} {l : Launch} {e : Env} {s : State} {m : MethodId} {args : Array Value} {below : List Frame} {meth : Method} {c : Code} {cells slots : Nat} {Q : State → Prop} {D : va_G} {cB cI cL cBB cII cSh : ClassId} {A : Nat → Prop} (C0 : CallFix p m c prog_8_method_45_code 10 s args kwA kRX5) (hlocks : meth.locks = false) (hK : va_K D kCl (kb_T cB cI cL cBB cII cSh) s) (hN : kb_N s) (hA : ∀ q, s.heap.size ≤ q → A q) (hcR : cells ≤ krX5_unntt.cells) (hsR : slots ≤ krX5_unntt.slots) (h_this h_a1 : Nat) (a_this : Nat → Nat) (n_a1 : Nat) (this_taped : Int32) (this_code : Int32) (this_kind : Int32) (this_rate : Int32) (this_filled : Int32) (this_total : Int64) (this_bitAt : Int32) (this_k : Int32) (this_e1 : Int32) (this_du : Int32) (this_dv : Int32) (f_this_points : Nat → Int32) (f_a1 : Nat → Int32) :
    ∀ (fuel : Nat) (x2p2 : Int32) (f_this_sump2 : Nat → Int64) (r : Int32 × (Nat → Int64)), kb_w (fun u : Int32 × (Nat → Int64) => kSX5_unntt_2 n_a1 f_this_points f_a1 u.1 u.2) fuel (x2p2, f_this_sump2) = some r → ∀ (H : Heap) (locs : List Loc) (ls : Array Slot), va_P D kCl (kWX5_unntt cB cI cL cBB cII cSh h_this a_this h_a1 n_a1 this_taped this_code this_kind this_rate this_filled this_total this_bitAt this_k this_e1 this_du this_dv f_this_sump2 f_this_points f_a1) H → va_D A (kWX5_unntt cB cI cL cBB cII cSh h_this a_this h_a1 n_a1 this_taped this_code this_kind this_rate this_filled this_total this_bitAt this_k this_e1 this_du this_dv f_this_sump2 f_this_points f_a1) → va_S A s.heap H locs → lv_has ls 10 [(0, .ref h_this), (1, .ref h_a1), (2, .int x2p2)] → (∀ (x2p2' : Int32) (f_this_sump2' : Nat → Int64), r = (x2p2', f_this_sump2') → ∀ (H : Heap) (locs : List Loc) (ls : Array Slot), va_P D kCl (kWX5_unntt cB cI cL cBB cII cSh h_this a_this h_a1 n_a1 this_taped this_code this_kind this_rate this_filled this_total this_bitAt this_k this_e1 this_du this_dv f_this_sump2' f_this_points f_a1) H → va_D A (kWX5_unntt cB cI cL cBB cII cSh h_this a_this h_a1 n_a1 this_taped this_code this_kind this_rate this_filled this_total this_bitAt this_k this_e1 this_du this_dv f_this_sump2' f_this_points f_a1) → va_S A s.heap H locs → lv_has ls 10 [(0, .ref h_this), (1, .ref h_a1), (2, .int x2p2')] → W p l e krX5_unntt s m args below meth c H locs cells slots Q (F0 m 145 ls [])) → W p l e krX5_unntt s m args below meth c H locs cells slots Q (F0 m 2 ls []) := by
  obtain ⟨hx, hb, hml, hown, hts⟩ := id C0
  intro fuel
  induction fuel with
  | zero =>
    intro x2p2 f_this_sump2 r h
    exact absurd h (kb_w_z _ _ _)
  | succ fuel ih =>
    intro x2p2 f_this_sump2 r h H locs ls hP hD hS hl hk0
    obtain ⟨o, h, ho⟩ := kb_w_s h
    have h : kSX5_unntt_2 n_a1 f_this_points f_a1 x2p2 f_this_sump2 = some o := h
    unfold kSX5_unntt_2 at h
    refine lv_iload_n hx hb kdX5_unntt_2 rfl (lv_at hl 2 rfl) ?_
    refine lv_sipush (v := 128) hx hb kdX5_unntt_3 (by decide) ?_
    refine lv_icmp_ge (tgt := 145) hx hb kdX5_unntt_6 (by decide) (fun c_1 => ?_) (fun c_1 => ?_)
    · have h := kb_b_t c_1 h
      obtain rfl := Option.some.inj h
      exact hk0 x2p2 f_this_sump2 ho.symm _ _ _ hP hD hS (lv_sub hl [0, 1, 2] rfl)
    · have h := kb_b_f c_1 h
      refine lv_lconst (v := 0) hx hb kdX5_unntt_9 (by decide) ?_
      refine lv_lstore_n (lv' := [(3, .long (0 : Int64)), (0, .ref h_this), (1, .ref h_a1), (2, .int x2p2)]) hx hb kdX5_unntt_10 rfl hl (by decide) rfl (fun ls hl => ?_)
      refine lv_lconst (v := 0) hx hb kdX5_unntt_11 (by decide) ?_
      refine lv_lstore (lv' := [(5, .long (0 : Int64)), (3, .long (0 : Int64)), (0, .ref h_this), (1, .ref h_a1), (2, .int x2p2)]) hx hb kdX5_unntt_12 hl (by decide) rfl (fun ls hl => ?_)
      refine lv_iconst (v := 0) hx hb kdX5_unntt_14 (by decide) ?_
      refine lv_istore (lv' := [(7, .int (0 : Int32)), (5, .long (0 : Int64)), (3, .long (0 : Int64)), (0, .ref h_this), (1, .ref h_a1), (2, .int x2p2)]) hx hb kdX5_unntt_15 hl (by decide) rfl (fun ls hl => ?_)
      obtain ⟨r_24, hr_24, h⟩ := kb_o_s h
      refine klX5_unntt_17 C0 hlocks hK hN hA hcR hsR h_this h_a1 a_this x2p2 n_a1 this_taped this_code this_kind this_rate this_filled this_total this_bitAt this_k this_e1 this_du this_dv f_this_sump2 f_this_points f_a1 100000 (0 : Int64) (0 : Int64) (0 : Int32) r_24 hr_24 _ _ _ hP hD hS (lv_sub hl [3, 4, 5, 2, 1, 0] rfl) (fun x3p17_14 x5p17_15 x7p17_16 er_24 H locs ls hP hD hS hl => ?_)
      subst er_24
      refine lv_aload_n hx hb kdX5_unntt_94 rfl (lv_at hl 0 rfl) ?_
      refine va_get (ci := 5) (v := .ref (a_this 23)) (C := kRX5) (T := kTX5) (N := 35) hx hb hts kinX5 hown hK hP 0 rfl rfl 23 (by decide) (hts _ km_704) (fun _ h9 => h9) rfl kdX5_unntt_95 ?_
      refine lv_iconst (v := 2) hx hb kdX5_unntt_98 (by decide) ?_
      refine lv_iload_n hx hb kdX5_unntt_99 rfl (lv_at hl 2 rfl) ?_
      refine lv_imul hx hb kdX5_unntt_100 ?_
      refine lv_lload_n hx hb kdX5_unntt_101 rfl (lv_at hl 3 rfl) ?_
      refine lv_ldc2 (v := 3329) hx hb hown (hts _ km_868) kdX5_unntt_102 ?_
      refine lv_lrem hx hb kdX5_unntt_105 (by decide) ?_
      refine lv_ldc2 (v := 3303) hx hb hown (hts _ km_903) kdX5_unntt_106 ?_
      refine lv_lmul hx hb kdX5_unntt_109 ?_
      refine lv_ldc2 (v := 3329) hx hb hown (hts _ km_868) kdX5_unntt_110 ?_
      refine lv_lrem hx hb kdX5_unntt_113 (by decide) ?_
      refine lv_topl (fun q_17 eq_17 => ?_)
      have h := kb_n_s eq_17 h
      obtain ⟨g_18, h⟩ := kb_g_s h
      refine va_last hx hb hK hP hD hS 1 2 rfl rfl (kb_in_v g_18) kdX5_unntt_114 (fun H locs hP hD hS => ?_)
      obtain ⟨f_19, ef_19⟩ : ∃ y, y = vp_updL f_this_sump2 ((2 : Int32) * x2p2).toNatClampNeg q_17 := ⟨_, rfl⟩
      have h := kb_n_s ef_19 h
      have hP : va_P D kCl (kWX5_unntt cB cI cL cBB cII cSh h_this a_this h_a1 n_a1 this_taped this_code this_kind this_rate this_filled this_total this_bitAt this_k this_e1 this_du this_dv f_19 f_this_points f_a1) H := by rw [ef_19]; exact hP
      have hD : va_D A (kWX5_unntt cB cI cL cBB cII cSh h_this a_this h_a1 n_a1 this_taped this_code this_kind this_rate this_filled this_total this_bitAt this_k this_e1 this_du this_dv f_19 f_this_points f_a1) := by rw [ef_19]; exact hD
      refine lv_aload_n hx hb kdX5_unntt_115 rfl (lv_at hl 0 rfl) ?_
      refine va_get (ci := 5) (v := .ref (a_this 23)) (C := kRX5) (T := kTX5) (N := 35) hx hb hts kinX5 hown hK hP 0 rfl rfl 23 (by decide) (hts _ km_704) (fun _ h9 => h9) rfl kdX5_unntt_116 ?_
      refine lv_iconst (v := 2) hx hb kdX5_unntt_119 (by decide) ?_
      refine lv_iload_n hx hb kdX5_unntt_120 rfl (lv_at hl 2 rfl) ?_
      refine lv_imul hx hb kdX5_unntt_121 ?_
      refine lv_iconst (v := 1) hx hb kdX5_unntt_122 (by decide) ?_
      refine lv_iadd hx hb kdX5_unntt_123 ?_
      refine lv_lload hx hb kdX5_unntt_124 (lv_at hl 4 rfl) ?_
      refine lv_ldc2 (v := 3329) hx hb hown (hts _ km_868) kdX5_unntt_126 ?_
      refine lv_lrem hx hb kdX5_unntt_129 (by decide) ?_
      refine lv_ldc2 (v := 3303) hx hb hown (hts _ km_903) kdX5_unntt_130 ?_
      refine lv_lmul hx hb kdX5_unntt_133 ?_
      refine lv_ldc2 (v := 3329) hx hb hown (hts _ km_868) kdX5_unntt_134 ?_
      refine lv_lrem hx hb kdX5_unntt_137 (by decide) ?_
      refine lv_topl (fun q_20 eq_20 => ?_)
      have h := kb_n_s eq_20 h
      obtain ⟨g_21, h⟩ := kb_g_s h
      refine va_last hx hb hK hP hD hS 1 2 rfl rfl (kb_in_v g_21) kdX5_unntt_138 (fun H locs hP hD hS => ?_)
      obtain ⟨f_22, ef_22⟩ : ∃ y, y = vp_updL f_19 (((2 : Int32) * x2p2) + (1 : Int32)).toNatClampNeg q_20 := ⟨_, rfl⟩
      have h := kb_n_s ef_22 h
      have hP : va_P D kCl (kWX5_unntt cB cI cL cBB cII cSh h_this a_this h_a1 n_a1 this_taped this_code this_kind this_rate this_filled this_total this_bitAt this_k this_e1 this_du this_dv f_22 f_this_points f_a1) H := by rw [ef_22]; exact hP
      have hD : va_D A (kWX5_unntt cB cI cL cBB cII cSh h_this a_this h_a1 n_a1 this_taped this_code this_kind this_rate this_filled this_total this_bitAt this_k this_e1 this_du this_dv f_22 f_this_points f_a1) := by rw [ef_22]; exact hD
      obtain ⟨x2_23, ex2_23⟩ : ∃ y : Int32, y = x2p2 + Int32.ofInt 1 := ⟨_, rfl⟩
      have h := kb_n_s ex2_23 h
      refine lv_iinc (v := x2_23) (lv' := [(2, .int x2_23), (0, .ref h_this), (1, .ref h_a1), (3, .long x3p17_14), (5, .long x5p17_15), (7, .int x7p17_16)]) hx hb kdX5_unntt_139 hl (k := 2) rfl ex2_23.symm (by decide) rfl (fun ls hl => ?_)
      refine lv_goto (tgt := 2) hx hb kdX5_unntt_142 (by decide) ?_
      obtain rfl := Option.some.inj h
      exact ih x2_23 f_22 r ho _ _ _ hP hD hS (lv_sub hl [1, 2, 0] rfl) hk0
set_option maxHeartbeats 4000000 in
set_option maxRecDepth 100000 in
theorem klX5_unntt_147 {p : Program} {l : Launch} {e : Env} {s : State} {m : MethodId} {args : Array Value} {below : List Frame} {meth : Method} {c : Code} {cells slots : Nat} {Q : State → Prop} {D : va_G} {cB cI cL cBB cII cSh : ClassId} {A : Nat → Prop} (C0 : CallFix p m c prog_8_method_45_code 10 s args kwA kRX5) (hlocks : meth.locks = false) (hK : va_K D kCl (kb_T cB cI cL cBB cII cSh) s) (hN : kb_N s) (hA : ∀ q, s.heap.size ≤ q → A q) (hcR : cells ≤ krX5_unntt.cells) (hsR : slots ≤ krX5_unntt.slots) (h_this h_a1 : Nat) (a_this : Nat → Nat) (n_a1 : Nat) (this_taped : Int32) (this_code : Int32) (this_kind : Int32) (this_rate : Int32) (this_filled : Int32) (this_total : Int64) (this_bitAt : Int32) (this_k : Int32) (this_e1 : Int32) (this_du : Int32) (this_dv : Int32) (f_this_sump2_26 : Nat → Int64) (f_this_points : Nat → Int32) :
    ∀ (fuel : Nat) (x2p147 : Int32) (f_a1p147 : Nat → Int32) (r : Int32 × (Nat → Int32)), kb_w (fun u : Int32 × (Nat → Int32) => kSX5_unntt_147 n_a1 f_this_sump2_26 u.1 u.2) fuel (x2p147, f_a1p147) = some r → ∀ (H : Heap) (locs : List Loc) (ls : Array Slot), va_P D kCl (kWX5_unntt cB cI cL cBB cII cSh h_this a_this h_a1 n_a1 this_taped this_code this_kind this_rate this_filled this_total this_bitAt this_k this_e1 this_du this_dv f_this_sump2_26 f_this_points f_a1p147) H → va_D A (kWX5_unntt cB cI cL cBB cII cSh h_this a_this h_a1 n_a1 this_taped this_code this_kind this_rate this_filled this_total this_bitAt this_k this_e1 this_du this_dv f_this_sump2_26 f_this_points f_a1p147) → va_S A s.heap H locs → lv_has ls 10 [(0, .ref h_this), (1, .ref h_a1), (2, .int x2p147)] → (∀ (x2p147' : Int32) (f_a1p147' : Nat → Int32), r = (x2p147', f_a1p147') → ∀ (H : Heap) (locs : List Loc) (ls : Array Slot), va_P D kCl (kWX5_unntt cB cI cL cBB cII cSh h_this a_this h_a1 n_a1 this_taped this_code this_kind this_rate this_filled this_total this_bitAt this_k this_e1 this_du this_dv f_this_sump2_26 f_this_points f_a1p147') H → va_D A (kWX5_unntt cB cI cL cBB cII cSh h_this a_this h_a1 n_a1 this_taped this_code this_kind this_rate this_filled this_total this_bitAt this_k this_e1 this_du this_dv f_this_sump2_26 f_this_points f_a1p147') → va_S A s.heap H locs → lv_has ls 10 [(0, .ref h_this), (1, .ref h_a1), (2, .int x2p147')] → W p l e krX5_unntt s m args below meth c H locs cells slots Q (F0 m 170 ls [])) → W p l e krX5_unntt s m args below meth c H locs cells slots Q (F0 m 147 ls []) := by
  obtain ⟨hx, hb, hml, hown, hts⟩ := id C0
  intro fuel
  induction fuel with
  | zero =>
    intro x2p147 f_a1p147 r h
    exact absurd h (kb_w_z _ _ _)
  | succ fuel ih =>
    intro x2p147 f_a1p147 r h H locs ls hP hD hS hl hk0
    obtain ⟨o, h, ho⟩ := kb_w_s h
    have h : kSX5_unntt_147 n_a1 f_this_sump2_26 x2p147 f_a1p147 = some o := h
    unfold kSX5_unntt_147 at h
    refine lv_iload_n hx hb kdX5_unntt_147 rfl (lv_at hl 2 rfl) ?_
    refine lv_sipush (v := 256) hx hb kdX5_unntt_148 (by decide) ?_
    refine lv_icmp_ge (tgt := 170) hx hb kdX5_unntt_151 (by decide) (fun c_27 => ?_) (fun c_27 => ?_)
    · have h := kb_b_t c_27 h
      obtain rfl := Option.some.inj h
      exact hk0 x2p147 f_a1p147 ho.symm _ _ _ hP hD hS (lv_sub hl [0, 1, 2] rfl)
    · have h := kb_b_f c_27 h
      refine lv_aload_n hx hb kdX5_unntt_154 rfl (lv_at hl 1 rfl) ?_
      refine lv_iload_n hx hb kdX5_unntt_155 rfl (lv_at hl 2 rfl) ?_
      refine lv_aload_n hx hb kdX5_unntt_156 rfl (lv_at hl 0 rfl) ?_
      refine va_get (ci := 5) (v := .ref (a_this 23)) (C := kRX5) (T := kTX5) (N := 35) hx hb hts kinX5 hown hK hP 0 rfl rfl 23 (by decide) (hts _ km_704) (fun _ h9 => h9) rfl kdX5_unntt_157 ?_
      refine lv_iload_n hx hb kdX5_unntt_160 rfl (lv_at hl 2 rfl) ?_
      obtain ⟨g_28, h⟩ := kb_g_s h
      refine va_lald hx hb hK hP 1 2 rfl rfl (kb_in_v g_28) kdX5_unntt_161 ?_
      refine lv_l2i (v := ((f_this_sump2_26 x2p147.toNatClampNeg).toInt32)) hx hb kdX5_unntt_162 rfl ?_
      obtain ⟨g_29, h⟩ := kb_g_s h
      refine va_iast hx hb hK hP hD hS 3 1 rfl rfl (kb_in_v g_29) kdX5_unntt_163 (fun H locs hP hD hS => ?_)
      obtain ⟨f_30, ef_30⟩ : ∃ y, y = upd f_a1p147 x2p147.toNatClampNeg ((f_this_sump2_26 x2p147.toNatClampNeg).toInt32) := ⟨_, rfl⟩
      have h := kb_n_s ef_30 h
      have hP : va_P D kCl (kWX5_unntt cB cI cL cBB cII cSh h_this a_this h_a1 n_a1 this_taped this_code this_kind this_rate this_filled this_total this_bitAt this_k this_e1 this_du this_dv f_this_sump2_26 f_this_points f_30) H := by rw [ef_30]; exact hP
      have hD : va_D A (kWX5_unntt cB cI cL cBB cII cSh h_this a_this h_a1 n_a1 this_taped this_code this_kind this_rate this_filled this_total this_bitAt this_k this_e1 this_du this_dv f_this_sump2_26 f_this_points f_30) := by rw [ef_30]; exact hD
      obtain ⟨x2_31, ex2_31⟩ : ∃ y : Int32, y = x2p147 + Int32.ofInt 1 := ⟨_, rfl⟩
      have h := kb_n_s ex2_31 h
      refine lv_iinc (v := x2_31) (lv' := [(2, .int x2_31), (0, .ref h_this), (1, .ref h_a1)]) hx hb kdX5_unntt_164 hl (k := 2) rfl ex2_31.symm (by decide) rfl (fun ls hl => ?_)
      refine lv_goto (tgt := 147) hx hb kdX5_unntt_167 (by decide) ?_
      obtain rfl := Option.some.inj h
      exact ih x2_31 f_30 r ho _ _ _ hP hD hS (lv_sub hl [1, 2, 0] rfl) hk0
set_option maxHeartbeats 4000000 in
set_option maxRecDepth 100000 in
theorem kcX5_unntt (l : Launch) (D : va_G) (cB cI cL cBB cII cSh : ClassId) (h_this h_a1 : Nat) (a_this : Nat → Nat) (sz : Nat) (n_a1 : Nat) (this_taped : Int32) (this_code : Int32) (this_kind : Int32) (this_rate : Int32) (this_filled : Int32) (this_total : Int64) (this_bitAt : Int32) (this_k : Int32) (this_e1 : Int32) (this_du : Int32) (this_dv : Int32) (f_this_sum : Nat → Int64) (f_this_points : Nat → Int32) (f_a1 : Nat → Int32) (out : (Nat → Int64) × (Nat → Int32)) (h : kFX5_unntt n_a1 f_this_sum f_this_points f_a1 = some out) : Met l kyX5_unntt kwX5_unntt krX5_unntt (kb_P D kCl (kb_T cB cI cL cBB cII cSh) [.ref h_this, .ref h_a1] (kWX5_unntt cB cI cL cBB cII cSh h_this a_this h_a1 n_a1 this_taped this_code this_kind this_rate this_filled this_total this_bitAt this_k this_e1 this_du this_dv f_this_sum f_this_points f_a1) sz) (kb_Q D kCl (kb_T cB cI cL cBB cII cSh) (va_A (kWX5_unntt cB cI cL cBB cII cSh h_this a_this h_a1 n_a1 this_taped this_code this_kind this_rate this_filled this_total this_bitAt this_k this_e1 this_du this_dv f_this_sum f_this_points f_a1) sz) none (kWX5_unntt cB cI cL cBB cII cSh h_this a_this h_a1 n_a1 this_taped this_code this_kind this_rate this_filled this_total this_bitAt this_k this_e1 this_du this_dv out.1 f_this_points out.2)) 0 0 (va_A (kWX5_unntt cB cI cL cBB cII cSh h_this a_this h_a1 n_a1 this_taped this_code this_kind this_rate this_filled this_total this_bitAt this_k this_e1 this_du this_dv f_this_sum f_this_points f_a1) sz) := by
  refine Met.ofW (cc := prog_8_method_45_code) (maxL := 10) (ret := none) (by decide) rfl ?_
  intro p e s m args below meth c s₁ B hml hv
  obtain ⟨rfl, hsz, hP, hK, hN, hD0⟩ := hv
  have hx := B.exec
  have hb := B.bytes
  have hr := B.returns
  have hts0 := atoms_spec (ws := kwX5_unntt) B.pre
  have hts : ∀ w ∈ kwA, w.before _ s = true := fun w h => hts0 w (List.mem_cons_of_mem _ h)
  have hown : s.vm.findClass kRX5 = some m.cls := findClass_of_methodNamed B.named
  have hlocks := B.notSynchronized
  subst hsz
  have hD := hD0.self (sz := s.heap.size)
  generalize hAe : va_A (kWX5_unntt cB cI cL cBB cII cSh h_this a_this h_a1 n_a1 this_taped this_code this_kind this_rate this_filled this_total this_bitAt this_k this_e1 this_du this_dv f_this_sum f_this_points f_a1) s.heap.size = A at hD ⊢
  have hA : ∀ q : Nat, s.heap.size ≤ q → A q := fun q h => by rw [← hAe]; exact Or.inr h
  have hS : va_S A s.heap s.heap [] := va_S.rf
  have C0 : CallFix p m c prog_8_method_45_code 10 s _ kwA kRX5 := ⟨hx, hb, hml, hown, hts⟩
  have hl := lv_entry ([.ref h_this, .ref h_a1]) (n := 10) (Nat.le_of_ble_eq_true rfl)
  rw [lg_entry_eq]
  generalize (lg_sl ([.ref h_this, .ref h_a1]) ++ List.replicate (10 - (lg_sl ([.ref h_this, .ref h_a1])).length) Slot.unset).toArray = ls at hl ⊢
  have hl : lv_has ls 10 [(0, .ref h_this), (1, .ref h_a1)] := hl
  unfold kFX5_unntt at h
  refine lv_iconst (v := 0) hx hb kdX5_unntt_0 (by decide) ?_
  refine lv_istore_n (lv' := [(2, .int (0 : Int32)), (0, .ref h_this), (1, .ref h_a1)]) hx hb kdX5_unntt_1 rfl hl (by decide) rfl (fun ls hl => ?_)
  obtain ⟨r_35, hr_35, h⟩ := kb_o_s h
  refine klX5_unntt_2 C0 hlocks hK hN hA (by decide) (by decide) h_this h_a1 a_this n_a1 this_taped this_code this_kind this_rate this_filled this_total this_bitAt this_k this_e1 this_du this_dv f_this_points f_a1 100000 (0 : Int32) f_this_sum r_35 hr_35 _ _ _ hP hD hS (lv_sub hl [1, 2, 0] rfl) (fun x2p2_25 f_this_sump2_26 er_35 H locs ls hP hD hS hl => ?_)
  subst er_35
  refine lv_iconst (v := 0) hx hb kdX5_unntt_145 (by decide) ?_
  refine lv_istore_n (lv' := [(2, .int (0 : Int32)), (0, .ref h_this), (1, .ref h_a1)]) hx hb kdX5_unntt_146 rfl hl (by decide) rfl (fun ls hl => ?_)
  obtain ⟨r_34, hr_34, h⟩ := kb_o_s h
  refine klX5_unntt_147 C0 hlocks hK hN hA (by decide) (by decide) h_this h_a1 a_this n_a1 this_taped this_code this_kind this_rate this_filled this_total this_bitAt this_k this_e1 this_du this_dv f_this_sump2_26 f_this_points 100000 (0 : Int32) f_a1 r_34 hr_34 _ _ _ hP hD hS (lv_sub hl [1, 2, 0] rfl) (fun x2p147_32 f_a1p147_33 er_34 H locs ls hP hD hS hl => ?_)
  subst er_34
  obtain rfl := Option.some.inj h
  exact W.vret hx hb hr (fun t ht hW => ⟨⟨rfl, by rw [ht]; exact hP, va_K.moved hW.alike hK, hD⟩, hS.F ht⟩) hS.2.2 kdX5_unntt_170
