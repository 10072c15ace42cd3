-- 421.ModuleKemModel.prime.lean.txt
abbrev kWX5_prime (cB cI cL cBB cII cSh : ClassId)   : va_W := []
def krX5_prime : Room := { frames := 0, cells := 0, slots := 0, locals := 0 }
set_option maxHeartbeats 4000000 in
set_option maxRecDepth 100000 in
theorem klX5_prime_2 {p : Program} {l : Launch} {e : Env} {s : State} {m : MethodId} {args : Array Value} {below : List Frame} {meth : Method} {c : Code} {cells slots : Nat} {Q : State → Prop} {D : va_G} {cB cI cL cBB cII cSh : ClassId} {A : Nat → Prop} (C0 : CallFix p m c prog_8_method_16_code 2 s args kwA kRX5) (hlocks : meth.locks = false) (hK : va_K D kCl (kb_T cB cI cL cBB cII cSh) s) (hN : kb_N s) (hA : ∀ q, s.heap.size ≤ q → A q) (hcR : cells ≤ krX5_prime.cells) (hsR : slots ≤ krX5_prime.slots)  (p1 : Int32) :
    ∀ (fuel : Nat) (x1p2 : Int32) (r : (Int32) ⊕ (Int32)), kb_w (fun u : Int32 => kSX5_prime_2 p1 u) fuel x1p2 = some r → ∀ (H : Heap) (locs : List Loc) (ls : Array Slot), va_P D kCl (kWX5_prime cB cI cL cBB cII cSh) H → va_D A (kWX5_prime cB cI cL cBB cII cSh) → va_S A s.heap H locs → lv_has ls 2 [(0, .int p1), (1, .int x1p2)] → (∀ (x1p2' : Int32), r = .inl x1p2' → ∀ (H : Heap) (locs : List Loc) (ls : Array Slot), va_P D kCl (kWX5_prime cB cI cL cBB cII cSh) H → va_D A (kWX5_prime cB cI cL cBB cII cSh) → va_S A s.heap H locs → lv_has ls 2 [(0, .int p1), (1, .int x1p2')] → W p l e krX5_prime s m args below meth c H locs cells slots Q (F0 m 15 ls [])) → (∀ (x1p2' : Int32), r = .inr x1p2' → ∀ (H : Heap) (locs : List Loc) (ls : Array Slot), va_P D kCl (kWX5_prime cB cI cL cBB cII cSh) H → va_D A (kWX5_prime cB cI cL cBB cII cSh) → va_S A s.heap H locs → lv_has ls 2 [(0, .int p1), (1, .int x1p2')] → W p l e krX5_prime s m args below meth c H locs cells slots Q (F0 m 23 ls [])) → W p l e krX5_prime s m args below meth c H locs cells slots Q (F0 m 2 ls []) := by
  obtain ⟨hx, hb, hml, hown, hts⟩ := id C0
  intro fuel
  induction fuel with
  | zero =>
    intro x1p2 r h
    exact absurd h (kb_w_z _ _ _)
  | succ fuel ih =>
    intro x1p2 r h H locs ls hP hD hS hl hk0 hk1
    obtain ⟨o, h, ho⟩ := kb_w_s h
    have h : kSX5_prime_2 p1 x1p2 = some o := h
    unfold kSX5_prime_2 at h
    refine lv_iload_n hx hb kdX5_prime_2 rfl (lv_at hl 1 rfl) ?_
    refine lv_iload_n hx hb kdX5_prime_3 rfl (lv_at hl 1 rfl) ?_
    refine lv_imul hx hb kdX5_prime_4 ?_
    refine lv_iload_n hx hb kdX5_prime_5 rfl (lv_at hl 0 rfl) ?_
    refine lv_icmp_gt (tgt := 23) hx hb kdX5_prime_6 (by decide) (fun c_1 => ?_) (fun c_1 => ?_)
    · have h := kb_b_t c_1 h
      obtain rfl := Option.some.inj h
      exact hk1 x1p2 ho.symm _ _ _ hP hD hS (lv_sub hl [0, 1] rfl)
    · have h := kb_b_f c_1 h
      refine lv_iload_n hx hb kdX5_prime_9 rfl (lv_at hl 0 rfl) ?_
      refine lv_iload_n hx hb kdX5_prime_10 rfl (lv_at hl 1 rfl) ?_
      obtain ⟨g_2, h⟩ := kb_g_s h
      refine lv_irem hx hb kdX5_prime_11 (of_decide_eq_true g_2) ?_
      refine lv_if_ne (tgt := 17) hx hb kdX5_prime_12 (by decide) (fun c_3 => ?_) (fun c_3 => ?_)
      · have h := kb_b_f c_3 h
        obtain ⟨x1_4, ex1_4⟩ : ∃ y : Int32, y = x1p2 + Int32.ofInt 1 := ⟨_, rfl⟩
        have h := kb_n_s ex1_4 h
        refine lv_iinc (v := x1_4) (lv' := [(1, .int x1_4), (0, .int p1)]) hx hb kdX5_prime_17 hl (k := 1) rfl ex1_4.symm (by decide) rfl (fun ls hl => ?_)
        refine lv_goto (tgt := 2) hx hb kdX5_prime_20 (by decide) ?_
        obtain rfl := Option.some.inj h
        exact ih x1_4 r ho _ _ _ hP hD hS (lv_sub hl [1, 0] rfl) hk0 hk1
      · have h := kb_b_t c_3 h
        obtain rfl := Option.some.inj h
        exact hk0 x1p2 ho.symm _ _ _ hP hD hS (lv_sub hl [0, 1] rfl)
set_option maxHeartbeats 4000000 in
set_option maxRecDepth 100000 in
theorem kcX5_prime (l : Launch) (D : va_G) (cB cI cL cBB cII cSh : ClassId)  (sz : Nat) (p1 : Int32) (out : Int32) (h : kFX5_prime p1 = some out) : Met l kyX5_prime kwX5_prime krX5_prime (kb_P D kCl (kb_T cB cI cL cBB cII cSh) [.int p1] (kWX5_prime cB cI cL cBB cII cSh) sz) (kb_Q D kCl (kb_T cB cI cL cBB cII cSh) (va_A (kWX5_prime cB cI cL cBB cII cSh) sz) (some (.int out)) (kWX5_prime cB cI cL cBB cII cSh)) 0 0 (va_A (kWX5_prime cB cI cL cBB cII cSh) sz) := by
  refine Met.ofW (cc := prog_8_method_16_code) (maxL := 2) (ret := (some .boolean)) (by decide) rfl ?_
  intro p e s m args below meth c s₁ B hml hv
  obtain ⟨rfl, hsz, hP, hK, hN, hD0⟩ := hv
  have hx := B.exec
  have hb := B.bytes
  have hr := B.returns
  have hts0 := atoms_spec (ws := kwX5_prime) B.pre
  have hts : ∀ w ∈ kwA, w.before _ s = true := fun w h => hts0 w (List.mem_cons_of_mem _ h)
  have hown : s.vm.findClass kRX5 = some m.cls := findClass_of_methodNamed B.named
  have hlocks := B.notSynchronized
  subst hsz
  have hD := hD0.self (sz := s.heap.size)
  generalize hAe : va_A (kWX5_prime cB cI cL cBB cII cSh) s.heap.size = A at hD ⊢
  have hA : ∀ q : Nat, s.heap.size ≤ q → A q := fun q h => by rw [← hAe]; exact Or.inr h
  have hS : va_S A s.heap s.heap [] := va_S.rf
  have C0 : CallFix p m c prog_8_method_16_code 2 s _ kwA kRX5 := ⟨hx, hb, hml, hown, hts⟩
  have hl := lv_entry ([.int p1]) (n := 2) (Nat.le_of_ble_eq_true rfl)
  rw [lg_entry_eq]
  generalize (lg_sl ([.int p1]) ++ List.replicate (2 - (lg_sl ([.int p1])).length) Slot.unset).toArray = ls at hl ⊢
  have hl : lv_has ls 2 [(0, .int p1)] := hl
  unfold kFX5_prime at h
  refine lv_iconst (v := 2) hx hb kdX5_prime_0 (by decide) ?_
  refine lv_istore_n (lv' := [(1, .int (2 : Int32)), (0, .int p1)]) hx hb kdX5_prime_1 rfl hl (by decide) rfl (fun ls hl => ?_)
  obtain ⟨r_7, hr_7, h⟩ := kb_o_s h
  refine klX5_prime_2 C0 hlocks hK hN hA (by decide) (by decide) p1 100000 (2 : Int32) r_7 hr_7 _ _ _ hP hD hS (lv_sub hl [1, 0] rfl) (fun x1p2_5 er_7 H locs ls hP hD hS hl => ?_) (fun x1p2_6 er_7 H locs ls hP hD hS hl => ?_)
  · subst er_7
    dsimp only [kb_s] at h
    refine lv_iconst (v := 0) hx hb kdX5_prime_15 (by decide) ?_
    obtain rfl := Option.some.inj h
    exact W.zret (v := (0 : Int32)) (ty := .boolean) hx hb hr (by decide) (fun t ht hW => ⟨⟨rfl, by rw [ht]; exact hP, va_K.moved hW.alike hK, hD⟩, hS.F ht⟩) hS.2.2 kdX5_prime_16
  · subst er_7
    dsimp only [kb_s] at h
    refine lv_iconst (v := 1) hx hb kdX5_prime_23 (by decide) ?_
    obtain rfl := Option.some.inj h
    exact W.zret (v := (1 : Int32)) (ty := .boolean) hx hb hr (by decide) (fun t ht hW => ⟨⟨rfl, by rw [ht]; exact hP, va_K.moved hW.alike hK, hD⟩, hS.F ht⟩) hS.2.2 kdX5_prime_24

-- 422.ModuleKemModel.above.lean.txt
abbrev kWX5_above (cB cI cL cBB cII cSh : ClassId) (h_this : Nat) (a_this : Nat → Nat) (this_taped : Int32) (this_code : Int32) (this_kind : Int32) (this_rate : Int32) (this_filled : Int32) (this_total : Int64) (this_bitAt : Int32) (this_k : Int32) (this_e1 : Int32) (this_du : Int32) (this_dv : Int32) (f_this_limbs : Nat → Int64) (f_this_product : Nat → Int64) : va_W := [(h_this, koX5 a_this this_taped this_code this_kind this_rate this_filled this_total this_bitAt this_k this_e1 this_du this_dv), ((a_this 9), .inl (cL, 16, .inr (.inl f_this_limbs))), ((a_this 10), .inl (cL, 16, .inr (.inl f_this_product)))]
def krX5_above : Room := { frames := 0, cells := 0, slots := 0, locals := 0 }
set_option maxHeartbeats 4000000 in
set_option maxRecDepth 100000 in
theorem klX5_above_3 {p : Program} {l : Launch} {e : Env} {s : State} {m : MethodId} {args : Array Value} {below : List Frame} {meth : Method} {c : Code} {cells slots : Nat} {Q : State → Prop} {D : va_G} {cB cI cL cBB cII cSh : ClassId} {A : Nat → Prop} (C0 : CallFix p m c prog_8_method_17_code 10 s args kwA kRX5) (hlocks : meth.locks = false) (hK : va_K D kCl (kb_T cB cI cL cBB cII cSh) s) (hN : kb_N s) (hA : ∀ q, s.heap.size ≤ q → A q) (hcR : cells ≤ krX5_above.cells) (hsR : slots ≤ krX5_above.slots) (h_this : Nat) (a_this : Nat → Nat) (p1 : Int32) (p2 : Int64) (p3 : Int32) (p4 : Int32) (this_taped : Int32) (this_code : Int32) (this_kind : Int32) (this_rate : Int32) (this_filled : Int32) (this_total : Int64) (this_bitAt : Int32) (this_k : Int32) (this_e1 : Int32) (this_du : Int32) (this_dv : Int32) (f_this_limbs : Nat → Int64) :
    ∀ (fuel : Nat) (x6p3 : Int32) (f_this_productp3 : Nat → Int64) (r : Int32 × (Nat → Int64)), kb_w (fun u : Int32 × (Nat → Int64) => kSX5_above_3 u.1 u.2) fuel (x6p3, f_this_productp3) = some r → ∀ (H : Heap) (locs : List Loc) (ls : Array Slot), va_P D kCl (kWX5_above cB cI cL cBB cII cSh h_this a_this this_taped this_code this_kind this_rate this_filled this_total this_bitAt this_k this_e1 this_du this_dv f_this_limbs f_this_productp3) H → va_D A (kWX5_above cB cI cL cBB cII cSh h_this a_this this_taped this_code this_kind this_rate this_filled this_total this_bitAt this_k this_e1 this_du this_dv f_this_limbs f_this_productp3) → va_S A s.heap H locs → lv_has ls 10 [(0, .ref h_this), (1, .int p1), (2, .long p2), (4, .int p3), (5, .int p4), (6, .int x6p3)] → (∀ (x6p3' : Int32) (f_this_productp3' : Nat → Int64), r = (x6p3', f_this_productp3') → ∀ (H : Heap) (locs : List Loc) (ls : Array Slot), va_P D kCl (kWX5_above cB cI cL cBB cII cSh h_this a_this this_taped this_code this_kind this_rate this_filled this_total this_bitAt this_k this_e1 this_du this_dv f_this_limbs f_this_productp3') H → va_D A (kWX5_above cB cI cL cBB cII cSh h_this a_this this_taped this_code this_kind this_rate this_filled this_total this_bitAt this_k this_e1 this_du this_dv f_this_limbs f_this_productp3') → va_S A s.heap H locs → lv_has ls 10 [(0, .ref h_this), (1, .int p1), (2, .long p2), (4, .int p3), (5, .int p4), (6, .int x6p3')] → W p l e krX5_above s m args below meth c H locs cells slots Q (F0 m 33 ls [])) → W p l e krX5_above s m args below meth c H locs cells slots Q (F0 m 3 ls []) := by
  obtain ⟨hx, hb, hml, hown, hts⟩ := id C0
  intro fuel
  induction fuel with
  | zero =>
    intro x6p3 f_this_productp3 r h
    exact absurd h (kb_w_z _ _ _)
  | succ fuel ih =>
    intro x6p3 f_this_productp3 r h H locs ls hP hD hS hl hk0
    obtain ⟨o, h, ho⟩ := kb_w_s h
    have h : kSX5_above_3 x6p3 f_this_productp3 = some o := h
    unfold kSX5_above_3 at h
    refine lv_iload hx hb kdX5_above_3 (lv_at hl 5 rfl) ?_
    refine lv_bipush (v := 16) hx hb kdX5_above_5 (by decide) ?_
    refine lv_icmp_ge (tgt := 33) hx hb kdX5_above_7 (by decide) (fun c_1 => ?_) (fun c_1 => ?_)
    · have h := kb_b_t c_1 h
      obtain rfl := Option.some.inj h
      exact hk0 x6p3 f_this_productp3 ho.symm _ _ _ hP hD hS (lv_sub hl [0, 1, 2, 3, 4, 5] rfl)
    · have h := kb_b_f c_1 h
      refine lv_aload_n hx hb kdX5_above_10 rfl (lv_at hl 0 rfl) ?_
      refine va_get (ci := 5) (v := .ref (a_this 10)) (C := kRX5) (T := kTX5) (N := 35) hx hb hts kinX5 hown hK hP 0 rfl rfl 10 (by decide) (hts _ km_691) (fun _ h9 => h9) rfl kdX5_above_11 ?_
      refine lv_iload hx hb kdX5_above_14 (lv_at hl 5 rfl) ?_
      refine lv_iload hx hb kdX5_above_16 (lv_at hl 5 rfl) ?_
      refine lv_if_ne (tgt := 25) hx hb kdX5_above_18 (by decide) (fun c_2 => ?_) (fun c_2 => ?_)
      · have h := kb_b_f c_2 h
        refine lv_lconst (v := 0) hx hb kdX5_above_25 (by decide) ?_
        obtain ⟨g_3, h⟩ := kb_g_s h
        refine va_last hx hb hK hP hD hS 2 2 rfl rfl (kb_in_v g_3) kdX5_above_26 (fun H locs hP hD hS => ?_)
        obtain ⟨f_4, ef_4⟩ : ∃ y, y = vp_updL f_this_productp3 x6p3.toNatClampNeg (0 : Int64) := ⟨_, rfl⟩
        have h := kb_n_s ef_4 h
        have hP : va_P D kCl (kWX5_above cB cI cL cBB cII cSh h_this a_this this_taped this_code this_kind this_rate this_filled this_total this_bitAt this_k this_e1 this_du this_dv f_this_limbs f_4) H := by rw [ef_4]; exact hP
        have hD : va_D A (kWX5_above cB cI cL cBB cII cSh h_this a_this this_taped this_code this_kind this_rate this_filled this_total this_bitAt this_k this_e1 this_du this_dv f_this_limbs f_4) := by rw [ef_4]; exact hD
        obtain ⟨x6_5, ex6_5⟩ : ∃ y : Int32, y = x6p3 + Int32.ofInt 1 := ⟨_, rfl⟩
        have h := kb_n_s ex6_5 h
        refine lv_iinc (v := x6_5) (lv' := [(6, .int x6_5), (0, .ref h_this), (1, .int p1), (2, .long p2), (4, .int p3), (5, .int p4)]) hx hb kdX5_above_27 hl (k := 5) rfl ex6_5.symm (by decide) rfl (fun ls hl => ?_)
        refine lv_goto (tgt := 3) hx hb kdX5_above_30 (by decide) ?_
        obtain rfl := Option.some.inj h
        exact ih x6_5 f_4 r ho _ _ _ hP hD hS (lv_sub hl [1, 2, 3, 4, 5, 0] rfl) hk0
      · have h := kb_b_t c_2 h
        refine lv_lconst (v := 1) hx hb kdX5_above_21 (by decide) ?_
        refine lv_goto (tgt := 26) hx hb kdX5_above_22 (by decide) ?_
        obtain ⟨g_6, h⟩ := kb_g_s h
        refine va_last hx hb hK hP hD hS 2 2 rfl rfl (kb_in_v g_6) kdX5_above_26 (fun H locs hP hD hS => ?_)
        obtain ⟨f_7, ef_7⟩ : ∃ y, y = vp_updL f_this_productp3 x6p3.toNatClampNeg (1 : Int64) := ⟨_, rfl⟩
        have h := kb_n_s ef_7 h
        have hP : va_P D kCl (kWX5_above cB cI cL cBB cII cSh h_this a_this this_taped this_code this_kind this_rate this_filled this_total this_bitAt this_k this_e1 this_du this_dv f_this_limbs f_7) H := by rw [ef_7]; exact hP
        have hD : va_D A (kWX5_above cB cI cL cBB cII cSh h_this a_this this_taped this_code this_kind this_rate this_filled this_total this_bitAt this_k this_e1 this_du this_dv f_this_limbs f_7) := by rw [ef_7]; exact hD
        obtain ⟨x6_8, ex6_8⟩ : ∃ y : Int32, y = x6p3 + Int32.ofInt 1 := ⟨_, rfl⟩
        have h := kb_n_s ex6_8 h
        refine lv_iinc (v := x6_8) (lv' := [(6, .int x6_8), (0, .ref h_this), (1, .int p1), (2, .long p2), (4, .int p3), (5, .int p4)]) hx hb kdX5_above_27 hl (k := 5) rfl ex6_8.symm (by decide) rfl (fun ls hl => ?_)
        refine lv_goto (tgt := 3) hx hb kdX5_above_30 (by decide) ?_
        obtain rfl := Option.some.inj h
        exact ih x6_8 f_7 r ho _ _ _ hP hD hS (lv_sub hl [1, 2, 3, 4, 5, 0] rfl) hk0
set_option maxHeartbeats 4000000 in
set_option maxRecDepth 100000 in
theorem klX5_above_46 {p : Program} {l : Launch} {e : Env} {s : State} {m : MethodId} {args : Array Value} {below : List Frame} {meth : Method} {c : Code} {cells slots : Nat} {Q : State → Prop} {D : va_G} {cB cI cL cBB cII cSh : ClassId} {A : Nat → Prop} (C0 : CallFix p m c prog_8_method_17_code 10 s args kwA kRX5) (hlocks : meth.locks = false) (hK : va_K D kCl (kb_T cB cI cL cBB cII cSh) s) (hN : kb_N s) (hA : ∀ q, s.heap.size ≤ q → A q) (hcR : cells ≤ krX5_above.cells) (hsR : slots ≤ krX5_above.slots) (h_this : Nat) (a_this : Nat → Nat) (p1 : Int32) (p2 : Int64) (p3 : Int32) (p4 : Int32) (x6p36 : Int32) (this_taped : Int32) (this_code : Int32) (this_kind : Int32) (this_rate : Int32) (this_filled : Int32) (this_total : Int64) (this_bitAt : Int32) (this_k : Int32) (this_e1 : Int32) (this_du : Int32) (this_dv : Int32) (f_this_productp36 : Nat → Int64) :
    ∀ (fuel : Nat) (x7p46 : Int32) (f_this_limbsp46 : Nat → Int64) (r : Int32 × (Nat → Int64)), kb_w (fun u : Int32 × (Nat → Int64) => kSX5_above_46 u.1 u.2) fuel (x7p46, f_this_limbsp46) = some r → ∀ (H : Heap) (locs : List Loc) (ls : Array Slot), va_P D kCl (kWX5_above cB cI cL cBB cII cSh h_this a_this this_taped this_code this_kind this_rate this_filled this_total this_bitAt this_k this_e1 this_du this_dv f_this_limbsp46 f_this_productp36) H → va_D A (kWX5_above cB cI cL cBB cII cSh h_this a_this this_taped this_code this_kind this_rate this_filled this_total this_bitAt this_k this_e1 this_du this_dv f_this_limbsp46 f_this_productp36) → va_S A s.heap H locs → lv_has ls 10 [(0, .ref h_this), (1, .int p1), (2, .long p2), (4, .int p3), (5, .int p4), (6, .int x6p36), (7, .int x7p46)] → (∀ (x7p46' : Int32) (f_this_limbsp46' : Nat → Int64), r = (x7p46', f_this_limbsp46') → ∀ (H : Heap) (locs : List Loc) (ls : Array Slot), va_P D kCl (kWX5_above cB cI cL cBB cII cSh h_this a_this this_taped this_code this_kind this_rate this_filled this_total this_bitAt this_k this_e1 this_du this_dv f_this_limbsp46' f_this_productp36) H → va_D A (kWX5_above cB cI cL cBB cII cSh h_this a_this this_taped this_code this_kind this_rate this_filled this_total this_bitAt this_k this_e1 this_du this_dv f_this_limbsp46' f_this_productp36) → va_S A s.heap H locs → lv_has ls 10 [(0, .ref h_this), (1, .int p1), (2, .long p2), (4, .int p3), (5, .int p4), (6, .int x6p36), (7, .int x7p46')] → W p l e krX5_above s m args below meth c H locs cells slots Q (F0 m 67 ls [])) → W p l e krX5_above s m args below meth c H locs cells slots Q (F0 m 46 ls []) := by
  obtain ⟨hx, hb, hml, hown, hts⟩ := id C0
  intro fuel
  induction fuel with
  | zero =>
    intro x7p46 f_this_limbsp46 r h
    exact absurd h (kb_w_z _ _ _)
  | succ fuel ih =>
    intro x7p46 f_this_limbsp46 r h H locs ls hP hD hS hl hk0
    obtain ⟨o, h, ho⟩ := kb_w_s h
    have h : kSX5_above_46 x7p46 f_this_limbsp46 = some o := h
    unfold kSX5_above_46 at h
    refine lv_iload hx hb kdX5_above_46 (lv_at hl 6 rfl) ?_
    refine lv_bipush (v := 16) hx hb kdX5_above_48 (by decide) ?_
    refine lv_icmp_ge (tgt := 67) hx hb kdX5_above_50 (by decide) (fun c_12 => ?_) (fun c_12 => ?_)
    · have h := kb_b_t c_12 h
      obtain rfl := Option.some.inj h
      exact hk0 x7p46 f_this_limbsp46 ho.symm _ _ _ hP hD hS (lv_sub hl [0, 1, 2, 3, 4, 5, 6] rfl)
    · have h := kb_b_f c_12 h
      refine lv_aload_n hx hb kdX5_above_53 rfl (lv_at hl 0 rfl) ?_
      refine va_get (ci := 5) (v := .ref (a_this 9)) (C := kRX5) (T := kTX5) (N := 35) hx hb hts kinX5 hown hK hP 0 rfl rfl 9 (by decide) (hts _ km_690) (fun _ h9 => h9) rfl kdX5_above_54 ?_
      refine lv_iload hx hb kdX5_above_57 (lv_at hl 6 rfl) ?_
      refine lv_lconst (v := 0) hx hb kdX5_above_59 (by decide) ?_
      obtain ⟨g_13, h⟩ := kb_g_s h
      refine va_last hx hb hK hP hD hS 1 2 rfl rfl (kb_in_v g_13) kdX5_above_60 (fun H locs hP hD hS => ?_)
      obtain ⟨f_14, ef_14⟩ : ∃ y, y = vp_updL f_this_limbsp46 x7p46.toNatClampNeg (0 : Int64) := ⟨_, rfl⟩
      have h := kb_n_s ef_14 h
      have hP : va_P D kCl (kWX5_above cB cI cL cBB cII cSh h_this a_this this_taped this_code this_kind this_rate this_filled this_total this_bitAt this_k this_e1 this_du this_dv f_14 f_this_productp36) H := by rw [ef_14]; exact hP
      have hD : va_D A (kWX5_above cB cI cL cBB cII cSh h_this a_this this_taped this_code this_kind this_rate this_filled this_total this_bitAt this_k this_e1 this_du this_dv f_14 f_this_productp36) := by rw [ef_14]; exact hD
      obtain ⟨x7_15, ex7_15⟩ : ∃ y : Int32, y = x7p46 + Int32.ofInt 1 := ⟨_, rfl⟩
      have h := kb_n_s ex7_15 h
      refine lv_iinc (v := x7_15) (lv' := [(7, .int x7_15), (0, .ref h_this), (1, .int p1), (2, .long p2), (4, .int p3), (5, .int p4), (6, .int x6p36)]) hx hb kdX5_above_61 hl (k := 6) rfl ex7_15.symm (by decide) rfl (fun ls hl => ?_)
      refine lv_goto (tgt := 46) hx hb kdX5_above_64 (by decide) ?_
      obtain rfl := Option.some.inj h
      exact ih x7_15 f_14 r ho _ _ _ hP hD hS (lv_sub hl [1, 2, 3, 4, 5, 6, 0] rfl) hk0
set_option maxHeartbeats 4000000 in
set_option maxRecDepth 100000 in
theorem klX5_above_80 {p : Program} {l : Launch} {e : Env} {s : State} {m : MethodId} {args : Array Value} {below : List Frame} {meth : Method} {c : Code} {cells slots : Nat} {Q : State → Prop} {D : va_G} {cB cI cL cBB cII cSh : ClassId} {A : Nat → Prop} (C0 : CallFix p m c prog_8_method_17_code 10 s args kwA kRX5) (hlocks : meth.locks = false) (hK : va_K D kCl (kb_T cB cI cL cBB cII cSh) s) (hN : kb_N s) (hA : ∀ q, s.heap.size ≤ q → A q) (hcR : cells ≤ krX5_above.cells) (hsR : slots ≤ krX5_above.slots) (h_this : Nat) (a_this : Nat → Nat) (p1 : Int32) (p2 : Int64) (p3 : Int32) (p4 : Int32) (x6p36 : Int32) (x7p70 : Int32) (this_taped : Int32) (this_code : Int32) (this_kind : Int32) (this_rate : Int32) (this_filled : Int32) (this_total : Int64) (this_bitAt : Int32) (this_k : Int32) (this_e1 : Int32) (this_du : Int32) (this_dv : Int32) (f_this_productp36 : Nat → Int64) :
    ∀ (fuel : Nat) (x8p80 : Int32) (f_this_limbsp80 : Nat → Int64) (r : Int32 × (Nat → Int64)), kb_w (fun u : Int32 × (Nat → Int64) => kSX5_above_80 p1 p2 x7p70 f_this_productp36 u.1 u.2) fuel (x8p80, f_this_limbsp80) = some r → ∀ (H : Heap) (locs : List Loc) (ls : Array Slot), va_P D kCl (kWX5_above cB cI cL cBB cII cSh h_this a_this this_taped this_code this_kind this_rate this_filled this_total this_bitAt this_k this_e1 this_du this_dv f_this_limbsp80 f_this_productp36) H → va_D A (kWX5_above cB cI cL cBB cII cSh h_this a_this this_taped this_code this_kind this_rate this_filled this_total this_bitAt this_k this_e1 this_du this_dv f_this_limbsp80 f_this_productp36) → va_S A s.heap H locs → lv_has ls 10 [(0, .ref h_this), (1, .int p1), (2, .long p2), (4, .int p3), (5, .int p4), (6, .int x6p36), (7, .int x7p70), (8, .int x8p80)] → (∀ (x8p80' : Int32) (f_this_limbsp80' : Nat → Int64), r = (x8p80', f_this_limbsp80') → ∀ (H : Heap) (locs : List Loc) (ls : Array Slot), va_P D kCl (kWX5_above cB cI cL cBB cII cSh h_this a_this this_taped this_code this_kind this_rate this_filled this_total this_bitAt this_k this_e1 this_du this_dv f_this_limbsp80' f_this_productp36) H → va_D A (kWX5_above cB cI cL cBB cII cSh h_this a_this this_taped this_code this_kind this_rate this_filled this_total this_bitAt this_k this_e1 this_du this_dv f_this_limbsp80' f_this_productp36) → va_S A s.heap H locs → lv_has ls 10 [(0, .ref h_this), (1, .int p1), (2, .long p2), (4, .int p3), (5, .int p4), (6, .int x6p36), (7, .int x7p70), (8, .int x8p80')] → W p l e krX5_above s m args below meth c H locs cells slots Q (F0 m 145 ls [])) → W p l e krX5_above s m args below meth c H locs cells slots Q (F0 m 80 ls []) := by
  obtain ⟨hx, hb, hml, hown, hts⟩ := id C0
  intro fuel
  induction fuel with
  | zero =>
    intro x8p80 f_this_limbsp80 r h
    exact absurd h (kb_w_z _ _ _)
  | succ fuel ih =>
    intro x8p80 f_this_limbsp80 r h H locs ls hP hD hS hl hk0
    obtain ⟨o, h, ho⟩ := kb_w_s h
    have h : kSX5_above_80 p1 p2 x7p70 f_this_productp36 x8p80 f_this_limbsp80 = some o := h
    unfold kSX5_above_80 at h
    refine lv_iload hx hb kdX5_above_80 (lv_at hl 7 rfl) ?_
    refine lv_iconst (v := 5) hx hb kdX5_above_82 (by decide) ?_
    refine lv_icmp_ge (tgt := 145) hx hb kdX5_above_83 (by decide) (fun c_19 => ?_) (fun c_19 => ?_)
    · have h := kb_b_t c_19 h
      obtain rfl := Option.some.inj h
      exact hk0 x8p80 f_this_limbsp80 ho.symm _ _ _ hP hD hS (lv_sub hl [0, 1, 2, 3, 4, 5, 6, 7] rfl)
    · have h := kb_b_f c_19 h
      refine lv_iload hx hb kdX5_above_86 (lv_at hl 6 rfl) ?_
      refine lv_iload hx hb kdX5_above_88 (lv_at hl 7 rfl) ?_
      refine lv_iadd hx hb kdX5_above_90 ?_
      refine lv_bipush (v := 16) hx hb kdX5_above_91 (by decide) ?_
      refine lv_icmp_ge (tgt := 145) hx hb kdX5_above_93 (by decide) (fun c_20 => ?_) (fun c_20 => ?_)
      · have h := kb_b_t c_20 h
        obtain rfl := Option.some.inj h
        exact hk0 x8p80 f_this_limbsp80 ho.symm _ _ _ hP hD hS (lv_sub hl [0, 1, 2, 3, 4, 5, 6, 7] rfl)
      · have h := kb_b_f c_20 h
        refine lv_aload_n hx hb kdX5_above_96 rfl (lv_at hl 0 rfl) ?_
        refine va_get (ci := 5) (v := .ref (a_this 9)) (C := kRX5) (T := kTX5) (N := 35) hx hb hts kinX5 hown hK hP 0 rfl rfl 9 (by decide) (hts _ km_690) (fun _ h9 => h9) rfl kdX5_above_97 ?_
        refine lv_iload hx hb kdX5_above_100 (lv_at hl 6 rfl) ?_
        refine lv_iload hx hb kdX5_above_102 (lv_at hl 7 rfl) ?_
        refine lv_iadd hx hb kdX5_above_104 ?_
        refine lv_dup2_11 hx hb kdX5_above_105 rfl rfl ?_
        obtain ⟨g_21, h⟩ := kb_g_s h
        refine va_lald hx hb hK hP 1 2 rfl rfl (kb_in_v g_21) kdX5_above_106 ?_
        refine lv_aload_n hx hb kdX5_above_107 rfl (lv_at hl 0 rfl) ?_
        refine va_get (ci := 5) (v := .ref (a_this 10)) (C := kRX5) (T := kTX5) (N := 35) hx hb hts kinX5 hown hK hP 0 rfl rfl 10 (by decide) (hts _ km_691) (fun _ h9 => h9) rfl kdX5_above_108 ?_
        refine lv_iload hx hb kdX5_above_111 (lv_at hl 6 rfl) ?_
        obtain ⟨g_22, h⟩ := kb_g_s h
        refine va_lald hx hb hK hP 2 2 rfl rfl (kb_in_v g_22) kdX5_above_113 ?_
        refine lv_iload hx hb kdX5_above_114 (lv_at hl 7 rfl) ?_
        refine lv_iconst (v := 4) hx hb kdX5_above_116 (by decide) ?_
        refine lv_icmp_ge (tgt := 134) hx hb kdX5_above_117 (by decide) (fun c_23 => ?_) (fun c_23 => ?_)
        · have h := kb_b_t c_23 h
          refine lv_iload_n hx hb kdX5_above_134 rfl (lv_at hl 1 rfl) ?_
          refine lv_i2l (v := (p1.toInt64)) hx hb kdX5_above_135 rfl ?_
          refine lv_lmul hx hb kdX5_above_136 ?_
          refine lv_ladd hx hb kdX5_above_137 ?_
          obtain ⟨g_24, h⟩ := kb_g_s h
          refine va_last hx hb hK hP hD hS 1 2 rfl rfl (kb_in_v g_24) kdX5_above_138 (fun H locs hP hD hS => ?_)
          obtain ⟨f_25, ef_25⟩ : ∃ y, y = vp_updL f_this_limbsp80 (x7p70 + x8p80).toNatClampNeg ((f_this_limbsp80 (x7p70 + x8p80).toNatClampNeg) + ((f_this_productp36 x7p70.toNatClampNeg) * (p1.toInt64))) := ⟨_, rfl⟩
          have h := kb_n_s ef_25 h
          have hP : va_P D kCl (kWX5_above cB cI cL cBB cII cSh h_this a_this this_taped this_code this_kind this_rate this_filled this_total this_bitAt this_k this_e1 this_du this_dv f_25 f_this_productp36) H := by rw [ef_25]; exact hP
          have hD : va_D A (kWX5_above cB cI cL cBB cII cSh h_this a_this this_taped this_code this_kind this_rate this_filled this_total this_bitAt this_k this_e1 this_du this_dv f_25 f_this_productp36) := by rw [ef_25]; exact hD
          obtain ⟨x8_26, ex8_26⟩ : ∃ y : Int32, y = x8p80 + Int32.ofInt 1 := ⟨_, rfl⟩
          have h := kb_n_s ex8_26 h
          refine lv_iinc (v := x8_26) (lv' := [(8, .int x8_26), (0, .ref h_this), (1, .int p1), (2, .long p2), (4, .int p3), (5, .int p4), (6, .int x6p36), (7, .int x7p70)]) hx hb kdX5_above_139 hl (k := 7) rfl ex8_26.symm (by decide) rfl (fun ls hl => ?_)
          refine lv_goto (tgt := 80) hx hb kdX5_above_142 (by decide) ?_
          obtain rfl := Option.some.inj h
          exact ih x8_26 f_25 r ho _ _ _ hP hD hS (lv_sub hl [1, 2, 3, 4, 5, 6, 7, 0] rfl) hk0
        · have h := kb_b_f c_23 h
          refine lv_lload_n hx hb kdX5_above_120 rfl (lv_at hl 2 rfl) ?_
          refine lv_bipush (v := 16) hx hb kdX5_above_121 (by decide) ?_
          refine lv_iload hx hb kdX5_above_123 (lv_at hl 7 rfl) ?_
          refine lv_imul hx hb kdX5_above_125 ?_
          refine lv_lushr (v := ((p2.toUInt64 >>> (((16 : Int32) * x8p80).toInt64.toUInt64 &&& Int64.toUInt64 63)).toInt64)) hx hb kdX5_above_126 rfl ?_
          refine lv_ldc2 (v := 65535) hx hb hown (hts _ km_621) kdX5_above_127 ?_
          refine lv_land hx hb kdX5_above_130 ?_
          refine lv_goto (tgt := 136) hx hb kdX5_above_131 (by decide) ?_
          refine lv_lmul hx hb kdX5_above_136 ?_
          refine lv_ladd hx hb kdX5_above_137 ?_
          obtain ⟨g_27, h⟩ := kb_g_s h
          refine va_last hx hb hK hP hD hS 1 2 rfl rfl (kb_in_v g_27) kdX5_above_138 (fun H locs hP hD hS => ?_)
          obtain ⟨f_28, ef_28⟩ : ∃ y, y = vp_updL f_this_limbsp80 (x7p70 + x8p80).toNatClampNeg ((f_this_limbsp80 (x7p70 + x8p80).toNatClampNeg) + ((f_this_productp36 x7p70.toNatClampNeg) * (((p2.toUInt64 >>> (((16 : Int32) * x8p80).toInt64.toUInt64 &&& Int64.toUInt64 63)).toInt64) &&& (65535 : Int64)))) := ⟨_, rfl⟩
          have h := kb_n_s ef_28 h
          have hP : va_P D kCl (kWX5_above cB cI cL cBB cII cSh h_this a_this this_taped this_code this_kind this_rate this_filled this_total this_bitAt this_k this_e1 this_du this_dv f_28 f_this_productp36) H := by rw [ef_28]; exact hP
          have hD : va_D A (kWX5_above cB cI cL cBB cII cSh h_this a_this this_taped this_code this_kind this_rate this_filled this_total this_bitAt this_k this_e1 this_du this_dv f_28 f_this_productp36) := by rw [ef_28]; exact hD
          obtain ⟨x8_29, ex8_29⟩ : ∃ y : Int32, y = x8p80 + Int32.ofInt 1 := ⟨_, rfl⟩
          have h := kb_n_s ex8_29 h
          refine lv_iinc (v := x8_29) (lv' := [(8, .int x8_29), (0, .ref h_this), (1, .int p1), (2, .long p2), (4, .int p3), (5, .int p4), (6, .int x6p36), (7, .int x7p70)]) hx hb kdX5_above_139 hl (k := 7) rfl ex8_29.symm (by decide) rfl (fun ls hl => ?_)
          refine lv_goto (tgt := 80) hx hb kdX5_above_142 (by decide) ?_
          obtain rfl := Option.some.inj h
          exact ih x8_29 f_28 r ho _ _ _ hP hD hS (lv_sub hl [1, 2, 3, 4, 5, 6, 7, 0] rfl) hk0
set_option maxHeartbeats 4000000 in
set_option maxRecDepth 100000 in
theorem klX5_above_70 {p : Program} {l : Launch} {e : Env} {s : State} {m : MethodId} {args : Array Value} {below : List Frame} {meth : Method} {c : Code} {cells slots : Nat} {Q : State → Prop} {D : va_G} {cB cI cL cBB cII cSh : ClassId} {A : Nat → Prop} (C0 : CallFix p m c prog_8_method_17_code 10 s args kwA kRX5) (hlocks : meth.locks = false) (hK : va_K D kCl (kb_T cB cI cL cBB cII cSh) s) (hN : kb_N s) (hA : ∀ q, s.heap.size ≤ q → A q) (hcR : cells ≤ krX5_above.cells) (hsR : slots ≤ krX5_above.slots) (h_this : Nat) (a_this : Nat → Nat) (p1 : Int32) (p2 : Int64) (p3 : Int32) (p4 : Int32) (x6p36 : Int32) (this_taped : Int32) (this_code : Int32) (this_kind : Int32) (this_rate : Int32) (this_filled : Int32) (this_total : Int64) (this_bitAt : Int32) (this_k : Int32) (this_e1 : Int32) (this_du : Int32) (this_dv : Int32) (f_this_productp36 : Nat → Int64) :
    ∀ (fuel : Nat) (x7p70 : Int32) (f_this_limbsp70 : Nat → Int64) (r : Int32 × (Nat → Int64)), kb_w (fun u : Int32 × (Nat → Int64) => kSX5_above_70 p1 p2 f_this_productp36 u.1 u.2) fuel (x7p70, f_this_limbsp70) = some r → ∀ (H : Heap) (locs : List Loc) (ls : Array Slot), va_P D kCl (kWX5_above cB cI cL cBB cII cSh h_this a_this this_taped this_code this_kind this_rate this_filled this_total this_bitAt this_k this_e1 this_du this_dv f_this_limbsp70 f_this_productp36) H → va_D A (kWX5_above cB cI cL cBB cII cSh h_this a_this this_taped this_code this_kind this_rate this_filled this_total this_bitAt this_k this_e1 this_du this_dv f_this_limbsp70 f_this_productp36) → va_S A s.heap H locs → lv_has ls 10 [(0, .ref h_this), (1, .int p1), (2, .long p2), (4, .int p3), (5, .int p4), (6, .int x6p36), (7, .int x7p70)] → (∀ (x7p70' : Int32) (f_this_limbsp70' : Nat → Int64), r = (x7p70', f_this_limbsp70') → ∀ (H : Heap) (locs : List Loc) (ls : Array Slot), va_P D kCl (kWX5_above cB cI cL cBB cII cSh h_this a_this this_taped this_code this_kind this_rate this_filled this_total this_bitAt this_k this_e1 this_du this_dv f_this_limbsp70' f_this_productp36) H → va_D A (kWX5_above cB cI cL cBB cII cSh h_this a_this this_taped this_code this_kind this_rate this_filled this_total this_bitAt this_k this_e1 this_du this_dv f_this_limbsp70' f_this_productp36) → va_S A s.heap H locs → lv_has ls 10 [(0, .ref h_this), (1, .int p1), (2, .long p2), (4, .int p3), (5, .int p4), (6, .int x6p36), (7, .int x7p70')] → W p l e krX5_above s m args below meth c H locs cells slots Q (F0 m 151 ls [])) → W p l e krX5_above s m args below meth c H locs cells slots Q (F0 m 70 ls []) := by
  obtain ⟨hx, hb, hml, hown, hts⟩ := id C0
  intro fuel
  induction fuel with
  | zero =>
    intro x7p70 f_this_limbsp70 r h
    exact absurd h (kb_w_z _ _ _)
  | succ fuel ih =>
    intro x7p70 f_this_limbsp70 r h H locs ls hP hD hS hl hk0
    obtain ⟨o, h, ho⟩ := kb_w_s h
    have h : kSX5_above_70 p1 p2 f_this_productp36 x7p70 f_this_limbsp70 = some o := h
    unfold kSX5_above_70 at h
    refine lv_iload hx hb kdX5_above_70 (lv_at hl 6 rfl) ?_
    refine lv_bipush (v := 16) hx hb kdX5_above_72 (by decide) ?_
    refine lv_icmp_ge (tgt := 151) hx hb kdX5_above_74 (by decide) (fun c_18 => ?_) (fun c_18 => ?_)
    · have h := kb_b_t c_18 h
      obtain rfl := Option.some.inj h
      exact hk0 x7p70 f_this_limbsp70 ho.symm _ _ _ hP hD hS (lv_sub hl [0, 1, 2, 3, 4, 5, 6] rfl)
    · have h := kb_b_f c_18 h
      refine lv_iconst (v := 0) hx hb kdX5_above_77 (by decide) ?_
      refine lv_istore (lv' := [(8, .int (0 : Int32)), (0, .ref h_this), (1, .int p1), (2, .long p2), (4, .int p3), (5, .int p4), (6, .int x6p36), (7, .int x7p70)]) hx hb kdX5_above_78 hl (by decide) rfl (fun ls hl => ?_)
      obtain ⟨r_33, hr_33, h⟩ := kb_o_s h
      refine klX5_above_80 C0 hlocks hK hN hA hcR hsR h_this a_this p1 p2 p3 p4 x6p36 x7p70 this_taped this_code this_kind this_rate this_filled this_total this_bitAt this_k this_e1 this_du this_dv f_this_productp36 100000 (0 : Int32) f_this_limbsp70 r_33 hr_33 _ _ _ hP hD hS (lv_sub hl [1, 2, 3, 4, 5, 6, 7, 0] rfl) (fun x8p80_30 f_this_limbsp80_31 er_33 H locs ls hP hD hS hl => ?_)
      subst er_33
      try dsimp only at h
      obtain ⟨x7_32, ex7_32⟩ : ∃ y : Int32, y = x7p70 + Int32.ofInt 1 := ⟨_, rfl⟩
      have h := kb_n_s ex7_32 h
      refine lv_iinc (v := x7_32) (lv' := [(7, .int x7_32), (0, .ref h_this), (1, .int p1), (2, .long p2), (4, .int p3), (5, .int p4), (6, .int x6p36), (8, .int x8p80_30)]) hx hb kdX5_above_145 hl (k := 6) rfl ex7_32.symm (by decide) rfl (fun ls hl => ?_)
      refine lv_goto (tgt := 70) hx hb kdX5_above_148 (by decide) ?_
      obtain rfl := Option.some.inj h
      exact ih x7_32 f_this_limbsp80_31 r ho _ _ _ hP hD hS (lv_sub hl [1, 2, 3, 4, 5, 6, 0] rfl) hk0
set_option maxHeartbeats 4000000 in
set_option maxRecDepth 100000 in
theorem klX5_above_157 {p : Program} {l : Launch} {e : Env} {s : State} {m : MethodId} {args : Array Value} {below : List Frame} {meth : Method} {c : Code} {cells slots : Nat} {Q : State → Prop} {D : va_G} {cB cI cL cBB cII cSh : ClassId} {A : Nat → Prop} (C0 : CallFix p m c prog_8_method_17_code 10 s args kwA kRX5) (hlocks : meth.locks = false) (hK : va_K D kCl (kb_T cB cI cL cBB cII cSh) s) (hN : kb_N s) (hA : ∀ q, s.heap.size ≤ q → A q) (hcR : cells ≤ krX5_above.cells) (hsR : slots ≤ krX5_above.slots) (h_this : Nat) (a_this : Nat → Nat) (p1 : Int32) (p2 : Int64) (p3 : Int32) (p4 : Int32) (x6p36 : Int32) (this_taped : Int32) (this_code : Int32) (this_kind : Int32) (this_rate : Int32) (this_filled : Int32) (this_total : Int64) (this_bitAt : Int32) (this_k : Int32) (this_e1 : Int32) (this_du : Int32) (this_dv : Int32) (f_this_limbsp70_35 : Nat → Int64) :
    ∀ (fuel : Nat) (x7p157 : Int64) (x9p157 : Int32) (f_this_productp157 : Nat → Int64) (r : Int64 × Int32 × (Nat → Int64)), kb_w (fun u : Int64 × Int32 × (Nat → Int64) => kSX5_above_157 f_this_limbsp70_35 u.1 u.2.1 u.2.2) fuel (x7p157, x9p157, f_this_productp157) = some r → ∀ (H : Heap) (locs : List Loc) (ls : Array Slot), va_P D kCl (kWX5_above cB cI cL cBB cII cSh h_this a_this this_taped this_code this_kind this_rate this_filled this_total this_bitAt this_k this_e1 this_du this_dv f_this_limbsp70_35 f_this_productp157) H → va_D A (kWX5_above cB cI cL cBB cII cSh h_this a_this this_taped this_code this_kind this_rate this_filled this_total this_bitAt this_k this_e1 this_du this_dv f_this_limbsp70_35 f_this_productp157) → va_S A s.heap H locs → lv_has ls 10 [(0, .ref h_this), (1, .int p1), (2, .long p2), (4, .int p3), (5, .int p4), (6, .int x6p36), (7, .long x7p157), (9, .int x9p157)] → (∀ (x7p157' : Int64) (x9p157' : Int32) (f_this_productp157' : Nat → Int64), r = (x7p157', x9p157', f_this_productp157') → ∀ (H : Heap) (locs : List Loc) (ls : Array Slot), va_P D kCl (kWX5_above cB cI cL cBB cII cSh h_this a_this this_taped this_code this_kind this_rate this_filled this_total this_bitAt this_k this_e1 this_du this_dv f_this_limbsp70_35 f_this_productp157') H → va_D A (kWX5_above cB cI cL cBB cII cSh h_this a_this this_taped this_code this_kind this_rate this_filled this_total this_bitAt this_k this_e1 this_du this_dv f_this_limbsp70_35 f_this_productp157') → va_S A s.heap H locs → lv_has ls 10 [(0, .ref h_this), (1, .int p1), (2, .long p2), (4, .int p3), (5, .int p4), (6, .int x6p36), (7, .long x7p157'), (9, .int x9p157')] → W p l e krX5_above s m args below meth c H locs cells slots Q (F0 m 202 ls [])) → W p l e krX5_above s m args below meth c H locs cells slots Q (F0 m 157 ls []) := by
  obtain ⟨hx, hb, hml, hown, hts⟩ := id C0
  intro fuel
  induction fuel with
  | zero =>
    intro x7p157 x9p157 f_this_productp157 r h
    exact absurd h (kb_w_z _ _ _)
  | succ fuel ih =>
    intro x7p157 x9p157 f_this_productp157 r h H locs ls hP hD hS hl hk0
    obtain ⟨o, h, ho⟩ := kb_w_s h
    have h : kSX5_above_157 f_this_limbsp70_35 x7p157 x9p157 f_this_productp157 = some o := h
    unfold kSX5_above_157 at h
    refine lv_iload hx hb kdX5_above_157 (lv_at hl 7 rfl) ?_
    refine lv_bipush (v := 16) hx hb kdX5_above_159 (by decide) ?_
    refine lv_icmp_ge (tgt := 202) hx hb kdX5_above_161 (by decide) (fun c_36 => ?_) (fun c_36 => ?_)
    · have h := kb_b_t c_36 h
      obtain rfl := Option.some.inj h
      exact hk0 x7p157 x9p157 f_this_productp157 ho.symm _ _ _ hP hD hS (lv_sub hl [0, 1, 2, 3, 4, 5, 6, 7] rfl)
    · have h := kb_b_f c_36 h
      refine lv_lload hx hb kdX5_above_164 (lv_at hl 6 rfl) ?_
      refine lv_aload_n hx hb kdX5_above_166 rfl (lv_at hl 0 rfl) ?_
      refine va_get (ci := 5) (v := .ref (a_this 9)) (C := kRX5) (T := kTX5) (N := 35) hx hb hts kinX5 hown hK hP 0 rfl rfl 9 (by decide) (hts _ km_690) (fun _ h9 => h9) rfl kdX5_above_167 ?_
      refine lv_iload hx hb kdX5_above_170 (lv_at hl 7 rfl) ?_
      obtain ⟨g_37, h⟩ := kb_g_s h
      refine va_lald hx hb hK hP 1 2 rfl rfl (kb_in_v g_37) kdX5_above_172 ?_
      refine lv_ladd hx hb kdX5_above_173 ?_
      refine lv_topl (fun x7_38 ex7_38 => ?_)
      have h := kb_n_s ex7_38 h
      refine lv_lstore (lv' := [(7, .long x7_38), (0, .ref h_this), (1, .int p1), (2, .long p2), (4, .int p3), (5, .int p4), (6, .int x6p36), (9, .int x9p157)]) hx hb kdX5_above_174 hl (by decide) rfl (fun ls hl => ?_)
      refine lv_aload_n hx hb kdX5_above_176 rfl (lv_at hl 1 rfl) ?_
      refine va_get (ci := 5) (v := .ref (a_this 10)) (C := kRX5) (T := kTX5) (N := 35) hx hb hts kinX5 hown hK hP 0 rfl rfl 10 (by decide) (hts _ km_691) (fun _ h9 => h9) rfl kdX5_above_177 ?_
      refine lv_iload hx hb kdX5_above_180 (lv_at hl 7 rfl) ?_
      refine lv_lload hx hb kdX5_above_182 (lv_at hl 0 rfl) ?_
      refine lv_ldc2 (v := 65535) hx hb hown (hts _ km_621) kdX5_above_184 ?_
      refine lv_land hx hb kdX5_above_187 ?_
      obtain ⟨g_39, h⟩ := kb_g_s h
      refine va_last hx hb hK hP hD hS 2 2 rfl rfl (kb_in_v g_39) kdX5_above_188 (fun H locs hP hD hS => ?_)
      obtain ⟨f_40, ef_40⟩ : ∃ y, y = vp_updL f_this_productp157 x9p157.toNatClampNeg (x7_38 &&& (65535 : Int64)) := ⟨_, rfl⟩
      have h := kb_n_s ef_40 h
      have hP : va_P D kCl (kWX5_above cB cI cL cBB cII cSh h_this a_this this_taped this_code this_kind this_rate this_filled this_total this_bitAt this_k this_e1 this_du this_dv f_this_limbsp70_35 f_40) H := by rw [ef_40]; exact hP
      have hD : va_D A (kWX5_above cB cI cL cBB cII cSh h_this a_this this_taped this_code this_kind this_rate this_filled this_total this_bitAt this_k this_e1 this_du this_dv f_this_limbsp70_35 f_40) := by rw [ef_40]; exact hD
      refine lv_lload hx hb kdX5_above_189 (lv_at hl 0 rfl) ?_
      refine lv_bipush (v := 16) hx hb kdX5_above_191 (by decide) ?_
      refine lv_lushr (v := ((x7_38.toUInt64 >>> ((16 : Int32).toInt64.toUInt64 &&& Int64.toUInt64 63)).toInt64)) hx hb kdX5_above_193 rfl ?_
      refine lv_topl (fun x7_41 ex7_41 => ?_)
      have h := kb_n_s ex7_41 h
      refine lv_lstore (lv' := [(7, .long x7_41), (0, .ref h_this), (1, .int p1), (2, .long p2), (4, .int p3), (5, .int p4), (6, .int x6p36), (9, .int x9p157)]) hx hb kdX5_above_194 hl (by decide) rfl (fun ls hl => ?_)
      obtain ⟨x9_42, ex9_42⟩ : ∃ y : Int32, y = x9p157 + Int32.ofInt 1 := ⟨_, rfl⟩
      have h := kb_n_s ex9_42 h
      refine lv_iinc (v := x9_42) (lv' := [(9, .int x9_42), (7, .long x7_41), (0, .ref h_this), (1, .int p1), (2, .long p2), (4, .int p3), (5, .int p4), (6, .int x6p36)]) hx hb kdX5_above_196 hl (k := 7) rfl ex9_42.symm (by decide) rfl (fun ls hl => ?_)
      refine lv_goto (tgt := 157) hx hb kdX5_above_199 (by decide) ?_
      obtain rfl := Option.some.inj h
      exact ih x7_41 x9_42 f_40 r ho _ _ _ hP hD hS (lv_sub hl [2, 3, 4, 5, 6, 7, 1, 0] rfl) hk0
set_option maxHeartbeats 4000000 in
set_option maxRecDepth 100000 in
theorem klX5_above_36 {p : Program} {l : Launch} {e : Env} {s : State} {m : MethodId} {args : Array Value} {below : List Frame} {meth : Method} {c : Code} {cells slots : Nat} {Q : State → Prop} {D : va_G} {cB cI cL cBB cII cSh : ClassId} {A : Nat → Prop} (C0 : CallFix p m c prog_8_method_17_code 10 s args kwA kRX5) (hlocks : meth.locks = false) (hK : va_K D kCl (kb_T cB cI cL cBB cII cSh) s) (hN : kb_N s) (hA : ∀ q, s.heap.size ≤ q → A q) (hcR : cells ≤ krX5_above.cells) (hsR : slots ≤ krX5_above.slots) (h_this : Nat) (a_this : Nat → Nat) (p1 : Int32) (p2 : Int64) (p3 : Int32) (p4 : Int32) (this_taped : Int32) (this_code : Int32) (this_kind : Int32) (this_rate : Int32) (this_filled : Int32) (this_total : Int64) (this_bitAt : Int32) (this_k : Int32) (this_e1 : Int32) (this_du : Int32) (this_dv : Int32) :
    ∀ (fuel : Nat) (x6p36 : Int32) (f_this_limbsp36 : Nat → Int64) (f_this_productp36 : Nat → Int64) (r : Int32 × (Nat → Int64) × (Nat → Int64)), kb_w (fun u : Int32 × (Nat → Int64) × (Nat → Int64) => kSX5_above_36 p1 p2 p3 u.1 u.2.1 u.2.2) fuel (x6p36, f_this_limbsp36, f_this_productp36) = some r → ∀ (H : Heap) (locs : List Loc) (ls : Array Slot), va_P D kCl (kWX5_above cB cI cL cBB cII cSh h_this a_this this_taped this_code this_kind this_rate this_filled this_total this_bitAt this_k this_e1 this_du this_dv f_this_limbsp36 f_this_productp36) H → va_D A (kWX5_above cB cI cL cBB cII cSh h_this a_this this_taped this_code this_kind this_rate this_filled this_total this_bitAt this_k this_e1 this_du this_dv f_this_limbsp36 f_this_productp36) → va_S A s.heap H locs → lv_has ls 10 [(0, .ref h_this), (1, .int p1), (2, .long p2), (4, .int p3), (5, .int p4), (6, .int x6p36)] → (∀ (x6p36' : Int32) (f_this_limbsp36' : Nat → Int64) (f_this_productp36' : Nat → Int64), r = (x6p36', f_this_limbsp36', f_this_productp36') → ∀ (H : Heap) (locs : List Loc) (ls : Array Slot), va_P D kCl (kWX5_above cB cI cL cBB cII cSh h_this a_this this_taped this_code this_kind this_rate this_filled this_total this_bitAt this_k this_e1 this_du this_dv f_this_limbsp36' f_this_productp36') H → va_D A (kWX5_above cB cI cL cBB cII cSh h_this a_this this_taped this_code this_kind this_rate this_filled this_total this_bitAt this_k this_e1 this_du this_dv f_this_limbsp36' f_this_productp36') → va_S A s.heap H locs → lv_has ls 10 [(0, .ref h_this), (1, .int p1), (2, .long p2), (4, .int p3), (5, .int p4), (6, .int x6p36')] → W p l e krX5_above s m args below meth c H locs cells slots Q (F0 m 208 ls [])) → W p l e krX5_above s m args below meth c H locs cells slots Q (F0 m 36 ls []) := by
  obtain ⟨hx, hb, hml, hown, hts⟩ := id C0
  intro fuel
  induction fuel with
  | zero =>
    intro x6p36 f_this_limbsp36 f_this_productp36 r h
    exact absurd h (kb_w_z _ _ _)
  | succ fuel ih =>
    intro x6p36 f_this_limbsp36 f_this_productp36 r h H locs ls hP hD hS hl hk0
    obtain ⟨o, h, ho⟩ := kb_w_s h
    have h : kSX5_above_36 p1 p2 p3 x6p36 f_this_limbsp36 f_this_productp36 = some o := h
    unfold kSX5_above_36 at h
    refine lv_iload hx hb kdX5_above_36 (lv_at hl 5 rfl) ?_
    refine lv_iload hx hb kdX5_above_38 (lv_at hl 3 rfl) ?_
    refine lv_icmp_ge (tgt := 208) hx hb kdX5_above_40 (by decide) (fun c_11 => ?_) (fun c_11 => ?_)
    · have h := kb_b_t c_11 h
      obtain rfl := Option.some.inj h
      exact hk0 x6p36 f_this_limbsp36 f_this_productp36 ho.symm _ _ _ hP hD hS (lv_sub hl [0, 1, 2, 3, 4, 5] rfl)
    · have h := kb_b_f c_11 h
      refine lv_iconst (v := 0) hx hb kdX5_above_43 (by decide) ?_
      refine lv_istore (lv' := [(7, .int (0 : Int32)), (0, .ref h_this), (1, .int p1), (2, .long p2), (4, .int p3), (5, .int p4), (6, .int x6p36)]) hx hb kdX5_above_44 hl (by decide) rfl (fun ls hl => ?_)
      obtain ⟨r_49, hr_49, h⟩ := kb_o_s h
      refine klX5_above_46 C0 hlocks hK hN hA hcR hsR h_this a_this p1 p2 p3 p4 x6p36 this_taped this_code this_kind this_rate this_filled this_total this_bitAt this_k this_e1 this_du this_dv f_this_productp36 100000 (0 : Int32) f_this_limbsp36 r_49 hr_49 _ _ _ hP hD hS (lv_sub hl [1, 2, 3, 4, 5, 6, 0] rfl) (fun x7p46_16 f_this_limbsp46_17 er_49 H locs ls hP hD hS hl => ?_)
      subst er_49
      try dsimp only at h
      refine lv_iconst (v := 0) hx hb kdX5_above_67 (by decide) ?_
      refine lv_istore (lv' := [(7, .int (0 : Int32)), (0, .ref h_this), (1, .int p1), (2, .long p2), (4, .int p3), (5, .int p4), (6, .int x6p36)]) hx hb kdX5_above_68 hl (by decide) rfl (fun ls hl => ?_)
      obtain ⟨r_48, hr_48, h⟩ := kb_o_s h
      refine klX5_above_70 C0 hlocks hK hN hA hcR hsR h_this a_this p1 p2 p3 p4 x6p36 this_taped this_code this_kind this_rate this_filled this_total this_bitAt this_k this_e1 this_du this_dv f_this_productp36 100000 (0 : Int32) f_this_limbsp46_17 r_48 hr_48 _ _ _ hP hD hS (lv_sub hl [1, 2, 3, 4, 5, 6, 0] rfl) (fun x7p70_34 f_this_limbsp70_35 er_48 H locs ls hP hD hS hl => ?_)
      subst er_48
      try dsimp only at h
      refine lv_lconst (v := 0) hx hb kdX5_above_151 (by decide) ?_
      refine lv_lstore (lv' := [(7, .long (0 : Int64)), (0, .ref h_this), (1, .int p1), (2, .long p2), (4, .int p3), (5, .int p4), (6, .int x6p36)]) hx hb kdX5_above_152 hl (by decide) rfl (fun ls hl => ?_)
      refine lv_iconst (v := 0) hx hb kdX5_above_154 (by decide) ?_
      refine lv_istore (lv' := [(9, .int (0 : Int32)), (7, .long (0 : Int64)), (0, .ref h_this), (1, .int p1), (2, .long p2), (4, .int p3), (5, .int p4), (6, .int x6p36)]) hx hb kdX5_above_155 hl (by decide) rfl (fun ls hl => ?_)
      obtain ⟨r_47, hr_47, h⟩ := kb_o_s h
      refine klX5_above_157 C0 hlocks hK hN hA hcR hsR h_this a_this p1 p2 p3 p4 x6p36 this_taped this_code this_kind this_rate this_filled this_total this_bitAt this_k this_e1 this_du this_dv f_this_limbsp70_35 100000 (0 : Int64) (0 : Int32) f_this_productp36 r_47 hr_47 _ _ _ hP hD hS (lv_sub hl [2, 3, 4, 5, 6, 7, 1, 0] rfl) (fun x7p157_43 x9p157_44 f_this_productp157_45 er_47 H locs ls hP hD hS hl => ?_)
      subst er_47
      try dsimp only at h
      obtain ⟨x6_46, ex6_46⟩ : ∃ y : Int32, y = x6p36 + Int32.ofInt 1 := ⟨_, rfl⟩
      have h := kb_n_s ex6_46 h
      refine lv_iinc (v := x6_46) (lv' := [(6, .int x6_46), (0, .ref h_this), (1, .int p1), (2, .long p2), (4, .int p3), (5, .int p4), (7, .long x7p157_43), (9, .int x9p157_44)]) hx hb kdX5_above_202 hl (k := 5) rfl ex6_46.symm (by decide) rfl (fun ls hl => ?_)
      refine lv_goto (tgt := 36) hx hb kdX5_above_205 (by decide) ?_
      obtain rfl := Option.some.inj h
      exact ih x6_46 f_this_limbsp70_35 f_this_productp157_45 r ho _ _ _ hP hD hS (lv_sub hl [1, 2, 3, 4, 5, 0] rfl) hk0
set_option maxHeartbeats 4000000 in
set_option maxRecDepth 100000 in
theorem klX5_above_240 {p : Program} {l : Launch} {e : Env} {s : State} {m : MethodId} {args : Array Value} {below : List Frame} {meth : Method} {c : Code} {cells slots : Nat} {Q : State → Prop} {D : va_G} {cB cI cL cBB cII cSh : ClassId} {A : Nat → Prop} (C0 : CallFix p m c prog_8_method_17_code 10 s args kwA kRX5) (hlocks : meth.locks = false) (hK : va_K D kCl (kb_T cB cI cL cBB cII cSh) s) (hN : kb_N s) (hA : ∀ q, s.heap.size ≤ q → A q) (hcR : cells ≤ krX5_above.cells) (hsR : slots ≤ krX5_above.slots) (h_this : Nat) (a_this : Nat → Nat) (p3 : Int32) (p4 : Int32) (x6_55 : Int64) (this_taped : Int32) (this_code : Int32) (this_kind : Int32) (this_rate : Int32) (this_filled : Int32) (this_total : Int64) (this_bitAt : Int32) (this_k : Int32) (this_e1 : Int32) (this_du : Int32) (this_dv : Int32) (f_this_limbsp36_51 : Nat → Int64) (f_this_productp36_52 : Nat → Int64) :
    ∀ (fuel : Nat) (x8p240 : Int32) (x9p240 : Int32) (r : Int32 × Int32), kb_w (fun u : Int32 × Int32 => kSX5_above_240 p3 f_this_productp36_52 u.1 u.2) fuel (x8p240, x9p240) = some r → ∀ (H : Heap) (locs : List Loc) (ls : Array Slot), va_P D kCl (kWX5_above cB cI cL cBB cII cSh h_this a_this this_taped this_code this_kind this_rate this_filled this_total this_bitAt this_k this_e1 this_du this_dv f_this_limbsp36_51 f_this_productp36_52) H → va_D A (kWX5_above cB cI cL cBB cII cSh h_this a_this this_taped this_code this_kind this_rate this_filled this_total this_bitAt this_k this_e1 this_du this_dv f_this_limbsp36_51 f_this_productp36_52) → va_S A s.heap H locs → lv_has ls 10 [(0, .ref h_this), (4, .int p3), (5, .int p4), (6, .long x6_55), (8, .int x8p240), (9, .int x9p240)] → (∀ (x8p240' : Int32) (x9p240' : Int32), r = (x8p240', x9p240') → ∀ (H : Heap) (locs : List Loc) (ls : Array Slot), va_P D kCl (kWX5_above cB cI cL cBB cII cSh h_this a_this this_taped this_code this_kind this_rate this_filled this_total this_bitAt this_k this_e1 this_du this_dv f_this_limbsp36_51 f_this_productp36_52) H → va_D A (kWX5_above cB cI cL cBB cII cSh h_this a_this this_taped this_code this_kind this_rate this_filled this_total this_bitAt this_k this_e1 this_du this_dv f_this_limbsp36_51 f_this_productp36_52) → va_S A s.heap H locs → lv_has ls 10 [(0, .ref h_this), (4, .int p3), (5, .int p4), (6, .long x6_55), (8, .int x8p240'), (9, .int x9p240')] → W p l e krX5_above s m args below meth c H locs cells slots Q (F0 m 270 ls [])) → W p l e krX5_above s m args below meth c H locs cells slots Q (F0 m 240 ls []) := by
  obtain ⟨hx, hb, hml, hown, hts⟩ := id C0
  intro fuel
  induction fuel with
  | zero =>
    intro x8p240 x9p240 r h
    exact absurd h (kb_w_z _ _ _)
  | succ fuel ih =>
    intro x8p240 x9p240 r h H locs ls hP hD hS hl hk0
    obtain ⟨o, h, ho⟩ := kb_w_s h
    have h : kSX5_above_240 p3 f_this_productp36_52 x8p240 x9p240 = some o := h
    unfold kSX5_above_240 at h
    refine lv_iload hx hb kdX5_above_240 (lv_at hl 5 rfl) ?_
    refine lv_iconst (v := 4) hx hb kdX5_above_242 (by decide) ?_
    refine lv_iload hx hb kdX5_above_243 (lv_at hl 1 rfl) ?_
    refine lv_imul hx hb kdX5_above_245 ?_
    refine lv_icmp_ge (tgt := 270) hx hb kdX5_above_246 (by decide) (fun c_56 => ?_) (fun c_56 => ?_)
    · have h := kb_b_t c_56 h
      obtain rfl := Option.some.inj h
      exact hk0 x8p240 x9p240 ho.symm _ _ _ hP hD hS (lv_sub hl [0, 1, 2, 3, 4, 5] rfl)
    · have h := kb_b_f c_56 h
      refine lv_aload_n hx hb kdX5_above_249 rfl (lv_at hl 0 rfl) ?_
      refine va_get (ci := 5) (v := .ref (a_this 10)) (C := kRX5) (T := kTX5) (N := 35) hx hb hts kinX5 hown hK hP 0 rfl rfl 10 (by decide) (hts _ km_691) (fun _ h9 => h9) rfl kdX5_above_250 ?_
      refine lv_iload hx hb kdX5_above_253 (lv_at hl 5 rfl) ?_
      obtain ⟨g_57, h⟩ := kb_g_s h
      refine va_lald hx hb hK hP 2 2 rfl rfl (kb_in_v g_57) kdX5_above_255 ?_
      refine lv_lconst (v := 0) hx hb kdX5_above_256 (by decide) ?_
      refine W.lcmp hx hb kdX5_above_257 ?_
      refine lv_if_eq (tgt := 264) hx hb kdX5_above_258 (by decide) (fun c_58 => ?_) (fun c_58 => ?_)
      · have h := kb_b_t c_58 h
        obtain ⟨x9_59, ex9_59⟩ : ∃ y : Int32, y = x9p240 + Int32.ofInt 1 := ⟨_, rfl⟩
        have h := kb_n_s ex9_59 h
        refine lv_iinc (v := x9_59) (lv' := [(9, .int x9_59), (0, .ref h_this), (4, .int p3), (5, .int p4), (6, .long x6_55), (8, .int x8p240)]) hx hb kdX5_above_264 hl (k := 5) rfl ex9_59.symm (by decide) rfl (fun ls hl => ?_)
        refine lv_goto (tgt := 240) hx hb kdX5_above_267 (by decide) ?_
        obtain rfl := Option.some.inj h
        exact ih x8p240 x9_59 r ho _ _ _ hP hD hS (lv_sub hl [1, 2, 3, 4, 5, 0] rfl) hk0
      · have h := kb_b_f c_58 h
        refine lv_iconst (v := 1) hx hb kdX5_above_261 (by decide) ?_
        refine lv_istore (lv' := [(8, .int (1 : Int32)), (0, .ref h_this), (4, .int p3), (5, .int p4), (6, .long x6_55), (9, .int x9p240)]) hx hb kdX5_above_262 hl (by decide) rfl (fun ls hl => ?_)
        obtain ⟨x9_60, ex9_60⟩ : ∃ y : Int32, y = x9p240 + Int32.ofInt 1 := ⟨_, rfl⟩
        have h := kb_n_s ex9_60 h
        refine lv_iinc (v := x9_60) (lv' := [(9, .int x9_60), (8, .int (1 : Int32)), (0, .ref h_this), (4, .int p3), (5, .int p4), (6, .long x6_55)]) hx hb kdX5_above_264 hl (k := 5) rfl ex9_60.symm (by decide) rfl (fun ls hl => ?_)
        refine lv_goto (tgt := 240) hx hb kdX5_above_267 (by decide) ?_
        obtain rfl := Option.some.inj h
        exact ih (1 : Int32) x9_60 r ho _ _ _ hP hD hS (lv_sub hl [2, 3, 4, 5, 1, 0] rfl) hk0
set_option maxHeartbeats 4000000 in
set_option maxRecDepth 100000 in
theorem kcX5_above (l : Launch) (D : va_G) (cB cI cL cBB cII cSh : ClassId) (h_this : Nat) (a_this : Nat → Nat) (sz : Nat) (p1 : Int32) (p2 : Int64) (p3 : Int32) (p4 : Int32) (this_taped : Int32) (this_code : Int32) (this_kind : Int32) (this_rate : Int32) (this_filled : Int32) (this_total : Int64) (this_bitAt : Int32) (this_k : Int32) (this_e1 : Int32) (this_du : Int32) (this_dv : Int32) (f_this_limbs : Nat → Int64) (f_this_product : Nat → Int64) (out : Int32 × (Nat → Int64) × (Nat → Int64)) (h : kFX5_above p1 p2 p3 p4 f_this_limbs f_this_product = some out) : Met l kyX5_above kwX5_above krX5_above (kb_P D kCl (kb_T cB cI cL cBB cII cSh) [.ref h_this, .int p1, .long p2, .int p3, .int p4] (kWX5_above cB cI cL cBB cII cSh h_this a_this this_taped this_code this_kind this_rate this_filled this_total this_bitAt this_k this_e1 this_du this_dv f_this_limbs f_this_product) sz) (kb_Q D kCl (kb_T cB cI cL cBB cII cSh) (va_A (kWX5_above cB cI cL cBB cII cSh h_this a_this this_taped this_code this_kind this_rate this_filled this_total this_bitAt this_k this_e1 this_du this_dv f_this_limbs f_this_product) sz) (some (.int out.1)) (kWX5_above cB cI cL cBB cII cSh h_this a_this this_taped this_code this_kind this_rate this_filled this_total this_bitAt this_k this_e1 this_du this_dv out.2.1 out.2.2)) 0 0 (va_A (kWX5_above cB cI cL cBB cII cSh h_this a_this this_taped this_code this_kind this_rate this_filled this_total this_bitAt this_k this_e1 this_du this_dv f_this_limbs f_this_product) sz) := by
  refine Met.ofW (cc := prog_8_method_17_code) (maxL := 10) (ret := (some .boolean)) (by decide) rfl ?_
  intro p e s m args below meth c s₁ B hml hv
  obtain ⟨rfl, hsz, hP, hK, hN, hD0⟩ := hv
  have hx := B.exec
  have hb := B.bytes
  have hr := B.returns
  have hts0 := atoms_spec (ws := kwX5_above) B.pre
  have hts : ∀ w ∈ kwA, w.before _ s = true := fun w h => hts0 w (List.mem_cons_of_mem _ h)
  have hown : s.vm.findClass kRX5 = some m.cls := findClass_of_methodNamed B.named
  have hlocks := B.notSynchronized
  subst hsz
  have hD := hD0.self (sz := s.heap.size)
  generalize hAe : va_A (kWX5_above cB cI cL cBB cII cSh h_this a_this this_taped this_code this_kind this_rate this_filled this_total this_bitAt this_k this_e1 this_du this_dv f_this_limbs f_this_product) s.heap.size = A at hD ⊢
  have hA : ∀ q : Nat, s.heap.size ≤ q → A q := fun q h => by rw [← hAe]; exact Or.inr h
  have hS : va_S A s.heap s.heap [] := va_S.rf
  have C0 : CallFix p m c prog_8_method_17_code 10 s _ kwA kRX5 := ⟨hx, hb, hml, hown, hts⟩
  have hl := lv_entry ([.ref h_this, .int p1, .long p2, .int p3, .int p4]) (n := 10) (Nat.le_of_ble_eq_true rfl)
  rw [lg_entry_eq]
  generalize (lg_sl ([.ref h_this, .int p1, .long p2, .int p3, .int p4]) ++ List.replicate (10 - (lg_sl ([.ref h_this, .int p1, .long p2, .int p3, .int p4])).length) Slot.unset).toArray = ls at hl ⊢
  have hl : lv_has ls 10 [(0, .ref h_this), (1, .int p1), (2, .long p2), (4, .int p3), (5, .int p4)] := hl
  unfold kFX5_above at h
  refine lv_iconst (v := 0) hx hb kdX5_above_0 (by decide) ?_
  refine lv_istore (lv' := [(6, .int (0 : Int32)), (0, .ref h_this), (1, .int p1), (2, .long p2), (4, .int p3), (5, .int p4)]) hx hb kdX5_above_1 hl (by decide) rfl (fun ls hl => ?_)
  obtain ⟨r_68, hr_68, h⟩ := kb_o_s h
  refine klX5_above_3 C0 hlocks hK hN hA (by decide) (by decide) h_this a_this p1 p2 p3 p4 this_taped this_code this_kind this_rate this_filled this_total this_bitAt this_k this_e1 this_du this_dv f_this_limbs 100000 (0 : Int32) f_this_product r_68 hr_68 _ _ _ hP hD hS (lv_sub hl [1, 2, 3, 4, 5, 0] rfl) (fun x6p3_9 f_this_productp3_10 er_68 H locs ls hP hD hS hl => ?_)
  subst er_68
  try dsimp only at h
  refine lv_iconst (v := 0) hx hb kdX5_above_33 (by decide) ?_
  refine lv_istore (lv' := [(6, .int (0 : Int32)), (0, .ref h_this), (1, .int p1), (2, .long p2), (4, .int p3), (5, .int p4)]) hx hb kdX5_above_34 hl (by decide) rfl (fun ls hl => ?_)
  obtain ⟨r_67, hr_67, h⟩ := kb_o_s h
  refine klX5_above_36 C0 hlocks hK hN hA (by decide) (by decide) h_this a_this p1 p2 p3 p4 this_taped this_code this_kind this_rate this_filled this_total this_bitAt this_k this_e1 this_du this_dv 100000 (0 : Int32) f_this_limbs f_this_productp3_10 r_67 hr_67 _ _ _ hP hD hS (lv_sub hl [1, 2, 3, 4, 5, 0] rfl) (fun x6p36_50 f_this_limbsp36_51 f_this_productp36_52 er_67 H locs ls hP hD hS hl => ?_)
  subst er_67
  try dsimp only at h
  refine lv_aload_n hx hb kdX5_above_208 rfl (lv_at hl 0 rfl) ?_
  refine va_get (ci := 5) (v := .ref (a_this 10)) (C := kRX5) (T := kTX5) (N := 35) hx hb hts kinX5 hown hK hP 0 rfl rfl 10 (by decide) (hts _ km_691) (fun _ h9 => h9) rfl kdX5_above_209 ?_
  refine lv_iconst (v := 4) hx hb kdX5_above_212 (by decide) ?_
  refine lv_iload hx hb kdX5_above_213 (lv_at hl 3 rfl) ?_
  refine lv_imul hx hb kdX5_above_215 ?_
  obtain ⟨g_53, h⟩ := kb_g_s h
  refine va_lald hx hb hK hP 2 2 rfl rfl (kb_in_v g_53) kdX5_above_216 ?_
  refine lv_aload_n hx hb kdX5_above_217 rfl (lv_at hl 0 rfl) ?_
  refine va_get (ci := 5) (v := .ref (a_this 10)) (C := kRX5) (T := kTX5) (N := 35) hx hb hts kinX5 hown hK hP 0 rfl rfl 10 (by decide) (hts _ km_691) (fun _ h9 => h9) rfl kdX5_above_218 ?_
  refine lv_iconst (v := 4) hx hb kdX5_above_221 (by decide) ?_
  refine lv_iload hx hb kdX5_above_222 (lv_at hl 3 rfl) ?_
  refine lv_imul hx hb kdX5_above_224 ?_
  refine lv_iconst (v := 1) hx hb kdX5_above_225 (by decide) ?_
  refine lv_iadd hx hb kdX5_above_226 ?_
  obtain ⟨g_54, h⟩ := kb_g_s h
  refine va_lald hx hb hK hP 2 2 rfl rfl (kb_in_v g_54) kdX5_above_227 ?_
  refine lv_bipush (v := 16) hx hb kdX5_above_228 (by decide) ?_
  refine lv_lshl (v := ((f_this_productp36_52 (((4 : Int32) * p3) + (1 : Int32)).toNatClampNeg) <<< ((16 : Int32).toInt64 &&& 63))) hx hb kdX5_above_230 rfl ?_
  refine lv_ladd hx hb kdX5_above_231 ?_
  refine lv_topl (fun x6_55 ex6_55 => ?_)
  have h := kb_n_s ex6_55 h
  refine lv_lstore (lv' := [(6, .long x6_55), (0, .ref h_this), (1, .int p1), (2, .long p2), (4, .int p3), (5, .int p4)]) hx hb kdX5_above_232 hl (by decide) rfl (fun ls hl => ?_)
  refine lv_iconst (v := 0) hx hb kdX5_above_234 (by decide) ?_
  refine lv_istore (lv' := [(8, .int (0 : Int32)), (6, .long x6_55), (0, .ref h_this), (1, .int p1), (2, .long p2), (4, .int p3), (5, .int p4)]) hx hb kdX5_above_235 hl (by decide) rfl (fun ls hl => ?_)
  refine lv_iconst (v := 0) hx hb kdX5_above_237 (by decide) ?_
  refine lv_istore (lv' := [(9, .int (0 : Int32)), (8, .int (0 : Int32)), (6, .long x6_55), (0, .ref h_this), (1, .int p1), (2, .long p2), (4, .int p3), (5, .int p4)]) hx hb kdX5_above_238 hl (by decide) rfl (fun ls hl => ?_)
  obtain ⟨r_66, hr_66, h⟩ := kb_o_s h
  refine klX5_above_240 C0 hlocks hK hN hA (by decide) (by decide) h_this a_this p3 p4 x6_55 this_taped this_code this_kind this_rate this_filled this_total this_bitAt this_k this_e1 this_du this_dv f_this_limbsp36_51 f_this_productp36_52 100000 (0 : Int32) (0 : Int32) r_66 hr_66 _ _ _ hP hD hS (lv_sub hl [3, 6, 7, 2, 1, 0] rfl) (fun x8p240_61 x9p240_62 er_66 H locs ls hP hD hS hl => ?_)
  subst er_66
  try dsimp only at h
  refine lv_lload hx hb kdX5_above_270 (lv_at hl 3 rfl) ?_
  refine lv_iload hx hb kdX5_above_272 (lv_at hl 2 rfl) ?_
  refine lv_i2l (v := (p4.toInt64)) hx hb kdX5_above_274 rfl ?_
  refine W.lcmp hx hb kdX5_above_275 ?_
  refine lv_if_gt (tgt := 293) hx hb kdX5_above_276 (by decide) (fun c_63 => ?_) (fun c_63 => ?_)
  · have h := kb_b_t c_63 h
    refine lv_iconst (v := 1) hx hb kdX5_above_293 (by decide) ?_
    refine lv_goto (tgt := 298) hx hb kdX5_above_294 (by decide) ?_
    obtain rfl := Option.some.inj h
    exact W.zret (v := (1 : Int32)) (ty := .boolean) hx hb hr (by decide) (fun t ht hW => ⟨⟨rfl, by rw [ht]; exact hP, va_K.moved hW.alike hK, hD⟩, hS.F ht⟩) hS.2.2 kdX5_above_298
  · have h := kb_b_f c_63 h
    refine lv_lload hx hb kdX5_above_279 (lv_at hl 3 rfl) ?_
    refine lv_iload hx hb kdX5_above_281 (lv_at hl 2 rfl) ?_
    refine lv_i2l (v := (p4.toInt64)) hx hb kdX5_above_283 rfl ?_
    refine W.lcmp hx hb kdX5_above_284 ?_
    refine lv_if_ne (tgt := 297) hx hb kdX5_above_285 (by decide) (fun c_64 => ?_) (fun c_64 => ?_)
    · have h := kb_b_f c_64 h
      refine lv_iconst (v := 0) hx hb kdX5_above_297 (by decide) ?_
      obtain rfl := Option.some.inj h
      exact W.zret (v := (0 : Int32)) (ty := .boolean) hx hb hr (by decide) (fun t ht hW => ⟨⟨rfl, by rw [ht]; exact hP, va_K.moved hW.alike hK, hD⟩, hS.F ht⟩) hS.2.2 kdX5_above_298
    · have h := kb_b_t c_64 h
      refine lv_iload hx hb kdX5_above_288 (lv_at hl 4 rfl) ?_
      refine lv_if_eq (tgt := 297) hx hb kdX5_above_290 (by decide) (fun c_65 => ?_) (fun c_65 => ?_)
      · have h := kb_b_t c_65 h
        refine lv_iconst (v := 0) hx hb kdX5_above_297 (by decide) ?_
        obtain rfl := Option.some.inj h
        exact W.zret (v := (0 : Int32)) (ty := .boolean) hx hb hr (by decide) (fun t ht hW => ⟨⟨rfl, by rw [ht]; exact hP, va_K.moved hW.alike hK, hD⟩, hS.F ht⟩) hS.2.2 kdX5_above_298
      · have h := kb_b_f c_65 h
        refine lv_iconst (v := 1) hx hb kdX5_above_293 (by decide) ?_
        refine lv_goto (tgt := 298) hx hb kdX5_above_294 (by decide) ?_
        obtain rfl := Option.some.inj h
        exact W.zret (v := (1 : Int32)) (ty := .boolean) hx hb hr (by decide) (fun t ht hW => ⟨⟨rfl, by rw [ht]; exact hP, va_K.moved hW.alike hK, hD⟩, hS.F ht⟩) hS.2.2 kdX5_above_298

-- 423.ModuleKemModel.root.lean.txt
abbrev kWX5_root (cB cI cL cBB cII cSh : ClassId) (h_this : Nat) (a_this : Nat → Nat) (this_taped : Int32) (this_code : Int32) (this_kind : Int32) (this_rate : Int32) (this_filled : Int32) (this_total : Int64) (this_bitAt : Int32) (this_k : Int32) (this_e1 : Int32) (this_du : Int32) (this_dv : Int32) (f_this_limbs : Nat → Int64) (f_this_product : Nat → Int64) : va_W := [(h_this, koX5 a_this this_taped this_code this_kind this_rate this_filled this_total this_bitAt this_k this_e1 this_du this_dv), ((a_this 9), .inl (cL, 16, .inr (.inl f_this_limbs))), ((a_this 10), .inl (cL, 16, .inr (.inl f_this_product)))]
def krX5_root : Room := { frames := 1, cells := 0, slots := 0, locals := 29 }
set_option maxHeartbeats 4000000 in
set_option maxRecDepth 100000 in
theorem klX5_root_2 {p : Program} {l : Launch} {e : Env} {s : State} {m : MethodId} {args : Array Value} {below : List Frame} {meth : Method} {c : Code} {cells slots : Nat} {Q : State → Prop} {D : va_G} {cB cI cL cBB cII cSh : ClassId} {A : Nat → Prop} (C0 : CallFix p m c prog_8_method_18_code 7 s args kwA kRX5) (hlocks : meth.locks = false) (hK : va_K D kCl (kb_T cB cI cL cBB cII cSh) s) (hN : kb_N s) (hA : ∀ q, s.heap.size ≤ q → A q) (hcR : cells ≤ krX5_root.cells) (hsR : slots ≤ krX5_root.slots) (h_this : Nat) (a_this : Nat → Nat) (p1 : Int32) (p2 : Int32) (this_taped : Int32) (this_code : Int32) (this_kind : Int32) (this_rate : Int32) (this_filled : Int32) (this_total : Int64) (this_bitAt : Int32) (this_k : Int32) (this_e1 : Int32) (this_du : Int32) (this_dv : Int32) :
    ∀ (fuel : Nat) (x3p2 : Int32) (f_this_limbsp2 : Nat → Int64) (f_this_productp2 : Nat → Int64) (r : Int32 × (Nat → Int64) × (Nat → Int64)), kb_w (fun u : Int32 × (Nat → Int64) × (Nat → Int64) => kSX5_root_2 p1 p2 u.1 u.2.1 u.2.2) fuel (x3p2, f_this_limbsp2, f_this_productp2) = some r → ∀ (H : Heap) (locs : List Loc) (ls : Array Slot), va_P D kCl (kWX5_root cB cI cL cBB cII cSh h_this a_this this_taped this_code this_kind this_rate this_filled this_total this_bitAt this_k this_e1 this_du this_dv f_this_limbsp2 f_this_productp2) H → va_D A (kWX5_root cB cI cL cBB cII cSh h_this a_this this_taped this_code this_kind this_rate this_filled this_total this_bitAt this_k this_e1 this_du this_dv f_this_limbsp2 f_this_productp2) → va_S A s.heap H locs → lv_has ls 7 [(0, .ref h_this), (1, .int p1), (2, .int p2), (3, .int x3p2)] → (∀ (x3p2' : Int32) (f_this_limbsp2' : Nat → Int64) (f_this_productp2' : Nat → Int64), r = (x3p2', f_this_limbsp2', f_this_productp2') → ∀ (H : Heap) (locs : List Loc) (ls : Array Slot), va_P D kCl (kWX5_root cB cI cL cBB cII cSh h_this a_this this_taped this_code this_kind this_rate this_filled this_total this_bitAt this_k this_e1 this_du this_dv f_this_limbsp2' f_this_productp2') H → va_D A (kWX5_root cB cI cL cBB cII cSh h_this a_this this_taped this_code this_kind this_rate this_filled this_total this_bitAt this_k this_e1 this_du this_dv f_this_limbsp2' f_this_productp2') → va_S A s.heap H locs → lv_has ls 7 [(0, .ref h_this), (1, .int p1), (2, .int p2), (3, .int x3p2')] → W p l e krX5_root s m args below meth c H locs cells slots Q (F0 m 21 ls [])) → W p l e krX5_root s m args below meth c H locs cells slots Q (F0 m 2 ls []) := by
  obtain ⟨hx, hb, hml, hown, hts⟩ := id C0
  intro fuel
  induction fuel with
  | zero =>
    intro x3p2 f_this_limbsp2 f_this_productp2 r h
    exact absurd h (kb_w_z _ _ _)
  | succ fuel ih =>
    intro x3p2 f_this_limbsp2 f_this_productp2 r h H locs ls hP hD hS hl hk0
    obtain ⟨o, h, ho⟩ := kb_w_s h
    have h : kSX5_root_2 p1 p2 x3p2 f_this_limbsp2 f_this_productp2 = some o := h
    unfold kSX5_root_2 at h
    refine lv_aload_n hx hb kdX5_root_2 rfl (lv_at hl 0 rfl) ?_
    refine lv_iload_n hx hb kdX5_root_3 rfl (lv_at hl 3 rfl) ?_
    refine lv_iconst (v := 1) hx hb kdX5_root_4 (by decide) ?_
    refine lv_iadd hx hb kdX5_root_5 ?_
    refine lv_lconst (v := 0) hx hb kdX5_root_6 (by decide) ?_
    refine lv_iload_n hx hb kdX5_root_7 rfl (lv_at hl 2 rfl) ?_
    refine lv_iload_n hx hb kdX5_root_8 rfl (lv_at hl 1 rfl) ?_
    obtain ⟨u_4, hu_4, h⟩ := kb_o_s h
    obtain ⟨r_1, f_2, f_3⟩ := u_4
    try dsimp only at h
    have hC := (show ([0, 1, 2] : List Nat).map (fun i : Nat => (kWX5_root cB cI cL cBB cII cSh h_this a_this this_taped this_code this_kind this_rate this_filled this_total this_bitAt this_k this_e1 this_du this_dv f_this_limbsp2 f_this_productp2)[i]?) = List.map some (kWX5_above cB cI cL cBB cII cSh h_this a_this this_taped this_code this_kind this_rate this_filled this_total this_bitAt this_k this_e1 this_du this_dv f_this_limbsp2 f_this_productp2) from rfl)
    have hPc := kb_Psub hP ([0, 1, 2] : List Nat) hC
    have hDc := kb_Dsub hD ([0, 1, 2] : List Nat) hC (by simp [kb_nd])
    refine kb_call0 (va_runV (As := [.int (x3p2 + (1 : Int32)), .long (0 : Int64), .int p2, .int p1]) (rest := []) C0 (kcX5_above l D cB cI cL cBB cII cSh h_this a_this _ (x3p2 + (1 : Int32)) (0 : Int64) p2 p1 this_taped this_code this_kind this_rate this_filled this_total this_bitAt this_k this_e1 this_du this_dv f_this_limbsp2 f_this_productp2 (r_1, f_2, f_3) hu_4) (cwV 4 hts (kb_gV km_617 km_619 kp_1 km_6 km_620) rfl rfl rfl (by decide +kernel) ⟨Nat.le_of_ble_eq_true rfl, Nat.le_of_ble_eq_true rfl⟩) ⟨kb_P_bl, va_recv hK hP (ci := 5) (q0 := 0) rfl rfl, (fun U hU hW => ⟨rfl, by rw [hU], by rw [hU]; exact hPc, va_K.moved hW.alike hK, kb_N_to hW hN, hDc.weaken (fun _ _ _ _ => trivial)⟩)⟩ rfl rfl hl.1 rfl (lv_room (Nat.le_of_ble_eq_true rfl)) kdX5_root_9 ⟨hcR, hsR⟩) hP hD hS hA ([0, 1, 2] : List Nat) hC rfl (fun H locs hP hD hS => ?_)
    have hP : va_P D kCl (kWX5_root cB cI cL cBB cII cSh h_this a_this this_taped this_code this_kind this_rate this_filled this_total this_bitAt this_k this_e1 this_du this_dv f_2 f_3) H := hP
    have hD : va_D A (kWX5_root cB cI cL cBB cII cSh h_this a_this this_taped this_code this_kind this_rate this_filled this_total this_bitAt this_k this_e1 this_du this_dv f_2 f_3) := hD
    refine lv_if_ne (tgt := 21) hx hb kdX5_root_12 (by decide) (fun c_5 => ?_) (fun c_5 => ?_)
    · have h := kb_b_f c_5 h
      obtain rfl := Option.some.inj h
      exact hk0 x3p2 f_2 f_3 ho.symm _ _ _ hP hD hS (lv_sub hl [0, 1, 2, 3] rfl)
    · have h := kb_b_t c_5 h
      obtain ⟨x3_6, ex3_6⟩ : ∃ y : Int32, y = x3p2 + Int32.ofInt 1 := ⟨_, rfl⟩
      have h := kb_n_s ex3_6 h
      refine lv_iinc (v := x3_6) (lv' := [(3, .int x3_6), (0, .ref h_this), (1, .int p1), (2, .int p2)]) hx hb kdX5_root_15 hl (k := 3) rfl ex3_6.symm (by decide) rfl (fun ls hl => ?_)
      refine lv_goto (tgt := 2) hx hb kdX5_root_18 (by decide) ?_
      obtain rfl := Option.some.inj h
      exact ih x3_6 f_2 f_3 r ho _ _ _ hP hD hS (lv_sub hl [1, 2, 3, 0] rfl) hk0
set_option maxHeartbeats 4000000 in
set_option maxRecDepth 100000 in
theorem klX5_root_28 {p : Program} {l : Launch} {e : Env} {s : State} {m : MethodId} {args : Array Value} {below : List Frame} {meth : Method} {c : Code} {cells slots : Nat} {Q : State → Prop} {D : va_G} {cB cI cL cBB cII cSh : ClassId} {A : Nat → Prop} (C0 : CallFix p m c prog_8_method_18_code 7 s args kwA kRX5) (hlocks : meth.locks = false) (hK : va_K D kCl (kb_T cB cI cL cBB cII cSh) s) (hN : kb_N s) (hA : ∀ q, s.heap.size ≤ q → A q) (hcR : cells ≤ krX5_root.cells) (hsR : slots ≤ krX5_root.slots) (h_this : Nat) (a_this : Nat → Nat) (p1 : Int32) (p2 : Int32) (x3p2_7 : Int32) (this_taped : Int32) (this_code : Int32) (this_kind : Int32) (this_rate : Int32) (this_filled : Int32) (this_total : Int64) (this_bitAt : Int32) (this_k : Int32) (this_e1 : Int32) (this_du : Int32) (this_dv : Int32) :
    ∀ (fuel : Nat) (x4p28 : Int64) (x6p28 : Int32) (f_this_limbsp28 : Nat → Int64) (f_this_productp28 : Nat → Int64) (r : Int64 × Int32 × (Nat → Int64) × (Nat → Int64)), kb_w (fun u : Int64 × Int32 × (Nat → Int64) × (Nat → Int64) => kSX5_root_28 p1 p2 x3p2_7 u.1 u.2.1 u.2.2.1 u.2.2.2) fuel (x4p28, x6p28, f_this_limbsp28, f_this_productp28) = some r → ∀ (H : Heap) (locs : List Loc) (ls : Array Slot), va_P D kCl (kWX5_root cB cI cL cBB cII cSh h_this a_this this_taped this_code this_kind this_rate this_filled this_total this_bitAt this_k this_e1 this_du this_dv f_this_limbsp28 f_this_productp28) H → va_D A (kWX5_root cB cI cL cBB cII cSh h_this a_this this_taped this_code this_kind this_rate this_filled this_total this_bitAt this_k this_e1 this_du this_dv f_this_limbsp28 f_this_productp28) → va_S A s.heap H locs → lv_has ls 7 [(0, .ref h_this), (1, .int p1), (2, .int p2), (3, .int x3p2_7), (4, .long x4p28), (6, .int x6p28)] → (∀ (x4p28' : Int64) (x6p28' : Int32) (f_this_limbsp28' : Nat → Int64) (f_this_productp28' : Nat → Int64), r = (x4p28', x6p28', f_this_limbsp28', f_this_productp28') → ∀ (H : Heap) (locs : List Loc) (ls : Array Slot), va_P D kCl (kWX5_root cB cI cL cBB cII cSh h_this a_this this_taped this_code this_kind this_rate this_filled this_total this_bitAt this_k this_e1 this_du this_dv f_this_limbsp28' f_this_productp28') H → va_D A (kWX5_root cB cI cL cBB cII cSh h_this a_this this_taped this_code this_kind this_rate this_filled this_total this_bitAt this_k this_e1 this_du this_dv f_this_limbsp28' f_this_productp28') → va_S A s.heap H locs → lv_has ls 7 [(0, .ref h_this), (1, .int p1), (2, .int p2), (3, .int x3p2_7), (4, .long x4p28'), (6, .int x6p28')] → W p l e krX5_root s m args below meth c H locs cells slots Q (F0 m 65 ls [])) → W p l e krX5_root s m args below meth c H locs cells slots Q (F0 m 28 ls []) := by
  obtain ⟨hx, hb, hml, hown, hts⟩ := id C0
  intro fuel
  induction fuel with
  | zero =>
    intro x4p28 x6p28 f_this_limbsp28 f_this_productp28 r h
    exact absurd h (kb_w_z _ _ _)
  | succ fuel ih =>
    intro x4p28 x6p28 f_this_limbsp28 f_this_productp28 r h H locs ls hP hD hS hl hk0
    obtain ⟨o, h, ho⟩ := kb_w_s h
    have h : kSX5_root_28 p1 p2 x3p2_7 x4p28 x6p28 f_this_limbsp28 f_this_productp28 = some o := h
    unfold kSX5_root_28 at h
    refine lv_iload hx hb kdX5_root_28 (lv_at hl 5 rfl) ?_
    refine lv_if_lt (tgt := 65) hx hb kdX5_root_30 (by decide) (fun c_10 => ?_) (fun c_10 => ?_)
    · have h := kb_b_t c_10 h
      obtain rfl := Option.some.inj h
      exact hk0 x4p28 x6p28 f_this_limbsp28 f_this_productp28 ho.symm _ _ _ hP hD hS (lv_sub hl [0, 1, 2, 3, 4, 5] rfl)
    · have h := kb_b_f c_10 h
      refine lv_aload_n hx hb kdX5_root_33 rfl (lv_at hl 0 rfl) ?_
      refine lv_iload_n hx hb kdX5_root_34 rfl (lv_at hl 3 rfl) ?_
      refine lv_lload hx hb kdX5_root_35 (lv_at hl 4 rfl) ?_
      refine lv_lconst (v := 1) hx hb kdX5_root_37 (by decide) ?_
      refine lv_iload hx hb kdX5_root_38 (lv_at hl 5 rfl) ?_
      refine lv_lshl (v := ((1 : Int64) <<< (x6p28.toInt64 &&& 63))) hx hb kdX5_root_40 rfl ?_
      refine lv_lor hx hb kdX5_root_41 ?_
      refine lv_iload_n hx hb kdX5_root_42 rfl (lv_at hl 2 rfl) ?_
      refine lv_iload_n hx hb kdX5_root_43 rfl (lv_at hl 1 rfl) ?_
      obtain ⟨u_14, hu_14, h⟩ := kb_o_s h
      obtain ⟨r_11, f_12, f_13⟩ := u_14
      try dsimp only at h
      have hC := (show ([0, 1, 2] : List Nat).map (fun i : Nat => (kWX5_root cB cI cL cBB cII cSh h_this a_this this_taped this_code this_kind this_rate this_filled this_total this_bitAt this_k this_e1 this_du this_dv f_this_limbsp28 f_this_productp28)[i]?) = List.map some (kWX5_above cB cI cL cBB cII cSh h_this a_this this_taped this_code this_kind this_rate this_filled this_total this_bitAt this_k this_e1 this_du this_dv f_this_limbsp28 f_this_productp28) from rfl)
      have hPc := kb_Psub hP ([0, 1, 2] : List Nat) hC
      have hDc := kb_Dsub hD ([0, 1, 2] : List Nat) hC (by simp [kb_nd])
      refine kb_call0 (va_runV (As := [.int x3p2_7, .long (x4p28 ||| ((1 : Int64) <<< (x6p28.toInt64 &&& 63))), .int p2, .int p1]) (rest := []) C0 (kcX5_above l D cB cI cL cBB cII cSh h_this a_this _ x3p2_7 (x4p28 ||| ((1 : Int64) <<< (x6p28.toInt64 &&& 63))) p2 p1 this_taped this_code this_kind this_rate this_filled this_total this_bitAt this_k this_e1 this_du this_dv f_this_limbsp28 f_this_productp28 (r_11, f_12, f_13) hu_14) (cwV 4 hts (kb_gV km_617 km_619 kp_1 km_6 km_620) rfl rfl rfl (by decide +kernel) ⟨Nat.le_of_ble_eq_true rfl, Nat.le_of_ble_eq_true rfl⟩) ⟨kb_P_bl, va_recv hK hP (ci := 5) (q0 := 0) rfl rfl, (fun U hU hW => ⟨rfl, by rw [hU], by rw [hU]; exact hPc, va_K.moved hW.alike hK, kb_N_to hW hN, hDc.weaken (fun _ _ _ _ => trivial)⟩)⟩ rfl rfl hl.1 rfl (lv_room (Nat.le_of_ble_eq_true rfl)) kdX5_root_44 ⟨hcR, hsR⟩) hP hD hS hA ([0, 1, 2] : List Nat) hC rfl (fun H locs hP hD hS => ?_)
      have hP : va_P D kCl (kWX5_root cB cI cL cBB cII cSh h_this a_this this_taped this_code this_kind this_rate this_filled this_total this_bitAt this_k this_e1 this_du this_dv f_12 f_13) H := hP
      have hD : va_D A (kWX5_root cB cI cL cBB cII cSh h_this a_this this_taped this_code this_kind this_rate this_filled this_total this_bitAt this_k this_e1 this_du this_dv f_12 f_13) := hD
      refine lv_if_ne (tgt := 59) hx hb kdX5_root_47 (by decide) (fun c_15 => ?_) (fun c_15 => ?_)
      · have h := kb_b_f c_15 h
        obtain ⟨x6_16, ex6_16⟩ : ∃ y : Int32, y = x6p28 + Int32.ofInt (-1) := ⟨_, rfl⟩
        have h := kb_n_s ex6_16 h
        refine lv_iinc (v := x6_16) (lv' := [(6, .int x6_16), (0, .ref h_this), (1, .int p1), (2, .int p2), (3, .int x3p2_7), (4, .long x4p28)]) hx hb kdX5_root_59 hl (k := 5) rfl ex6_16.symm (by decide) rfl (fun ls hl => ?_)
        refine lv_goto (tgt := 28) hx hb kdX5_root_62 (by decide) ?_
        obtain rfl := Option.some.inj h
        exact ih x4p28 x6_16 f_12 f_13 r ho _ _ _ hP hD hS (lv_sub hl [1, 2, 3, 4, 5, 0] rfl) hk0
      · have h := kb_b_t c_15 h
        refine lv_lload hx hb kdX5_root_50 (lv_at hl 4 rfl) ?_
        refine lv_lconst (v := 1) hx hb kdX5_root_52 (by decide) ?_
        refine lv_iload hx hb kdX5_root_53 (lv_at hl 5 rfl) ?_
        refine lv_lshl (v := ((1 : Int64) <<< (x6p28.toInt64 &&& 63))) hx hb kdX5_root_55 rfl ?_
        refine lv_lor hx hb kdX5_root_56 ?_
        refine lv_topl (fun x4_17 ex4_17 => ?_)
        have h := kb_n_s ex4_17 h
        refine lv_lstore (lv' := [(4, .long x4_17), (0, .ref h_this), (1, .int p1), (2, .int p2), (3, .int x3p2_7), (6, .int x6p28)]) hx hb kdX5_root_57 hl (by decide) rfl (fun ls hl => ?_)
        obtain ⟨x6_18, ex6_18⟩ : ∃ y : Int32, y = x6p28 + Int32.ofInt (-1) := ⟨_, rfl⟩
        have h := kb_n_s ex6_18 h
        refine lv_iinc (v := x6_18) (lv' := [(6, .int x6_18), (4, .long x4_17), (0, .ref h_this), (1, .int p1), (2, .int p2), (3, .int x3p2_7)]) hx hb kdX5_root_59 hl (k := 5) rfl ex6_18.symm (by decide) rfl (fun ls hl => ?_)
        refine lv_goto (tgt := 28) hx hb kdX5_root_62 (by decide) ?_
        obtain rfl := Option.some.inj h
        exact ih x4_17 x6_18 f_12 f_13 r ho _ _ _ hP hD hS (lv_sub hl [2, 3, 4, 5, 1, 0] rfl) hk0
set_option maxHeartbeats 4000000 in
set_option maxRecDepth 100000 in
theorem kcX5_root (l : Launch) (D : va_G) (cB cI cL cBB cII cSh : ClassId) (h_this : Nat) (a_this : Nat → Nat) (sz : Nat) (p1 : Int32) (p2 : Int32) (this_taped : Int32) (this_code : Int32) (this_kind : Int32) (this_rate : Int32) (this_filled : Int32) (this_total : Int64) (this_bitAt : Int32) (this_k : Int32) (this_e1 : Int32) (this_du : Int32) (this_dv : Int32) (f_this_limbs : Nat → Int64) (f_this_product : Nat → Int64) (out : Int64 × (Nat → Int64) × (Nat → Int64)) (h : kFX5_root p1 p2 f_this_limbs f_this_product = some out) : Met l kyX5_root kwX5_root krX5_root (kb_P D kCl (kb_T cB cI cL cBB cII cSh) [.ref h_this, .int p1, .int p2] (kWX5_root cB cI cL cBB cII cSh h_this a_this this_taped this_code this_kind this_rate this_filled this_total this_bitAt this_k this_e1 this_du this_dv f_this_limbs f_this_product) sz) (kb_Q D kCl (kb_T cB cI cL cBB cII cSh) (va_A (kWX5_root cB cI cL cBB cII cSh h_this a_this this_taped this_code this_kind this_rate this_filled this_total this_bitAt this_k this_e1 this_du this_dv f_this_limbs f_this_product) sz) (some (.long out.1)) (kWX5_root cB cI cL cBB cII cSh h_this a_this this_taped this_code this_kind this_rate this_filled this_total this_bitAt this_k this_e1 this_du this_dv out.2.1 out.2.2)) 0 0 (va_A (kWX5_root cB cI cL cBB cII cSh h_this a_this this_taped this_code this_kind this_rate this_filled this_total this_bitAt this_k this_e1 this_du this_dv f_this_limbs f_this_product) sz) := by
  refine Met.ofW (cc := prog_8_method_18_code) (maxL := 7) (ret := (some .long)) (by decide) rfl ?_
  intro p e s m args below meth c s₁ B hml hv
  obtain ⟨rfl, hsz, hP, hK, hN, hD0⟩ := hv
  have hx := B.exec
  have hb := B.bytes
  have hr := B.returns
  have hts0 := atoms_spec (ws := kwX5_root) B.pre
  have hts : ∀ w ∈ kwA, w.before _ s = true := fun w h => hts0 w (List.mem_cons_of_mem _ h)
  have hown : s.vm.findClass kRX5 = some m.cls := findClass_of_methodNamed B.named
  have hlocks := B.notSynchronized
  subst hsz
  have hD := hD0.self (sz := s.heap.size)
  generalize hAe : va_A (kWX5_root cB cI cL cBB cII cSh h_this a_this this_taped this_code this_kind this_rate this_filled this_total this_bitAt this_k this_e1 this_du this_dv f_this_limbs f_this_product) s.heap.size = A at hD ⊢
  have hA : ∀ q : Nat, s.heap.size ≤ q → A q := fun q h => by rw [← hAe]; exact Or.inr h
  have hS : va_S A s.heap s.heap [] := va_S.rf
  have C0 : CallFix p m c prog_8_method_18_code 7 s _ kwA kRX5 := ⟨hx, hb, hml, hown, hts⟩
  have hl := lv_entry ([.ref h_this, .int p1, .int p2]) (n := 7) (Nat.le_of_ble_eq_true rfl)
  rw [lg_entry_eq]
  generalize (lg_sl ([.ref h_this, .int p1, .int p2]) ++ List.replicate (7 - (lg_sl ([.ref h_this, .int p1, .int p2])).length) Slot.unset).toArray = ls at hl ⊢
  have hl : lv_has ls 7 [(0, .ref h_this), (1, .int p1), (2, .int p2)] := hl
  unfold kFX5_root at h
  refine lv_iconst (v := 1) hx hb kdX5_root_0 (by decide) ?_
  refine lv_istore_n (lv' := [(3, .int (1 : Int32)), (0, .ref h_this), (1, .int p1), (2, .int p2)]) hx hb kdX5_root_1 rfl hl (by decide) rfl (fun ls hl => ?_)
  obtain ⟨r_24, hr_24, h⟩ := kb_o_s h
  refine klX5_root_2 C0 hlocks hK hN hA (by decide) (by decide) h_this a_this p1 p2 this_taped this_code this_kind this_rate this_filled this_total this_bitAt this_k this_e1 this_du this_dv 100000 (1 : Int32) f_this_limbs f_this_product r_24 hr_24 _ _ _ hP hD hS (lv_sub hl [1, 2, 3, 0] rfl) (fun x3p2_7 f_this_limbsp2_8 f_this_productp2_9 er_24 H locs ls hP hD hS hl => ?_)
  subst er_24
  try dsimp only at h
  refine lv_lconst (v := 0) hx hb kdX5_root_21 (by decide) ?_
  refine lv_lstore (lv' := [(4, .long (0 : Int64)), (0, .ref h_this), (1, .int p1), (2, .int p2), (3, .int x3p2_7)]) hx hb kdX5_root_22 hl (by decide) rfl (fun ls hl => ?_)
  refine lv_bipush (v := 63) hx hb kdX5_root_24 (by decide) ?_
  refine lv_istore (lv' := [(6, .int (63 : Int32)), (4, .long (0 : Int64)), (0, .ref h_this), (1, .int p1), (2, .int p2), (3, .int x3p2_7)]) hx hb kdX5_root_26 hl (by decide) rfl (fun ls hl => ?_)
  obtain ⟨r_23, hr_23, h⟩ := kb_o_s h
  refine klX5_root_28 C0 hlocks hK hN hA (by decide) (by decide) h_this a_this p1 p2 x3p2_7 this_taped this_code this_kind this_rate this_filled this_total this_bitAt this_k this_e1 this_du this_dv 100000 (0 : Int64) (63 : Int32) f_this_limbsp2_8 f_this_productp2_9 r_23 hr_23 _ _ _ hP hD hS (lv_sub hl [2, 3, 4, 5, 1, 0] rfl) (fun x4p28_19 x6p28_20 f_this_limbsp28_21 f_this_productp28_22 er_23 H locs ls hP hD hS hl => ?_)
  subst er_23
  try dsimp only at h
  refine lv_lload hx hb kdX5_root_65 (lv_at hl 4 rfl) ?_
  obtain rfl := Option.some.inj h
  exact W.lret (v := x4p28_19) hx hb hr (fun t ht hW => ⟨⟨rfl, by rw [ht]; exact hP, va_K.moved hW.alike hK, hD⟩, hS.F ht⟩) hS.2.2 kdX5_root_67

-- 424.ModuleKemModel.bit.lean.txt
abbrev kWX5_bit (cB cI cL cBB cII cSh : ClassId)   : va_W := []
def krX5_bit : Room := { frames := 0, cells := 0, slots := 0, locals := 0 }
set_option maxHeartbeats 4000000 in
set_option maxRecDepth 100000 in
theorem klX5_bit_4 {p : Program} {l : Launch} {e : Env} {s : State} {m : MethodId} {args : Array Value} {below : List Frame} {meth : Method} {c : Code} {cells slots : Nat} {Q : State → Prop} {D : va_G} {cB cI cL cBB cII cSh : ClassId} {A : Nat → Prop} (C0 : CallFix p m c prog_8_method_20_code 3 s args kwA kRX5) (hlocks : meth.locks = false) (hK : va_K D kCl (kb_T cB cI cL cBB cII cSh) s) (hN : kb_N s) (hA : ∀ q, s.heap.size ≤ q → A q) (hcR : cells ≤ krX5_bit.cells) (hsR : slots ≤ krX5_bit.slots)  (p1 : Int32) :
    ∀ (fuel : Nat) (x1p4 : Int32) (x2p4 : Int32) (r : Int32 × Int32), kb_w (fun u : Int32 × Int32 => kSX5_bit_4 p1 u.1 u.2) fuel (x1p4, x2p4) = some r → ∀ (H : Heap) (locs : List Loc) (ls : Array Slot), va_P D kCl (kWX5_bit cB cI cL cBB cII cSh) H → va_D A (kWX5_bit cB cI cL cBB cII cSh) → va_S A s.heap H locs → lv_has ls 3 [(0, .int p1), (1, .int x1p4), (2, .int x2p4)] → (∀ (x1p4' : Int32) (x2p4' : Int32), r = (x1p4', x2p4') → ∀ (H : Heap) (locs : List Loc) (ls : Array Slot), va_P D kCl (kWX5_bit cB cI cL cBB cII cSh) H → va_D A (kWX5_bit cB cI cL cBB cII cSh) → va_S A s.heap H locs → lv_has ls 3 [(0, .int p1), (1, .int x1p4'), (2, .int x2p4')] → W p l e krX5_bit s m args below meth c H locs cells slots Q (F0 m 43 ls [])) → W p l e krX5_bit s m args below meth c H locs cells slots Q (F0 m 4 ls []) := by
  obtain ⟨hx, hb, hml, hown, hts⟩ := id C0
  intro fuel
  induction fuel with
  | zero =>
    intro x1p4 x2p4 r h
    exact absurd h (kb_w_z _ _ _)
  | succ fuel ih =>
    intro x1p4 x2p4 r h H locs ls hP hD hS hl hk0
    obtain ⟨o, h, ho⟩ := kb_w_s h
    have h : kSX5_bit_4 p1 x1p4 x2p4 = some o := h
    unfold kSX5_bit_4 at h
    refine lv_iload_n hx hb kdX5_bit_4 rfl (lv_at hl 2 rfl) ?_
    refine lv_iload_n hx hb kdX5_bit_5 rfl (lv_at hl 0 rfl) ?_
    refine lv_sipush (v := 255) hx hb kdX5_bit_6 (by decide) ?_
    refine lv_irem hx hb kdX5_bit_9 (by decide) ?_
    refine lv_icmp_ge (tgt := 43) hx hb kdX5_bit_10 (by decide) (fun c_1 => ?_) (fun c_1 => ?_)
    · have h := kb_b_t c_1 h
      obtain rfl := Option.some.inj h
      exact hk0 x1p4 x2p4 ho.symm _ _ _ hP hD hS (lv_sub hl [0, 1, 2] rfl)
    · have h := kb_b_f c_1 h
      refine lv_iload_n hx hb kdX5_bit_13 rfl (lv_at hl 1 rfl) ?_
      refine lv_sipush (v := 128) hx hb kdX5_bit_14 (by decide) ?_
      refine lv_icmp_ge (tgt := 26) hx hb kdX5_bit_17 (by decide) (fun c_2 => ?_) (fun c_2 => ?_)
      · have h := kb_b_t c_2 h
        refine lv_iconst (v := 2) hx hb kdX5_bit_26 (by decide) ?_
        refine lv_iload_n hx hb kdX5_bit_27 rfl (lv_at hl 1 rfl) ?_
        refine lv_imul hx hb kdX5_bit_28 ?_
        refine lv_sipush (v := 255) hx hb kdX5_bit_29 (by decide) ?_
        refine lv_iand hx hb kdX5_bit_32 ?_
        refine lv_bipush (v := 113) hx hb kdX5_bit_33 (by decide) ?_
        refine lv_ixor hx hb kdX5_bit_35 ?_
        refine lv_topi (fun x1_3 ex1_3 => ?_)
        have h := kb_n_s ex1_3 h
        refine lv_istore_n (lv' := [(1, .int x1_3), (0, .int p1), (2, .int x2p4)]) hx hb kdX5_bit_36 rfl hl (by decide) rfl (fun ls hl => ?_)
        obtain ⟨x2_4, ex2_4⟩ : ∃ y : Int32, y = x2p4 + Int32.ofInt 1 := ⟨_, rfl⟩
        have h := kb_n_s ex2_4 h
        refine lv_iinc (v := x2_4) (lv' := [(2, .int x2_4), (1, .int x1_3), (0, .int p1)]) hx hb kdX5_bit_37 hl (k := 2) rfl ex2_4.symm (by decide) rfl (fun ls hl => ?_)
        refine lv_goto (tgt := 4) hx hb kdX5_bit_40 (by decide) ?_
        obtain rfl := Option.some.inj h
        exact ih x1_3 x2_4 r ho _ _ _ hP hD hS (lv_sub hl [2, 1, 0] rfl) hk0
      · have h := kb_b_f c_2 h
        refine lv_iconst (v := 2) hx hb kdX5_bit_20 (by decide) ?_
        refine lv_iload_n hx hb kdX5_bit_21 rfl (lv_at hl 1 rfl) ?_
        refine lv_imul hx hb kdX5_bit_22 ?_
        refine lv_goto (tgt := 36) hx hb kdX5_bit_23 (by decide) ?_
        refine lv_topi (fun x1_5 ex1_5 => ?_)
        have h := kb_n_s ex1_5 h
        refine lv_istore_n (lv' := [(1, .int x1_5), (0, .int p1), (2, .int x2p4)]) hx hb kdX5_bit_36 rfl hl (by decide) rfl (fun ls hl => ?_)
        obtain ⟨x2_6, ex2_6⟩ : ∃ y : Int32, y = x2p4 + Int32.ofInt 1 := ⟨_, rfl⟩
        have h := kb_n_s ex2_6 h
        refine lv_iinc (v := x2_6) (lv' := [(2, .int x2_6), (1, .int x1_5), (0, .int p1)]) hx hb kdX5_bit_37 hl (k := 2) rfl ex2_6.symm (by decide) rfl (fun ls hl => ?_)
        refine lv_goto (tgt := 4) hx hb kdX5_bit_40 (by decide) ?_
        obtain rfl := Option.some.inj h
        exact ih x1_5 x2_6 r ho _ _ _ hP hD hS (lv_sub hl [2, 1, 0] rfl) hk0
set_option maxHeartbeats 4000000 in
set_option maxRecDepth 100000 in
theorem kcX5_bit (l : Launch) (D : va_G) (cB cI cL cBB cII cSh : ClassId)  (sz : Nat) (p1 : Int32) (out : Int32) (h : kFX5_bit p1 = some out) : Met l kyX5_bit kwX5_bit krX5_bit (kb_P D kCl (kb_T cB cI cL cBB cII cSh) [.int p1] (kWX5_bit cB cI cL cBB cII cSh) sz) (kb_Q D kCl (kb_T cB cI cL cBB cII cSh) (va_A (kWX5_bit cB cI cL cBB cII cSh) sz) (some (.int out)) (kWX5_bit cB cI cL cBB cII cSh)) 0 0 (va_A (kWX5_bit cB cI cL cBB cII cSh) sz) := by
  refine Met.ofW (cc := prog_8_method_20_code) (maxL := 3) (ret := (some .int)) (by decide) rfl ?_
  intro p e s m args below meth c s₁ B hml hv
  obtain ⟨rfl, hsz, hP, hK, hN, hD0⟩ := hv
  have hx := B.exec
  have hb := B.bytes
  have hr := B.returns
  have hts0 := atoms_spec (ws := kwX5_bit) B.pre
  have hts : ∀ w ∈ kwA, w.before _ s = true := fun w h => hts0 w (List.mem_cons_of_mem _ h)
  have hown : s.vm.findClass kRX5 = some m.cls := findClass_of_methodNamed B.named
  have hlocks := B.notSynchronized
  subst hsz
  have hD := hD0.self (sz := s.heap.size)
  generalize hAe : va_A (kWX5_bit cB cI cL cBB cII cSh) s.heap.size = A at hD ⊢
  have hA : ∀ q : Nat, s.heap.size ≤ q → A q := fun q h => by rw [← hAe]; exact Or.inr h
  have hS : va_S A s.heap s.heap [] := va_S.rf
  have C0 : CallFix p m c prog_8_method_20_code 3 s _ kwA kRX5 := ⟨hx, hb, hml, hown, hts⟩
  have hl := lv_entry ([.int p1]) (n := 3) (Nat.le_of_ble_eq_true rfl)
  rw [lg_entry_eq]
  generalize (lg_sl ([.int p1]) ++ List.replicate (3 - (lg_sl ([.int p1])).length) Slot.unset).toArray = ls at hl ⊢
  have hl : lv_has ls 3 [(0, .int p1)] := hl
  unfold kFX5_bit at h
  refine lv_iconst (v := 1) hx hb kdX5_bit_0 (by decide) ?_
  refine lv_istore_n (lv' := [(1, .int (1 : Int32)), (0, .int p1)]) hx hb kdX5_bit_1 rfl hl (by decide) rfl (fun ls hl => ?_)
  refine lv_iconst (v := 0) hx hb kdX5_bit_2 (by decide) ?_
  refine lv_istore_n (lv' := [(2, .int (0 : Int32)), (1, .int (1 : Int32)), (0, .int p1)]) hx hb kdX5_bit_3 rfl hl (by decide) rfl (fun ls hl => ?_)
  obtain ⟨r_9, hr_9, h⟩ := kb_o_s h
  refine klX5_bit_4 C0 hlocks hK hN hA (by decide) (by decide) p1 100000 (1 : Int32) (0 : Int32) r_9 hr_9 _ _ _ hP hD hS (lv_sub hl [2, 1, 0] rfl) (fun x1p4_7 x2p4_8 er_9 H locs ls hP hD hS hl => ?_)
  subst er_9
  try dsimp only at h
  refine lv_iload_n hx hb kdX5_bit_43 rfl (lv_at hl 1 rfl) ?_
  refine lv_iconst (v := 1) hx hb kdX5_bit_44 (by decide) ?_
  refine lv_iand hx hb kdX5_bit_45 ?_
  obtain rfl := Option.some.inj h
  exact W.iret (v := (x1p4_7 &&& (1 : Int32))) hx hb hr (fun t ht hW => ⟨⟨rfl, by rw [ht]; exact hP, va_K.moved hW.alike hK, hD⟩, hS.F ht⟩) hS.2.2 kdX5_bit_46

-- 425.ModuleKemModel.sponge.lean.txt
abbrev kWX5_sponge (cB cI cL cBB cII cSh : ClassId) (h_this : Nat) (a_this : Nat → Nat) (this_taped : Int32) (this_code : Int32) (this_kind : Int32) (this_rate : Int32) (this_filled : Int32) (this_total : Int64) (this_bitAt : Int32) (this_k : Int32) (this_e1 : Int32) (this_du : Int32) (this_dv : Int32) : va_W := [(h_this, koX5 a_this this_taped this_code this_kind this_rate this_filled this_total this_bitAt this_k this_e1 this_du this_dv)]
def krX5_sponge : Room := { frames := 0, cells := 0, slots := 0, locals := 0 }
set_option maxHeartbeats 4000000 in
set_option maxRecDepth 100000 in
theorem kcX5_sponge (l : Launch) (D : va_G) (cB cI cL cBB cII cSh : ClassId) (h_this : Nat) (a_this : Nat → Nat) (sz : Nat) (this_taped : Int32) (this_code : Int32) (this_kind : Int32) (this_rate : Int32) (this_filled : Int32) (this_total : Int64) (this_bitAt : Int32) (this_k : Int32) (this_e1 : Int32) (this_du : Int32) (this_dv : Int32) (out : Int32) (h : kFX5_sponge this_kind = some out) : Met l kyX5_sponge kwX5_sponge krX5_sponge (kb_P D kCl (kb_T cB cI cL cBB cII cSh) [.ref h_this] (kWX5_sponge cB cI cL cBB cII cSh h_this a_this this_taped this_code this_kind this_rate this_filled this_total this_bitAt this_k this_e1 this_du this_dv) sz) (kb_Q D kCl (kb_T cB cI cL cBB cII cSh) (va_A (kWX5_sponge cB cI cL cBB cII cSh h_this a_this this_taped this_code this_kind this_rate this_filled this_total this_bitAt this_k this_e1 this_du this_dv) sz) (some (.int out)) (kWX5_sponge cB cI cL cBB cII cSh h_this a_this this_taped this_code this_kind this_rate this_filled this_total this_bitAt this_k this_e1 this_du this_dv)) 0 0 (va_A (kWX5_sponge cB cI cL cBB cII cSh h_this a_this this_taped this_code this_kind this_rate this_filled this_total this_bitAt this_k this_e1 this_du this_dv) sz) := by
  refine Met.ofW (cc := prog_8_method_22_code) (maxL := 1) (ret := (some .boolean)) (by decide) rfl ?_
  intro p e s m args below meth c s₁ B hml hv
  obtain ⟨rfl, hsz, hP, hK, hN, hD0⟩ := hv
  have hx := B.exec
  have hb := B.bytes
  have hr := B.returns
  have hts0 := atoms_spec (ws := kwX5_sponge) B.pre
  have hts : ∀ w ∈ kwA, w.before _ s = true := fun w h => hts0 w (List.mem_cons_of_mem _ h)
  have hown : s.vm.findClass kRX5 = some m.cls := findClass_of_methodNamed B.named
  have hlocks := B.notSynchronized
  subst hsz
  have hD := hD0.self (sz := s.heap.size)
  generalize hAe : va_A (kWX5_sponge cB cI cL cBB cII cSh h_this a_this this_taped this_code this_kind this_rate this_filled this_total this_bitAt this_k this_e1 this_du this_dv) s.heap.size = A at hD ⊢
  have hA : ∀ q : Nat, s.heap.size ≤ q → A q := fun q h => by rw [← hAe]; exact Or.inr h
  have hS : va_S A s.heap s.heap [] := va_S.rf
  have C0 : CallFix p m c prog_8_method_22_code 1 s _ kwA kRX5 := ⟨hx, hb, hml, hown, hts⟩
  have hl := lv_entry ([.ref h_this]) (n := 1) (Nat.le_of_ble_eq_true rfl)
  rw [lg_entry_eq]
  generalize (lg_sl ([.ref h_this]) ++ List.replicate (1 - (lg_sl ([.ref h_this])).length) Slot.unset).toArray = ls at hl ⊢
  have hl : lv_has ls 1 [(0, .ref h_this)] := hl
  unfold kFX5_sponge at h
  refine lv_aload_n hx hb kdX5_sponge_0 rfl (lv_at hl 0 rfl) ?_
  refine va_get (ci := 5) (v := .int this_kind) (C := kRX5) (T := kTX5) (N := 35) hx hb hts kinX5 hown hK hP 0 rfl rfl 18 (by decide) (hts _ km_699) (fun _ h9 => h9) rfl kdX5_sponge_1 ?_
  refine lv_bipush (v := 6) hx hb kdX5_sponge_4 (by decide) ?_
  refine lv_icmp_le (tgt := 13) hx hb kdX5_sponge_6 (by decide) (fun c_1 => ?_) (fun c_1 => ?_)
  · have h := kb_b_t c_1 h
    refine lv_iconst (v := 0) hx hb kdX5_sponge_13 (by decide) ?_
    obtain rfl := Option.some.inj h
    exact W.zret (v := (0 : Int32)) (ty := .boolean) hx hb hr (by decide) (fun t ht hW => ⟨⟨rfl, by rw [ht]; exact hP, va_K.moved hW.alike hK, hD⟩, hS.F ht⟩) hS.2.2 kdX5_sponge_14
  · have h := kb_b_f c_1 h
    refine lv_iconst (v := 1) hx hb kdX5_sponge_9 (by decide) ?_
    refine lv_goto (tgt := 14) hx hb kdX5_sponge_10 (by decide) ?_
    obtain rfl := Option.some.inj h
    exact W.zret (v := (1 : Int32)) (ty := .boolean) hx hb hr (by decide) (fun t ht hW => ⟨⟨rfl, by rw [ht]; exact hP, va_K.moved hW.alike hK, hD⟩, hS.F ht⟩) hS.2.2 kdX5_sponge_14

-- 426.ModuleKemModel.blockOf.lean.txt
abbrev kWX5_blockOf (cB cI cL cBB cII cSh : ClassId)   : va_W := []
def krX5_blockOf : Room := { frames := 0, cells := 0, slots := 0, locals := 0 }
set_option maxHeartbeats 4000000 in
set_option maxRecDepth 100000 in
theorem kcX5_blockOf (l : Launch) (D : va_G) (cB cI cL cBB cII cSh : ClassId)  (sz : Nat) (p1 : Int32) (out : Int32) (h : kFX5_blockOf p1 = some out) : Met l kyX5_blockOf kwX5_blockOf krX5_blockOf (kb_P D kCl (kb_T cB cI cL cBB cII cSh) [.int p1] (kWX5_blockOf cB cI cL cBB cII cSh) sz) (kb_Q D kCl (kb_T cB cI cL cBB cII cSh) (va_A (kWX5_blockOf cB cI cL cBB cII cSh) sz) (some (.int out)) (kWX5_blockOf cB cI cL cBB cII cSh)) 0 0 (va_A (kWX5_blockOf cB cI cL cBB cII cSh) sz) := by
  refine Met.ofW (cc := prog_8_method_23_code) (maxL := 1) (ret := (some .int)) (by decide) rfl ?_
  intro p e s m args below meth c s₁ B hml hv
  obtain ⟨rfl, hsz, hP, hK, hN, hD0⟩ := hv
  have hx := B.exec
  have hb := B.bytes
  have hr := B.returns
  have hts0 := atoms_spec (ws := kwX5_blockOf) B.pre
  have hts : ∀ w ∈ kwA, w.before _ s = true := fun w h => hts0 w (List.mem_cons_of_mem _ h)
  have hown : s.vm.findClass kRX5 = some m.cls := findClass_of_methodNamed B.named
  have hlocks := B.notSynchronized
  subst hsz
  have hD := hD0.self (sz := s.heap.size)
  generalize hAe : va_A (kWX5_blockOf cB cI cL cBB cII cSh) s.heap.size = A at hD ⊢
  have hA : ∀ q : Nat, s.heap.size ≤ q → A q := fun q h => by rw [← hAe]; exact Or.inr h
  have hS : va_S A s.heap s.heap [] := va_S.rf
  have C0 : CallFix p m c prog_8_method_23_code 1 s _ kwA kRX5 := ⟨hx, hb, hml, hown, hts⟩
  have hl := lv_entry ([.int p1]) (n := 1) (Nat.le_of_ble_eq_true rfl)
  rw [lg_entry_eq]
  generalize (lg_sl ([.int p1]) ++ List.replicate (1 - (lg_sl ([.int p1])).length) Slot.unset).toArray = ls at hl ⊢
  have hl : lv_has ls 1 [(0, .int p1)] := hl
  unfold kFX5_blockOf at h
  refine lv_iload_n hx hb kdX5_blockOf_0 rfl (lv_at hl 0 rfl) ?_
  refine lv_iconst (v := 1) hx hb kdX5_blockOf_1 (by decide) ?_
  refine lv_icmp_eq (tgt := 10) hx hb kdX5_blockOf_2 (by decide) (fun c_1 => ?_) (fun c_1 => ?_)
  · have h := kb_b_t c_1 h
    refine lv_bipush (v := 64) hx hb kdX5_blockOf_10 (by decide) ?_
    refine lv_goto (tgt := 18) hx hb kdX5_blockOf_12 (by decide) ?_
    obtain rfl := Option.some.inj h
    exact W.iret (v := (64 : Int32)) hx hb hr (fun t ht hW => ⟨⟨rfl, by rw [ht]; exact hP, va_K.moved hW.alike hK, hD⟩, hS.F ht⟩) hS.2.2 kdX5_blockOf_18
  · have h := kb_b_f c_1 h
    refine lv_iload_n hx hb kdX5_blockOf_5 rfl (lv_at hl 0 rfl) ?_
    refine lv_iconst (v := 4) hx hb kdX5_blockOf_6 (by decide) ?_
    refine lv_icmp_ne (tgt := 15) hx hb kdX5_blockOf_7 (by decide) (fun c_2 => ?_) (fun c_2 => ?_)
    · have h := kb_b_f c_2 h
      refine lv_sipush (v := 128) hx hb kdX5_blockOf_15 (by decide) ?_
      obtain rfl := Option.some.inj h
      exact W.iret (v := (128 : Int32)) hx hb hr (fun t ht hW => ⟨⟨rfl, by rw [ht]; exact hP, va_K.moved hW.alike hK, hD⟩, hS.F ht⟩) hS.2.2 kdX5_blockOf_18
    · have h := kb_b_t c_2 h
      refine lv_bipush (v := 64) hx hb kdX5_blockOf_10 (by decide) ?_
      refine lv_goto (tgt := 18) hx hb kdX5_blockOf_12 (by decide) ?_
      obtain rfl := Option.some.inj h
      exact W.iret (v := (64 : Int32)) hx hb hr (fun t ht hW => ⟨⟨rfl, by rw [ht]; exact hP, va_K.moved hW.alike hK, hD⟩, hS.F ht⟩) hS.2.2 kdX5_blockOf_18

-- 427.ModuleKemModel.digestOf.lean.txt
abbrev kWX5_digestOf (cB cI cL cBB cII cSh : ClassId)   : va_W := []
def krX5_digestOf : Room := { frames := 0, cells := 0, slots := 0, locals := 0 }
set_option maxHeartbeats 4000000 in
set_option maxRecDepth 100000 in
theorem kcX5_digestOf (l : Launch) (D : va_G) (cB cI cL cBB cII cSh : ClassId)  (sz : Nat) (p1 : Int32) (out : Int32) (h : kFX5_digestOf p1 = some out) : Met l kyX5_digestOf kwX5_digestOf krX5_digestOf (kb_P D kCl (kb_T cB cI cL cBB cII cSh) [.int p1] (kWX5_digestOf cB cI cL cBB cII cSh) sz) (kb_Q D kCl (kb_T cB cI cL cBB cII cSh) (va_A (kWX5_digestOf cB cI cL cBB cII cSh) sz) (some (.int out)) (kWX5_digestOf cB cI cL cBB cII cSh)) 0 0 (va_A (kWX5_digestOf cB cI cL cBB cII cSh) sz) := by
  refine Met.ofW (cc := prog_8_method_24_code) (maxL := 1) (ret := (some .int)) (by decide) rfl ?_
  intro p e s m args below meth c s₁ B hml hv
  obtain ⟨rfl, hsz, hP, hK, hN, hD0⟩ := hv
  have hx := B.exec
  have hb := B.bytes
  have hr := B.returns
  have hts0 := atoms_spec (ws := kwX5_digestOf) B.pre
  have hts : ∀ w ∈ kwA, w.before _ s = true := fun w h => hts0 w (List.mem_cons_of_mem _ h)
  have hown : s.vm.findClass kRX5 = some m.cls := findClass_of_methodNamed B.named
  have hlocks := B.notSynchronized
  subst hsz
  have hD := hD0.self (sz := s.heap.size)
  generalize hAe : va_A (kWX5_digestOf cB cI cL cBB cII cSh) s.heap.size = A at hD ⊢
  have hA : ∀ q : Nat, s.heap.size ≤ q → A q := fun q h => by rw [← hAe]; exact Or.inr h
  have hS : va_S A s.heap s.heap [] := va_S.rf
  have C0 : CallFix p m c prog_8_method_24_code 1 s _ kwA kRX5 := ⟨hx, hb, hml, hown, hts⟩
  have hl := lv_entry ([.int p1]) (n := 1) (Nat.le_of_ble_eq_true rfl)
  rw [lg_entry_eq]
  generalize (lg_sl ([.int p1]) ++ List.replicate (1 - (lg_sl ([.int p1])).length) Slot.unset).toArray = ls at hl ⊢
  have hl : lv_has ls 1 [(0, .int p1)] := hl
  unfold kFX5_digestOf at h
  refine lv_iload_n hx hb kdX5_digestOf_0 rfl (lv_at hl 0 rfl) ?_
  by_cases c_1 : p1 = (1 : Int32)
  · have h := kb_b_t c_1 h
    refine lv_tableIn (tgt := 64) hx hb kdX5_digestOf_1 (by rw [c_1]; decide) (by rw [c_1]; decide) (by rw [c_1]; rfl) (by decide) ?_
    refine lv_bipush (v := 32) hx hb kdX5_digestOf_64 (by decide) ?_
    obtain rfl := Option.some.inj h
    exact W.iret (v := (32 : Int32)) hx hb hr (fun t ht hW => ⟨⟨rfl, by rw [ht]; exact hP, va_K.moved hW.alike hK, hD⟩, hS.F ht⟩) hS.2.2 kdX5_digestOf_66
  have h := kb_b_f c_1 h
  by_cases c_2 : p1 = (2 : Int32)
  · have h := kb_b_t c_2 h
    refine lv_tableIn (tgt := 67) hx hb kdX5_digestOf_1 (by rw [c_2]; decide) (by rw [c_2]; decide) (by rw [c_2]; rfl) (by decide) ?_
    refine lv_bipush (v := 48) hx hb kdX5_digestOf_67 (by decide) ?_
    obtain rfl := Option.some.inj h
    exact W.iret (v := (48 : Int32)) hx hb hr (fun t ht hW => ⟨⟨rfl, by rw [ht]; exact hP, va_K.moved hW.alike hK, hD⟩, hS.F ht⟩) hS.2.2 kdX5_digestOf_69
  have h := kb_b_f c_2 h
  by_cases c_3 : p1 = (3 : Int32)
  · have h := kb_b_t c_3 h
    refine lv_tableIn (tgt := 70) hx hb kdX5_digestOf_1 (by rw [c_3]; decide) (by rw [c_3]; decide) (by rw [c_3]; rfl) (by decide) ?_
    refine lv_bipush (v := 64) hx hb kdX5_digestOf_70 (by decide) ?_
    obtain rfl := Option.some.inj h
    exact W.iret (v := (64 : Int32)) hx hb hr (fun t ht hW => ⟨⟨rfl, by rw [ht]; exact hP, va_K.moved hW.alike hK, hD⟩, hS.F ht⟩) hS.2.2 kdX5_digestOf_72
  have h := kb_b_f c_3 h
  by_cases c_4 : p1 = (4 : Int32)
  · have h := kb_b_t c_4 h
    refine lv_tableIn (tgt := 73) hx hb kdX5_digestOf_1 (by rw [c_4]; decide) (by rw [c_4]; decide) (by rw [c_4]; rfl) (by decide) ?_
    refine lv_bipush (v := 28) hx hb kdX5_digestOf_73 (by decide) ?_
    obtain rfl := Option.some.inj h
    exact W.iret (v := (28 : Int32)) hx hb hr (fun t ht hW => ⟨⟨rfl, by rw [ht]; exact hP, va_K.moved hW.alike hK, hD⟩, hS.F ht⟩) hS.2.2 kdX5_digestOf_75
  have h := kb_b_f c_4 h
  by_cases c_5 : p1 = (5 : Int32)
  · have h := kb_b_t c_5 h
    refine lv_tableIn (tgt := 73) hx hb kdX5_digestOf_1 (by rw [c_5]; decide) (by rw [c_5]; decide) (by rw [c_5]; rfl) (by decide) ?_
    refine lv_bipush (v := 28) hx hb kdX5_digestOf_73 (by decide) ?_
    obtain rfl := Option.some.inj h
    exact W.iret (v := (28 : Int32)) hx hb hr (fun t ht hW => ⟨⟨rfl, by rw [ht]; exact hP, va_K.moved hW.alike hK, hD⟩, hS.F ht⟩) hS.2.2 kdX5_digestOf_75
  have h := kb_b_f c_5 h
  by_cases c_6 : p1 = (6 : Int32)
  · have h := kb_b_t c_6 h
    refine lv_tableIn (tgt := 64) hx hb kdX5_digestOf_1 (by rw [c_6]; decide) (by rw [c_6]; decide) (by rw [c_6]; rfl) (by decide) ?_
    refine lv_bipush (v := 32) hx hb kdX5_digestOf_64 (by decide) ?_
    obtain rfl := Option.some.inj h
    exact W.iret (v := (32 : Int32)) hx hb hr (fun t ht hW => ⟨⟨rfl, by rw [ht]; exact hP, va_K.moved hW.alike hK, hD⟩, hS.F ht⟩) hS.2.2 kdX5_digestOf_66
  have h := kb_b_f c_6 h
  by_cases c_7 : p1 = (7 : Int32)
  · have h := kb_b_t c_7 h
    refine lv_tableIn (tgt := 73) hx hb kdX5_digestOf_1 (by rw [c_7]; decide) (by rw [c_7]; decide) (by rw [c_7]; rfl) (by decide) ?_
    refine lv_bipush (v := 28) hx hb kdX5_digestOf_73 (by decide) ?_
    obtain rfl := Option.some.inj h
    exact W.iret (v := (28 : Int32)) hx hb hr (fun t ht hW => ⟨⟨rfl, by rw [ht]; exact hP, va_K.moved hW.alike hK, hD⟩, hS.F ht⟩) hS.2.2 kdX5_digestOf_75
  have h := kb_b_f c_7 h
  by_cases c_8 : p1 = (8 : Int32)
  · have h := kb_b_t c_8 h
    refine lv_tableIn (tgt := 64) hx hb kdX5_digestOf_1 (by rw [c_8]; decide) (by rw [c_8]; decide) (by rw [c_8]; rfl) (by decide) ?_
    refine lv_bipush (v := 32) hx hb kdX5_digestOf_64 (by decide) ?_
    obtain rfl := Option.some.inj h
    exact W.iret (v := (32 : Int32)) hx hb hr (fun t ht hW => ⟨⟨rfl, by rw [ht]; exact hP, va_K.moved hW.alike hK, hD⟩, hS.F ht⟩) hS.2.2 kdX5_digestOf_66
  have h := kb_b_f c_8 h
  by_cases c_9 : p1 = (9 : Int32)
  · have h := kb_b_t c_9 h
    refine lv_tableIn (tgt := 67) hx hb kdX5_digestOf_1 (by rw [c_9]; decide) (by rw [c_9]; decide) (by rw [c_9]; rfl) (by decide) ?_
    refine lv_bipush (v := 48) hx hb kdX5_digestOf_67 (by decide) ?_
    obtain rfl := Option.some.inj h
    exact W.iret (v := (48 : Int32)) hx hb hr (fun t ht hW => ⟨⟨rfl, by rw [ht]; exact hP, va_K.moved hW.alike hK, hD⟩, hS.F ht⟩) hS.2.2 kdX5_digestOf_69
  have h := kb_b_f c_9 h
  by_cases c_10 : p1 = (10 : Int32)
  · have h := kb_b_t c_10 h
    refine lv_tableIn (tgt := 70) hx hb kdX5_digestOf_1 (by rw [c_10]; decide) (by rw [c_10]; decide) (by rw [c_10]; rfl) (by decide) ?_
    refine lv_bipush (v := 64) hx hb kdX5_digestOf_70 (by decide) ?_
    obtain rfl := Option.some.inj h
    exact W.iret (v := (64 : Int32)) hx hb hr (fun t ht hW => ⟨⟨rfl, by rw [ht]; exact hP, va_K.moved hW.alike hK, hD⟩, hS.F ht⟩) hS.2.2 kdX5_digestOf_72
  have h := kb_b_f c_10 h
  by_cases c_11 : p1 = (11 : Int32)
  · have h := kb_b_t c_11 h
    refine lv_tableIn (tgt := 64) hx hb kdX5_digestOf_1 (by rw [c_11]; decide) (by rw [c_11]; decide) (by rw [c_11]; rfl) (by decide) ?_
    refine lv_bipush (v := 32) hx hb kdX5_digestOf_64 (by decide) ?_
    obtain rfl := Option.some.inj h
    exact W.iret (v := (32 : Int32)) hx hb hr (fun t ht hW => ⟨⟨rfl, by rw [ht]; exact hP, va_K.moved hW.alike hK, hD⟩, hS.F ht⟩) hS.2.2 kdX5_digestOf_66
  have h := kb_b_f c_11 h
  by_cases c_12 : p1 = (12 : Int32)
  · have h := kb_b_t c_12 h
    refine lv_tableIn (tgt := 70) hx hb kdX5_digestOf_1 (by rw [c_12]; decide) (by rw [c_12]; decide) (by rw [c_12]; rfl) (by decide) ?_
    refine lv_bipush (v := 64) hx hb kdX5_digestOf_70 (by decide) ?_
    obtain rfl := Option.some.inj h
    exact W.iret (v := (64 : Int32)) hx hb hr (fun t ht hW => ⟨⟨rfl, by rw [ht]; exact hP, va_K.moved hW.alike hK, hD⟩, hS.F ht⟩) hS.2.2 kdX5_digestOf_72
  have h := kb_b_f c_12 h
  refine lv_tableOut (tgt := 73) hx hb kdX5_digestOf_1 (by have qc_1 := lv_neT c_1 (a := 1) rfl; have qc_2 := lv_neT c_2 (a := 2) rfl; have qc_3 := lv_neT c_3 (a := 3) rfl; have qc_4 := lv_neT c_4 (a := 4) rfl; have qc_5 := lv_neT c_5 (a := 5) rfl; have qc_6 := lv_neT c_6 (a := 6) rfl; have qc_7 := lv_neT c_7 (a := 7) rfl; have qc_8 := lv_neT c_8 (a := 8) rfl; have qc_9 := lv_neT c_9 (a := 9) rfl; have qc_10 := lv_neT c_10 (a := 10) rfl; have qc_11 := lv_neT c_11 (a := 11) rfl; have qc_12 := lv_neT c_12 (a := 12) rfl; omega) (by decide) ?_
  refine lv_bipush (v := 28) hx hb kdX5_digestOf_73 (by decide) ?_
  obtain rfl := Option.some.inj h
  exact W.iret (v := (28 : Int32)) hx hb hr (fun t ht hW => ⟨⟨rfl, by rw [ht]; exact hP, va_K.moved hW.alike hK, hD⟩, hS.F ht⟩) hS.2.2 kdX5_digestOf_75

-- 428.ModuleKemModel.begin.lean.txt
abbrev kWX5_begin (cB cI cL cBB cII cSh : ClassId) (h_this : Nat) (a_this : Nat → Nat) (this_taped : Int32) (this_code : Int32) (this_kind : Int32) (this_rate : Int32) (this_filled : Int32) (this_total : Int64) (this_bitAt : Int32) (this_k : Int32) (this_e1 : Int32) (this_du : Int32) (this_dv : Int32) (f_this_roots : Nat → Int64) (f_this_start224 : Nat → Int64) (f_this_start256 : Nat → Int64) (f_this_state : Nat → Int64) : va_W := [(h_this, koX5 a_this this_taped this_code this_kind this_rate this_filled this_total this_bitAt this_k this_e1 this_du this_dv), ((a_this 5), .inl (cL, 16, .inr (.inl f_this_roots))), ((a_this 7), .inl (cL, 8, .inr (.inl f_this_start224))), ((a_this 8), .inl (cL, 8, .inr (.inl f_this_start256))), ((a_this 13), .inl (cL, 25, .inr (.inl f_this_state)))]
def krX5_begin : Room := { frames := 1, cells := 0, slots := 0, locals := 20 }
set_option maxHeartbeats 4000000 in
set_option maxRecDepth 100000 in
theorem klX5_begin_17 {p : Program} {l : Launch} {e : Env} {s : State} {m : MethodId} {args : Array Value} {below : List Frame} {meth : Method} {c : Code} {cells slots : Nat} {Q : State → Prop} {D : va_G} {cB cI cL cBB cII cSh : ClassId} {A : Nat → Prop} (C0 : CallFix p m c prog_8_method_25_code 3 s args kwA kRX5) (hlocks : meth.locks = false) (hK : va_K D kCl (kb_T cB cI cL cBB cII cSh) s) (hN : kb_N s) (hA : ∀ q, s.heap.size ≤ q → A q) (hcR : cells ≤ krX5_begin.cells) (hsR : slots ≤ krX5_begin.slots) (h_this : Nat) (a_this : Nat → Nat) (p1 : Int32) (this_taped : Int32) (this_code : Int32) (this_rate : Int32) (this_bitAt : Int32) (this_k : Int32) (this_e1 : Int32) (this_du : Int32) (this_dv : Int32) (f_this_roots : Nat → Int64) (f_this_start224 : Nat → Int64) (f_this_start256 : Nat → Int64) :
    ∀ (fuel : Nat) (x2p17 : Int32) (f_this_statep17 : Nat → Int64) (r : Int32 × (Nat → Int64)), kb_w (fun u : Int32 × (Nat → Int64) => kSX5_begin_17 u.1 u.2) fuel (x2p17, f_this_statep17) = some r → ∀ (H : Heap) (locs : List Loc) (ls : Array Slot), va_P D kCl (kWX5_begin cB cI cL cBB cII cSh h_this a_this this_taped this_code p1 this_rate (0 : Int32) (0 : Int64) this_bitAt this_k this_e1 this_du this_dv f_this_roots f_this_start224 f_this_start256 f_this_statep17) H → va_D A (kWX5_begin cB cI cL cBB cII cSh h_this a_this this_taped this_code p1 this_rate (0 : Int32) (0 : Int64) this_bitAt this_k this_e1 this_du this_dv f_this_roots f_this_start224 f_this_start256 f_this_statep17) → va_S A s.heap H locs → lv_has ls 3 [(0, .ref h_this), (1, .int p1), (2, .int x2p17)] → (∀ (x2p17' : Int32) (f_this_statep17' : Nat → Int64), r = (x2p17', f_this_statep17') → ∀ (H : Heap) (locs : List Loc) (ls : Array Slot), va_P D kCl (kWX5_begin cB cI cL cBB cII cSh h_this a_this this_taped this_code p1 this_rate (0 : Int32) (0 : Int64) this_bitAt this_k this_e1 this_du this_dv f_this_roots f_this_start224 f_this_start256 f_this_statep17') H → va_D A (kWX5_begin cB cI cL cBB cII cSh h_this a_this this_taped this_code p1 this_rate (0 : Int32) (0 : Int64) this_bitAt this_k this_e1 this_du this_dv f_this_roots f_this_start224 f_this_start256 f_this_statep17') → va_S A s.heap H locs → lv_has ls 3 [(0, .ref h_this), (1, .int p1), (2, .int x2p17')] → W p l e krX5_begin s m args below meth c H locs cells slots Q (F0 m 36 ls [])) → W p l e krX5_begin s m args below meth c H locs cells slots Q (F0 m 17 ls []) := by
  obtain ⟨hx, hb, hml, hown, hts⟩ := id C0
  intro fuel
  induction fuel with
  | zero =>
    intro x2p17 f_this_statep17 r h
    exact absurd h (kb_w_z _ _ _)
  | succ fuel ih =>
    intro x2p17 f_this_statep17 r h H locs ls hP hD hS hl hk0
    obtain ⟨o, h, ho⟩ := kb_w_s h
    have h : kSX5_begin_17 x2p17 f_this_statep17 = some o := h
    unfold kSX5_begin_17 at h
    refine lv_iload_n hx hb kdX5_begin_17 rfl (lv_at hl 2 rfl) ?_
    refine lv_bipush (v := 25) hx hb kdX5_begin_18 (by decide) ?_
    refine lv_icmp_ge (tgt := 36) hx hb kdX5_begin_20 (by decide) (fun c_1 => ?_) (fun c_1 => ?_)
    · have h := kb_b_t c_1 h
      obtain rfl := Option.some.inj h
      exact hk0 x2p17 f_this_statep17 ho.symm _ _ _ hP hD hS (lv_sub hl [0, 1, 2] rfl)
    · have h := kb_b_f c_1 h
      refine lv_aload_n hx hb kdX5_begin_23 rfl (lv_at hl 0 rfl) ?_
      refine va_get (ci := 5) (v := .ref (a_this 13)) (C := kRX5) (T := kTX5) (N := 35) hx hb hts kinX5 hown hK hP 0 rfl rfl 13 (by decide) (hts _ km_694) (fun _ h9 => h9) rfl kdX5_begin_24 ?_
      refine lv_iload_n hx hb kdX5_begin_27 rfl (lv_at hl 2 rfl) ?_
      refine lv_lconst (v := 0) hx hb kdX5_begin_28 (by decide) ?_
      obtain ⟨g_2, h⟩ := kb_g_s h
      refine va_last hx hb hK hP hD hS 4 2 rfl rfl (kb_in_v g_2) kdX5_begin_29 (fun H locs hP hD hS => ?_)
      obtain ⟨f_3, ef_3⟩ : ∃ y, y = vp_updL f_this_statep17 x2p17.toNatClampNeg (0 : Int64) := ⟨_, rfl⟩
      have h := kb_n_s ef_3 h
      have hP : va_P D kCl (kWX5_begin cB cI cL cBB cII cSh h_this a_this this_taped this_code p1 this_rate (0 : Int32) (0 : Int64) this_bitAt this_k this_e1 this_du this_dv f_this_roots f_this_start224 f_this_start256 f_3) H := by rw [ef_3]; exact hP
      have hD : va_D A (kWX5_begin cB cI cL cBB cII cSh h_this a_this this_taped this_code p1 this_rate (0 : Int32) (0 : Int64) this_bitAt this_k this_e1 this_du this_dv f_this_roots f_this_start224 f_this_start256 f_3) := by rw [ef_3]; exact hD
      obtain ⟨x2_4, ex2_4⟩ : ∃ y : Int32, y = x2p17 + Int32.ofInt 1 := ⟨_, rfl⟩
      have h := kb_n_s ex2_4 h
      refine lv_iinc (v := x2_4) (lv' := [(2, .int x2_4), (0, .ref h_this), (1, .int p1)]) hx hb kdX5_begin_30 hl (k := 2) rfl ex2_4.symm (by decide) rfl (fun ls hl => ?_)
      refine lv_goto (tgt := 17) hx hb kdX5_begin_33 (by decide) ?_
      obtain rfl := Option.some.inj h
      exact ih x2_4 f_3 r ho _ _ _ hP hD hS (lv_sub hl [1, 2, 0] rfl) hk0
set_option maxHeartbeats 4000000 in
set_option maxRecDepth 100000 in
theorem klX5_begin_89 {p : Program} {l : Launch} {e : Env} {s : State} {m : MethodId} {args : Array Value} {below : List Frame} {meth : Method} {c : Code} {cells slots : Nat} {Q : State → Prop} {D : va_G} {cB cI cL cBB cII cSh : ClassId} {A : Nat → Prop} (C0 : CallFix p m c prog_8_method_25_code 3 s args kwA kRX5) (hlocks : meth.locks = false) (hK : va_K D kCl (kb_T cB cI cL cBB cII cSh) s) (hN : kb_N s) (hA : ∀ q, s.heap.size ≤ q → A q) (hcR : cells ≤ krX5_begin.cells) (hsR : slots ≤ krX5_begin.slots) (h_this : Nat) (a_this : Nat → Nat) (x1j84 : Int32) (this_taped : Int32) (this_code : Int32) (this_kindj84 : Int32) (y0j84 : Int32) (this_filledj84 : Int32) (this_totalj84 : Int64) (this_bitAt : Int32) (this_k : Int32) (this_e1 : Int32) (this_du : Int32) (this_dv : Int32) (f_this_roots : Nat → Int64) (f_this_start224 : Nat → Int64) (f_this_start256 : Nat → Int64) :
    ∀ (fuel : Nat) (x2p89 : Int32) (f_this_statep89 : Nat → Int64) (r : Int32 × (Nat → Int64)), kb_w (fun u : Int32 × (Nat → Int64) => kSX5_begin_89 x1j84 f_this_roots f_this_start224 f_this_start256 u.1 u.2) fuel (x2p89, f_this_statep89) = some r → ∀ (H : Heap) (locs : List Loc) (ls : Array Slot), va_P D kCl (kWX5_begin cB cI cL cBB cII cSh h_this a_this this_taped this_code this_kindj84 y0j84 this_filledj84 this_totalj84 this_bitAt this_k this_e1 this_du this_dv f_this_roots f_this_start224 f_this_start256 f_this_statep89) H → va_D A (kWX5_begin cB cI cL cBB cII cSh h_this a_this this_taped this_code this_kindj84 y0j84 this_filledj84 this_totalj84 this_bitAt this_k this_e1 this_du this_dv f_this_roots f_this_start224 f_this_start256 f_this_statep89) → va_S A s.heap H locs → lv_has ls 3 [(0, .ref h_this), (1, .int x1j84), (2, .int x2p89)] → (∀ (x2p89' : Int32) (f_this_statep89' : Nat → Int64), r = (x2p89', f_this_statep89') → ∀ (H : Heap) (locs : List Loc) (ls : Array Slot), va_P D kCl (kWX5_begin cB cI cL cBB cII cSh h_this a_this this_taped this_code this_kindj84 y0j84 this_filledj84 this_totalj84 this_bitAt this_k this_e1 this_du this_dv f_this_roots f_this_start224 f_this_start256 f_this_statep89') H → va_D A (kWX5_begin cB cI cL cBB cII cSh h_this a_this this_taped this_code this_kindj84 y0j84 this_filledj84 this_totalj84 this_bitAt this_k this_e1 this_du this_dv f_this_roots f_this_start224 f_this_start256 f_this_statep89') → va_S A s.heap H locs → lv_has ls 3 [(0, .ref h_this), (1, .int x1j84), (2, .int x2p89')] → W p l e krX5_begin s m args below meth c H locs cells slots Q (F0 m 203 ls [])) → W p l e krX5_begin s m args below meth c H locs cells slots Q (F0 m 89 ls []) := by
  obtain ⟨hx, hb, hml, hown, hts⟩ := id C0
  intro fuel
  induction fuel with
  | zero =>
    intro x2p89 f_this_statep89 r h
    exact absurd h (kb_w_z _ _ _)
  | succ fuel ih =>
    intro x2p89 f_this_statep89 r h H locs ls hP hD hS hl hk0
    obtain ⟨o, h, ho⟩ := kb_w_s h
    have h : kSX5_begin_89 x1j84 f_this_roots f_this_start224 f_this_start256 x2p89 f_this_statep89 = some o := h
    unfold kSX5_begin_89 at h
    refine lv_iload_n hx hb kdX5_begin_89 rfl (lv_at hl 2 rfl) ?_
    refine lv_bipush (v := 8) hx hb kdX5_begin_90 (by decide) ?_
    refine lv_icmp_ge (tgt := 203) hx hb kdX5_begin_92 (by decide) (fun c_12 => ?_) (fun c_12 => ?_)
    · have h := kb_b_t c_12 h
      obtain rfl := Option.some.inj h
      exact hk0 x2p89 f_this_statep89 ho.symm _ _ _ hP hD hS (lv_sub hl [0, 1, 2] rfl)
    · have h := kb_b_f c_12 h
      refine lv_iload_n hx hb kdX5_begin_95 rfl (lv_at hl 1 rfl) ?_
      refine lv_bipush (v := 7) hx hb kdX5_begin_96 (by decide) ?_
      refine lv_icmp_ge (tgt := 203) hx hb kdX5_begin_98 (by decide) (fun c_13 => ?_) (fun c_13 => ?_)
      · have h := kb_b_t c_13 h
        obtain rfl := Option.some.inj h
        exact hk0 x2p89 f_this_statep89 ho.symm _ _ _ hP hD hS (lv_sub hl [0, 1, 2] rfl)
      · have h := kb_b_f c_13 h
        refine lv_aload_n hx hb kdX5_begin_101 rfl (lv_at hl 0 rfl) ?_
        refine va_get (ci := 5) (v := .ref (a_this 13)) (C := kRX5) (T := kTX5) (N := 35) hx hb hts kinX5 hown hK hP 0 rfl rfl 13 (by decide) (hts _ km_694) (fun _ h9 => h9) rfl kdX5_begin_102 ?_
        refine lv_iload_n hx hb kdX5_begin_105 rfl (lv_at hl 2 rfl) ?_
        refine lv_iload_n hx hb kdX5_begin_106 rfl (lv_at hl 1 rfl) ?_
        refine lv_iconst (v := 1) hx hb kdX5_begin_107 (by decide) ?_
        refine lv_icmp_ne (tgt := 123) hx hb kdX5_begin_108 (by decide) (fun c_14 => ?_) (fun c_14 => ?_)
        · have h := kb_b_f c_14 h
          refine lv_iload_n hx hb kdX5_begin_123 rfl (lv_at hl 1 rfl) ?_
          refine lv_iconst (v := 4) hx hb kdX5_begin_124 (by decide) ?_
          refine lv_icmp_ne (tgt := 144) hx hb kdX5_begin_125 (by decide) (fun c_15 => ?_) (fun c_15 => ?_)
          · have h := kb_b_f c_15 h
            refine lv_iload_n hx hb kdX5_begin_144 rfl (lv_at hl 1 rfl) ?_
            refine lv_iconst (v := 2) hx hb kdX5_begin_145 (by decide) ?_
            refine lv_icmp_ne (tgt := 161) hx hb kdX5_begin_146 (by decide) (fun c_16 => ?_) (fun c_16 => ?_)
            · have h := kb_b_f c_16 h
              refine lv_iload_n hx hb kdX5_begin_161 rfl (lv_at hl 1 rfl) ?_
              refine lv_iconst (v := 5) hx hb kdX5_begin_162 (by decide) ?_
              refine lv_icmp_ne (tgt := 175) hx hb kdX5_begin_163 (by decide) (fun c_17 => ?_) (fun c_17 => ?_)
              · have h := kb_b_f c_17 h
                refine lv_iload_n hx hb kdX5_begin_175 rfl (lv_at hl 1 rfl) ?_
                refine lv_bipush (v := 6) hx hb kdX5_begin_176 (by decide) ?_
                refine lv_icmp_ne (tgt := 190) hx hb kdX5_begin_178 (by decide) (fun c_18 => ?_) (fun c_18 => ?_)
                · have h := kb_b_f c_18 h
                  refine lv_aload_n hx hb kdX5_begin_190 rfl (lv_at hl 0 rfl) ?_
                  refine va_get (ci := 5) (v := .ref (a_this 5)) (C := kRX5) (T := kTX5) (N := 35) hx hb hts kinX5 hown hK hP 0 rfl rfl 5 (by decide) (hts _ km_686) (fun _ h9 => h9) rfl kdX5_begin_191 ?_
                  refine lv_iload_n hx hb kdX5_begin_194 rfl (lv_at hl 2 rfl) ?_
                  obtain ⟨g_19, h⟩ := kb_g_s h
                  refine va_lald hx hb hK hP 1 2 rfl rfl (kb_in_v g_19) kdX5_begin_195 ?_
                  obtain ⟨g_20, h⟩ := kb_g_s h
                  refine va_last hx hb hK hP hD hS 4 2 rfl rfl (kb_in_v g_20) kdX5_begin_196 (fun H locs hP hD hS => ?_)
                  obtain ⟨f_21, ef_21⟩ : ∃ y, y = vp_updL f_this_statep89 x2p89.toNatClampNeg (f_this_roots x2p89.toNatClampNeg) := ⟨_, rfl⟩
                  have h := kb_n_s ef_21 h
                  have hP : va_P D kCl (kWX5_begin cB cI cL cBB cII cSh h_this a_this this_taped this_code this_kindj84 y0j84 this_filledj84 this_totalj84 this_bitAt this_k this_e1 this_du this_dv f_this_roots f_this_start224 f_this_start256 f_21) H := by rw [ef_21]; exact hP
                  have hD : va_D A (kWX5_begin cB cI cL cBB cII cSh h_this a_this this_taped this_code this_kindj84 y0j84 this_filledj84 this_totalj84 this_bitAt this_k this_e1 this_du this_dv f_this_roots f_this_start224 f_this_start256 f_21) := by rw [ef_21]; exact hD
                  obtain ⟨x2_22, ex2_22⟩ : ∃ y : Int32, y = x2p89 + Int32.ofInt 1 := ⟨_, rfl⟩
                  have h := kb_n_s ex2_22 h
                  refine lv_iinc (v := x2_22) (lv' := [(2, .int x2_22), (0, .ref h_this), (1, .int x1j84)]) hx hb kdX5_begin_197 hl (k := 2) rfl ex2_22.symm (by decide) rfl (fun ls hl => ?_)
                  refine lv_goto (tgt := 89) hx hb kdX5_begin_200 (by decide) ?_
                  obtain rfl := Option.some.inj h
                  exact ih x2_22 f_21 r ho _ _ _ hP hD hS (lv_sub hl [1, 2, 0] rfl) hk0
                · have h := kb_b_t c_18 h
                  refine lv_aload_n hx hb kdX5_begin_181 rfl (lv_at hl 0 rfl) ?_
                  refine va_get (ci := 5) (v := .ref (a_this 8)) (C := kRX5) (T := kTX5) (N := 35) hx hb hts kinX5 hown hK hP 0 rfl rfl 8 (by decide) (hts _ km_689) (fun _ h9 => h9) rfl kdX5_begin_182 ?_
                  refine lv_iload_n hx hb kdX5_begin_185 rfl (lv_at hl 2 rfl) ?_
                  obtain ⟨g_23, h⟩ := kb_g_s h
                  refine va_lald hx hb hK hP 3 2 rfl rfl (kb_in_v g_23) kdX5_begin_186 ?_
                  refine lv_goto (tgt := 196) hx hb kdX5_begin_187 (by decide) ?_
                  obtain ⟨g_24, h⟩ := kb_g_s h
                  refine va_last hx hb hK hP hD hS 4 2 rfl rfl (kb_in_v g_24) kdX5_begin_196 (fun H locs hP hD hS => ?_)
                  obtain ⟨f_25, ef_25⟩ : ∃ y, y = vp_updL f_this_statep89 x2p89.toNatClampNeg (f_this_start256 x2p89.toNatClampNeg) := ⟨_, rfl⟩
                  have h := kb_n_s ef_25 h
                  have hP : va_P D kCl (kWX5_begin cB cI cL cBB cII cSh h_this a_this this_taped this_code this_kindj84 y0j84 this_filledj84 this_totalj84 this_bitAt this_k this_e1 this_du this_dv f_this_roots f_this_start224 f_this_start256 f_25) H := by rw [ef_25]; exact hP
                  have hD : va_D A (kWX5_begin cB cI cL cBB cII cSh h_this a_this this_taped this_code this_kindj84 y0j84 this_filledj84 this_totalj84 this_bitAt this_k this_e1 this_du this_dv f_this_roots f_this_start224 f_this_start256 f_25) := by rw [ef_25]; exact hD
                  obtain ⟨x2_26, ex2_26⟩ : ∃ y : Int32, y = x2p89 + Int32.ofInt 1 := ⟨_, rfl⟩
                  have h := kb_n_s ex2_26 h
                  refine lv_iinc (v := x2_26) (lv' := [(2, .int x2_26), (0, .ref h_this), (1, .int x1j84)]) hx hb kdX5_begin_197 hl (k := 2) rfl ex2_26.symm (by decide) rfl (fun ls hl => ?_)
                  refine lv_goto (tgt := 89) hx hb kdX5_begin_200 (by decide) ?_
                  obtain rfl := Option.some.inj h
                  exact ih x2_26 f_25 r ho _ _ _ hP hD hS (lv_sub hl [1, 2, 0] rfl) hk0
              · have h := kb_b_t c_17 h
                refine lv_aload_n hx hb kdX5_begin_166 rfl (lv_at hl 0 rfl) ?_
                refine va_get (ci := 5) (v := .ref (a_this 7)) (C := kRX5) (T := kTX5) (N := 35) hx hb hts kinX5 hown hK hP 0 rfl rfl 7 (by decide) (hts _ km_688) (fun _ h9 => h9) rfl kdX5_begin_167 ?_
                refine lv_iload_n hx hb kdX5_begin_170 rfl (lv_at hl 2 rfl) ?_
                obtain ⟨g_27, h⟩ := kb_g_s h
                refine va_lald hx hb hK hP 2 2 rfl rfl (kb_in_v g_27) kdX5_begin_171 ?_
                refine lv_goto (tgt := 196) hx hb kdX5_begin_172 (by decide) ?_
                obtain ⟨g_28, h⟩ := kb_g_s h
                refine va_last hx hb hK hP hD hS 4 2 rfl rfl (kb_in_v g_28) kdX5_begin_196 (fun H locs hP hD hS => ?_)
                obtain ⟨f_29, ef_29⟩ : ∃ y, y = vp_updL f_this_statep89 x2p89.toNatClampNeg (f_this_start224 x2p89.toNatClampNeg) := ⟨_, rfl⟩
                have h := kb_n_s ef_29 h
                have hP : va_P D kCl (kWX5_begin cB cI cL cBB cII cSh h_this a_this this_taped this_code this_kindj84 y0j84 this_filledj84 this_totalj84 this_bitAt this_k this_e1 this_du this_dv f_this_roots f_this_start224 f_this_start256 f_29) H := by rw [ef_29]; exact hP
                have hD : va_D A (kWX5_begin cB cI cL cBB cII cSh h_this a_this this_taped this_code this_kindj84 y0j84 this_filledj84 this_totalj84 this_bitAt this_k this_e1 this_du this_dv f_this_roots f_this_start224 f_this_start256 f_29) := by rw [ef_29]; exact hD
                obtain ⟨x2_30, ex2_30⟩ : ∃ y : Int32, y = x2p89 + Int32.ofInt 1 := ⟨_, rfl⟩
                have h := kb_n_s ex2_30 h
                refine lv_iinc (v := x2_30) (lv' := [(2, .int x2_30), (0, .ref h_this), (1, .int x1j84)]) hx hb kdX5_begin_197 hl (k := 2) rfl ex2_30.symm (by decide) rfl (fun ls hl => ?_)
                refine lv_goto (tgt := 89) hx hb kdX5_begin_200 (by decide) ?_
                obtain rfl := Option.some.inj h
                exact ih x2_30 f_29 r ho _ _ _ hP hD hS (lv_sub hl [1, 2, 0] rfl) hk0
            · have h := kb_b_t c_16 h
              refine lv_aload_n hx hb kdX5_begin_149 rfl (lv_at hl 0 rfl) ?_
              refine va_get (ci := 5) (v := .ref (a_this 5)) (C := kRX5) (T := kTX5) (N := 35) hx hb hts kinX5 hown hK hP 0 rfl rfl 5 (by decide) (hts _ km_686) (fun _ h9 => h9) rfl kdX5_begin_150 ?_
              refine lv_bipush (v := 8) hx hb kdX5_begin_153 (by decide) ?_
              refine lv_iload_n hx hb kdX5_begin_155 rfl (lv_at hl 2 rfl) ?_
              refine lv_iadd hx hb kdX5_begin_156 ?_
              obtain ⟨g_31, h⟩ := kb_g_s h
              refine va_lald hx hb hK hP 1 2 rfl rfl (kb_in_v g_31) kdX5_begin_157 ?_
              refine lv_goto (tgt := 196) hx hb kdX5_begin_158 (by decide) ?_
              obtain ⟨g_32, h⟩ := kb_g_s h
              refine va_last hx hb hK hP hD hS 4 2 rfl rfl (kb_in_v g_32) kdX5_begin_196 (fun H locs hP hD hS => ?_)
              obtain ⟨f_33, ef_33⟩ : ∃ y, y = vp_updL f_this_statep89 x2p89.toNatClampNeg (f_this_roots ((8 : Int32) + x2p89).toNatClampNeg) := ⟨_, rfl⟩
              have h := kb_n_s ef_33 h
              have hP : va_P D kCl (kWX5_begin cB cI cL cBB cII cSh h_this a_this this_taped this_code this_kindj84 y0j84 this_filledj84 this_totalj84 this_bitAt this_k this_e1 this_du this_dv f_this_roots f_this_start224 f_this_start256 f_33) H := by rw [ef_33]; exact hP
              have hD : va_D A (kWX5_begin cB cI cL cBB cII cSh h_this a_this this_taped this_code this_kindj84 y0j84 this_filledj84 this_totalj84 this_bitAt this_k this_e1 this_du this_dv f_this_roots f_this_start224 f_this_start256 f_33) := by rw [ef_33]; exact hD
              obtain ⟨x2_34, ex2_34⟩ : ∃ y : Int32, y = x2p89 + Int32.ofInt 1 := ⟨_, rfl⟩
              have h := kb_n_s ex2_34 h
              refine lv_iinc (v := x2_34) (lv' := [(2, .int x2_34), (0, .ref h_this), (1, .int x1j84)]) hx hb kdX5_begin_197 hl (k := 2) rfl ex2_34.symm (by decide) rfl (fun ls hl => ?_)
              refine lv_goto (tgt := 89) hx hb kdX5_begin_200 (by decide) ?_
              obtain rfl := Option.some.inj h
              exact ih x2_34 f_33 r ho _ _ _ hP hD hS (lv_sub hl [1, 2, 0] rfl) hk0
          · have h := kb_b_t c_15 h
            refine lv_aload_n hx hb kdX5_begin_128 rfl (lv_at hl 0 rfl) ?_
            refine va_get (ci := 5) (v := .ref (a_this 5)) (C := kRX5) (T := kTX5) (N := 35) hx hb hts kinX5 hown hK hP 0 rfl rfl 5 (by decide) (hts _ km_686) (fun _ h9 => h9) rfl kdX5_begin_129 ?_
            refine lv_bipush (v := 8) hx hb kdX5_begin_132 (by decide) ?_
            refine lv_iload_n hx hb kdX5_begin_134 rfl (lv_at hl 2 rfl) ?_
            refine lv_iadd hx hb kdX5_begin_135 ?_
            obtain ⟨g_35, h⟩ := kb_g_s h
            refine va_lald hx hb hK hP 1 2 rfl rfl (kb_in_v g_35) kdX5_begin_136 ?_
            refine lv_ldc2 (v := 4294967295) hx hb hown (hts _ km_639) kdX5_begin_137 ?_
            refine lv_land hx hb kdX5_begin_140 ?_
            refine lv_goto (tgt := 196) hx hb kdX5_begin_141 (by decide) ?_
            obtain ⟨g_36, h⟩ := kb_g_s h
            refine va_last hx hb hK hP hD hS 4 2 rfl rfl (kb_in_v g_36) kdX5_begin_196 (fun H locs hP hD hS => ?_)
            obtain ⟨f_37, ef_37⟩ : ∃ y, y = vp_updL f_this_statep89 x2p89.toNatClampNeg ((f_this_roots ((8 : Int32) + x2p89).toNatClampNeg) &&& (4294967295 : Int64)) := ⟨_, rfl⟩
            have h := kb_n_s ef_37 h
            have hP : va_P D kCl (kWX5_begin cB cI cL cBB cII cSh h_this a_this this_taped this_code this_kindj84 y0j84 this_filledj84 this_totalj84 this_bitAt this_k this_e1 this_du this_dv f_this_roots f_this_start224 f_this_start256 f_37) H := by rw [ef_37]; exact hP
            have hD : va_D A (kWX5_begin cB cI cL cBB cII cSh h_this a_this this_taped this_code this_kindj84 y0j84 this_filledj84 this_totalj84 this_bitAt this_k this_e1 this_du this_dv f_this_roots f_this_start224 f_this_start256 f_37) := by rw [ef_37]; exact hD
            obtain ⟨x2_38, ex2_38⟩ : ∃ y : Int32, y = x2p89 + Int32.ofInt 1 := ⟨_, rfl⟩
            have h := kb_n_s ex2_38 h
            refine lv_iinc (v := x2_38) (lv' := [(2, .int x2_38), (0, .ref h_this), (1, .int x1j84)]) hx hb kdX5_begin_197 hl (k := 2) rfl ex2_38.symm (by decide) rfl (fun ls hl => ?_)
            refine lv_goto (tgt := 89) hx hb kdX5_begin_200 (by decide) ?_
            obtain rfl := Option.some.inj h
            exact ih x2_38 f_37 r ho _ _ _ hP hD hS (lv_sub hl [1, 2, 0] rfl) hk0
        · have h := kb_b_t c_14 h
          refine lv_aload_n hx hb kdX5_begin_111 rfl (lv_at hl 0 rfl) ?_
          refine va_get (ci := 5) (v := .ref (a_this 5)) (C := kRX5) (T := kTX5) (N := 35) hx hb hts kinX5 hown hK hP 0 rfl rfl 5 (by decide) (hts _ km_686) (fun _ h9 => h9) rfl kdX5_begin_112 ?_
          refine lv_iload_n hx hb kdX5_begin_115 rfl (lv_at hl 2 rfl) ?_
          obtain ⟨g_39, h⟩ := kb_g_s h
          refine va_lald hx hb hK hP 1 2 rfl rfl (kb_in_v g_39) kdX5_begin_116 ?_
          refine lv_bipush (v := 32) hx hb kdX5_begin_117 (by decide) ?_
          refine lv_lushr (v := (((f_this_roots x2p89.toNatClampNeg).toUInt64 >>> ((32 : Int32).toInt64.toUInt64 &&& Int64.toUInt64 63)).toInt64)) hx hb kdX5_begin_119 rfl ?_
          refine lv_goto (tgt := 196) hx hb kdX5_begin_120 (by decide) ?_
          obtain ⟨g_40, h⟩ := kb_g_s h
          refine va_last hx hb hK hP hD hS 4 2 rfl rfl (kb_in_v g_40) kdX5_begin_196 (fun H locs hP hD hS => ?_)
          obtain ⟨f_41, ef_41⟩ : ∃ y, y = vp_updL f_this_statep89 x2p89.toNatClampNeg (((f_this_roots x2p89.toNatClampNeg).toUInt64 >>> ((32 : Int32).toInt64.toUInt64 &&& Int64.toUInt64 63)).toInt64) := ⟨_, rfl⟩
          have h := kb_n_s ef_41 h
          have hP : va_P D kCl (kWX5_begin cB cI cL cBB cII cSh h_this a_this this_taped this_code this_kindj84 y0j84 this_filledj84 this_totalj84 this_bitAt this_k this_e1 this_du this_dv f_this_roots f_this_start224 f_this_start256 f_41) H := by rw [ef_41]; exact hP
          have hD : va_D A (kWX5_begin cB cI cL cBB cII cSh h_this a_this this_taped this_code this_kindj84 y0j84 this_filledj84 this_totalj84 this_bitAt this_k this_e1 this_du this_dv f_this_roots f_this_start224 f_this_start256 f_41) := by rw [ef_41]; exact hD
          obtain ⟨x2_42, ex2_42⟩ : ∃ y : Int32, y = x2p89 + Int32.ofInt 1 := ⟨_, rfl⟩
          have h := kb_n_s ex2_42 h
          refine lv_iinc (v := x2_42) (lv' := [(2, .int x2_42), (0, .ref h_this), (1, .int x1j84)]) hx hb kdX5_begin_197 hl (k := 2) rfl ex2_42.symm (by decide) rfl (fun ls hl => ?_)
          refine lv_goto (tgt := 89) hx hb kdX5_begin_200 (by decide) ?_
          obtain rfl := Option.some.inj h
          exact ih x2_42 f_41 r ho _ _ _ hP hD hS (lv_sub hl [1, 2, 0] rfl) hk0
set_option maxHeartbeats 4000000 in
set_option maxRecDepth 100000 in
theorem kjX5_begin_84 {p : Program} {l : Launch} {e : Env} {s : State} {m : MethodId} {args : Array Value} {below : List Frame} {meth : Method} {c : Code} {D : va_G} {cB cI cL cBB cII cSh : ClassId} {A : Nat → Prop} (C0 : CallFix p m c prog_8_method_25_code 3 s args kwA kRX5) (hlocks : meth.locks = false) (hr : meth.sig.returnType = none) (hK : va_K D kCl (kb_T cB cI cL cBB cII cSh) s) (hN : kb_N s) (hA : ∀ q, s.heap.size ≤ q → A q) (h_this : Nat) (a_this : Nat → Nat) (x1j84 : Int32) (this_taped : Int32) (this_code : Int32) (this_kindj84 : Int32) (this_ratej84 : Int32) (this_filledj84 : Int32) (this_totalj84 : Int64) (this_bitAt : Int32) (this_k : Int32) (this_e1 : Int32) (this_du : Int32) (this_dv : Int32) (f_this_roots : Nat → Int64) (f_this_start224 : Nat → Int64) (f_this_start256 : Nat → Int64) (f_this_statej84 : Nat → Int64) (y0j84 : Int32) (out : Int32 × Int32 × Int32 × Int64 × (Nat → Int64)) (h : kJX5_begin_84 x1j84 this_kindj84 this_filledj84 this_totalj84 f_this_roots f_this_start224 f_this_start256 f_this_statej84 y0j84 = some out) (H : Heap) (locs : List Loc) (ls : Array Slot) (hP : va_P D kCl (kWX5_begin cB cI cL cBB cII cSh h_this a_this this_taped this_code this_kindj84 this_ratej84 this_filledj84 this_totalj84 this_bitAt this_k this_e1 this_du this_dv f_this_roots f_this_start224 f_this_start256 f_this_statej84) H) (hD : va_D A (kWX5_begin cB cI cL cBB cII cSh h_this a_this this_taped this_code this_kindj84 this_ratej84 this_filledj84 this_totalj84 this_bitAt this_k this_e1 this_du this_dv f_this_roots f_this_start224 f_this_start256 f_this_statej84)) (hS : va_S A s.heap H locs) (hl : lv_has ls 3 [(0, .ref h_this), (1, .int x1j84)]) : W p l e krX5_begin s m args below meth c H locs 0 0 (MQ below (kb_Q D kCl (kb_T cB cI cL cBB cII cSh) A none (kWX5_begin cB cI cL cBB cII cSh h_this a_this this_taped this_code out.2.1 out.2.2.1 out.1 out.2.2.2.1 this_bitAt this_k this_e1 this_du this_dv f_this_roots f_this_start224 f_this_start256 out.2.2.2.2)) args s 0 0 A) (F0 m 84 ls [.int y0j84, .ref h_this]) := by
  obtain ⟨hx, hb, hml, hown, hts⟩ := id C0
  unfold kJX5_begin_84 at h
  refine va_put (ci := 5) (v := .int y0j84) (C := kRX5) (T := kTX5) (N := 35) hx hb hts kinX5 ktyX5 ktyX5_ok knX5 hown hK hP hD hS 0 rfl rfl 19 (by decide) (hts _ km_700) (fun _ h9 => h9) rfl (ktyX5_ok 19 (by decide)) rfl rfl (Nat.le_of_ble_eq_true rfl) kdX5_begin_84 (fun H locs hP hD hS => ?_)
  have hP : va_P D kCl (kWX5_begin cB cI cL cBB cII cSh h_this a_this this_taped this_code this_kindj84 y0j84 this_filledj84 this_totalj84 this_bitAt this_k this_e1 this_du this_dv f_this_roots f_this_start224 f_this_start256 f_this_statej84) H := hP
  have hD : va_D A (kWX5_begin cB cI cL cBB cII cSh h_this a_this this_taped this_code this_kindj84 y0j84 this_filledj84 this_totalj84 this_bitAt this_k this_e1 this_du this_dv f_this_roots f_this_start224 f_this_start256 f_this_statej84) := hD
  refine lv_iconst (v := 0) hx hb kdX5_begin_87 (by decide) ?_
  refine lv_istore_n (lv' := [(2, .int (0 : Int32)), (0, .ref h_this), (1, .int x1j84)]) hx hb kdX5_begin_88 rfl hl (by decide) rfl (fun ls hl => ?_)
  obtain ⟨r_45, hr_45, h⟩ := kb_o_s h
  refine klX5_begin_89 C0 hlocks hK hN hA (by decide) (by decide) h_this a_this x1j84 this_taped this_code this_kindj84 y0j84 this_filledj84 this_totalj84 this_bitAt this_k this_e1 this_du this_dv f_this_roots f_this_start224 f_this_start256 100000 (0 : Int32) f_this_statej84 r_45 hr_45 _ _ _ hP hD hS (lv_sub hl [1, 2, 0] rfl) (fun x2p89_43 f_this_statep89_44 er_45 H locs ls hP hD hS hl => ?_)
  subst er_45
  try dsimp only at h
  obtain rfl := Option.some.inj h
  exact W.vret hx hb hr (fun t ht hW => ⟨⟨rfl, by rw [ht]; exact hP, va_K.moved hW.alike hK, hD⟩, hS.F ht⟩) hS.2.2 kdX5_begin_203
set_option maxHeartbeats 4000000 in
set_option maxRecDepth 100000 in
theorem kcX5_begin (l : Launch) (D : va_G) (cB cI cL cBB cII cSh : ClassId) (h_this : Nat) (a_this : Nat → Nat) (sz : Nat) (p1 : Int32) (this_taped : Int32) (this_code : Int32) (this_kind : Int32) (this_rate : Int32) (this_filled : Int32) (this_total : Int64) (this_bitAt : Int32) (this_k : Int32) (this_e1 : Int32) (this_du : Int32) (this_dv : Int32) (f_this_roots : Nat → Int64) (f_this_start224 : Nat → Int64) (f_this_start256 : Nat → Int64) (f_this_state : Nat → Int64) (out : Int32 × Int32 × Int32 × Int64 × (Nat → Int64)) (h : kFX5_begin p1 f_this_roots f_this_start224 f_this_start256 f_this_state = some out) : Met l kyX5_begin kwX5_begin krX5_begin (kb_P D kCl (kb_T cB cI cL cBB cII cSh) [.ref h_this, .int p1] (kWX5_begin cB cI cL cBB cII cSh h_this a_this this_taped this_code this_kind this_rate this_filled this_total this_bitAt this_k this_e1 this_du this_dv f_this_roots f_this_start224 f_this_start256 f_this_state) sz) (kb_Q D kCl (kb_T cB cI cL cBB cII cSh) (va_A (kWX5_begin cB cI cL cBB cII cSh h_this a_this this_taped this_code this_kind this_rate this_filled this_total this_bitAt this_k this_e1 this_du this_dv f_this_roots f_this_start224 f_this_start256 f_this_state) sz) none (kWX5_begin cB cI cL cBB cII cSh h_this a_this this_taped this_code out.2.1 out.2.2.1 out.1 out.2.2.2.1 this_bitAt this_k this_e1 this_du this_dv f_this_roots f_this_start224 f_this_start256 out.2.2.2.2)) 0 0 (va_A (kWX5_begin cB cI cL cBB cII cSh h_this a_this this_taped this_code this_kind this_rate this_filled this_total this_bitAt this_k this_e1 this_du this_dv f_this_roots f_this_start224 f_this_start256 f_this_state) sz) := by
  refine Met.ofW (cc := prog_8_method_25_code) (maxL := 3) (ret := none) (by decide) rfl ?_
  intro p e s m args below meth c s₁ B hml hv
  obtain ⟨rfl, hsz, hP, hK, hN, hD0⟩ := hv
  have hx := B.exec
  have hb := B.bytes
  have hr := B.returns
  have hts0 := atoms_spec (ws := kwX5_begin) B.pre
  have hts : ∀ w ∈ kwA, w.before _ s = true := fun w h => hts0 w (List.mem_cons_of_mem _ h)
  have hown : s.vm.findClass kRX5 = some m.cls := findClass_of_methodNamed B.named
  have hlocks := B.notSynchronized
  subst hsz
  have hD := hD0.self (sz := s.heap.size)
  generalize hAe : va_A (kWX5_begin cB cI cL cBB cII cSh h_this a_this this_taped this_code this_kind this_rate this_filled this_total this_bitAt this_k this_e1 this_du this_dv f_this_roots f_this_start224 f_this_start256 f_this_state) s.heap.size = A at hD ⊢
  have hA : ∀ q : Nat, s.heap.size ≤ q → A q := fun q h => by rw [← hAe]; exact Or.inr h
  have hS : va_S A s.heap s.heap [] := va_S.rf
  have C0 : CallFix p m c prog_8_method_25_code 3 s _ kwA kRX5 := ⟨hx, hb, hml, hown, hts⟩
  have hl := lv_entry ([.ref h_this, .int p1]) (n := 3) (Nat.le_of_ble_eq_true rfl)
  rw [lg_entry_eq]
  generalize (lg_sl ([.ref h_this, .int p1]) ++ List.replicate (3 - (lg_sl ([.ref h_this, .int p1])).length) Slot.unset).toArray = ls at hl ⊢
  have hl : lv_has ls 3 [(0, .ref h_this), (1, .int p1)] := hl
  unfold kFX5_begin at h
  refine lv_aload_n hx hb kdX5_begin_0 rfl (lv_at hl 0 rfl) ?_
  refine lv_iload_n hx hb kdX5_begin_1 rfl (lv_at hl 1 rfl) ?_
  refine va_put (ci := 5) (v := .int p1) (C := kRX5) (T := kTX5) (N := 35) hx hb hts kinX5 ktyX5 ktyX5_ok knX5 hown hK hP hD hS 0 rfl rfl 18 (by decide) (hts _ km_699) (fun _ h9 => h9) rfl (ktyX5_ok 18 (by decide)) rfl rfl (Nat.le_of_ble_eq_true rfl) kdX5_begin_2 (fun H locs hP hD hS => ?_)
  have hP : va_P D kCl (kWX5_begin cB cI cL cBB cII cSh h_this a_this this_taped this_code p1 this_rate this_filled this_total this_bitAt this_k this_e1 this_du this_dv f_this_roots f_this_start224 f_this_start256 f_this_state) H := hP
  have hD : va_D A (kWX5_begin cB cI cL cBB cII cSh h_this a_this this_taped this_code p1 this_rate this_filled this_total this_bitAt this_k this_e1 this_du this_dv f_this_roots f_this_start224 f_this_start256 f_this_state) := hD
  refine lv_aload_n hx hb kdX5_begin_5 rfl (lv_at hl 0 rfl) ?_
  refine lv_iconst (v := 0) hx hb kdX5_begin_6 (by decide) ?_
  refine va_put (ci := 5) (v := .int (0 : Int32)) (C := kRX5) (T := kTX5) (N := 35) hx hb hts kinX5 ktyX5 ktyX5_ok knX5 hown hK hP hD hS 0 rfl rfl 20 (by decide) (hts _ km_701) (fun _ h9 => h9) rfl (ktyX5_ok 20 (by decide)) rfl rfl (Nat.le_of_ble_eq_true rfl) kdX5_begin_7 (fun H locs hP hD hS => ?_)
  have hP : va_P D kCl (kWX5_begin cB cI cL cBB cII cSh h_this a_this this_taped this_code p1 this_rate (0 : Int32) this_total this_bitAt this_k this_e1 this_du this_dv f_this_roots f_this_start224 f_this_start256 f_this_state) H := hP
  have hD : va_D A (kWX5_begin cB cI cL cBB cII cSh h_this a_this this_taped this_code p1 this_rate (0 : Int32) this_total this_bitAt this_k this_e1 this_du this_dv f_this_roots f_this_start224 f_this_start256 f_this_state) := hD
  refine lv_aload_n hx hb kdX5_begin_10 rfl (lv_at hl 0 rfl) ?_
  refine lv_lconst (v := 0) hx hb kdX5_begin_11 (by decide) ?_
  refine va_put (ci := 5) (v := .long (0 : Int64)) (C := kRX5) (T := kTX5) (N := 35) hx hb hts kinX5 ktyX5 ktyX5_ok knX5 hown hK hP hD hS 0 rfl rfl 21 (by decide) (hts _ km_702) (fun _ h9 => h9) rfl (ktyX5_ok 21 (by decide)) rfl rfl (Nat.le_of_ble_eq_true rfl) kdX5_begin_12 (fun H locs hP hD hS => ?_)
  have hP : va_P D kCl (kWX5_begin cB cI cL cBB cII cSh h_this a_this this_taped this_code p1 this_rate (0 : Int32) (0 : Int64) this_bitAt this_k this_e1 this_du this_dv f_this_roots f_this_start224 f_this_start256 f_this_state) H := hP
  have hD : va_D A (kWX5_begin cB cI cL cBB cII cSh h_this a_this this_taped this_code p1 this_rate (0 : Int32) (0 : Int64) this_bitAt this_k this_e1 this_du this_dv f_this_roots f_this_start224 f_this_start256 f_this_state) := hD
  refine lv_iconst (v := 0) hx hb kdX5_begin_15 (by decide) ?_
  refine lv_istore_n (lv' := [(2, .int (0 : Int32)), (0, .ref h_this), (1, .int p1)]) hx hb kdX5_begin_16 rfl hl (by decide) rfl (fun ls hl => ?_)
  obtain ⟨r_48, hr_48, h⟩ := kb_o_s h
  refine klX5_begin_17 C0 hlocks hK hN hA (by decide) (by decide) h_this a_this p1 this_taped this_code this_rate this_bitAt this_k this_e1 this_du this_dv f_this_roots f_this_start224 f_this_start256 100000 (0 : Int32) f_this_state r_48 hr_48 _ _ _ hP hD hS (lv_sub hl [1, 2, 0] rfl) (fun x2p17_5 f_this_statep17_6 er_48 H locs ls hP hD hS hl => ?_)
  subst er_48
  try dsimp only at h
  refine lv_aload_n hx hb kdX5_begin_36 rfl (lv_at hl 0 rfl) ?_
  refine lv_iload_n hx hb kdX5_begin_37 rfl (lv_at hl 1 rfl) ?_
  refine lv_bipush (v := 11) hx hb kdX5_begin_38 (by decide) ?_
  refine lv_icmp_ne (tgt := 49) hx hb kdX5_begin_40 (by decide) (fun c_7 => ?_) (fun c_7 => ?_)
  · have h := kb_b_f c_7 h
    refine lv_iload_n hx hb kdX5_begin_49 rfl (lv_at hl 1 rfl) ?_
    refine lv_bipush (v := 12) hx hb kdX5_begin_50 (by decide) ?_
    refine lv_icmp_ne (tgt := 61) hx hb kdX5_begin_52 (by decide) (fun c_8 => ?_) (fun c_8 => ?_)
    · have h := kb_b_f c_8 h
      refine lv_iload_n hx hb kdX5_begin_61 rfl (lv_at hl 1 rfl) ?_
      refine lv_bipush (v := 6) hx hb kdX5_begin_62 (by decide) ?_
      refine lv_icmp_le (tgt := 80) hx hb kdX5_begin_64 (by decide) (fun c_9 => ?_) (fun c_9 => ?_)
      · have h := kb_b_t c_9 h
        refine lv_iload_n hx hb kdX5_begin_80 rfl (lv_at hl 1 rfl) ?_
        obtain ⟨u_11, hu_11, h⟩ := kb_o_s h
        obtain ⟨r_10, rfl⟩ : ∃ z, z = u_11 := ⟨_, rfl⟩
        try dsimp only at h
        have hC := (show ([] : List Nat).map (fun i : Nat => (kWX5_begin cB cI cL cBB cII cSh h_this a_this this_taped this_code p1 this_rate (0 : Int32) (0 : Int64) this_bitAt this_k this_e1 this_du this_dv f_this_roots f_this_start224 f_this_start256 f_this_statep17_6)[i]?) = List.map some (kWX5_blockOf cB cI cL cBB cII cSh) from rfl)
        have hPc := kb_Psub hP ([] : List Nat) hC
        have hDc := kb_Dsub hD ([] : List Nat) hC (by simp [kb_nd])
        refine kb_call0 (va_runS (As := [.int p1]) (rest := [.ref h_this]) C0 (kcX5_blockOf l D cB cI cL cBB cII cSh  _ p1 r_10 hu_11) (va_cwS 1 hts (kb_gS km_636 km_637 km_6 km_638) rfl rfl rfl (by decide +kernel) ⟨Nat.le_of_ble_eq_true rfl, Nat.le_of_ble_eq_true rfl⟩) ⟨kb_P_bl, (fun U hU hW => ⟨rfl, by rw [hU], by rw [hU]; exact hPc, va_K.moved hW.alike hK, kb_N_to hW hN, hDc.weaken (fun _ _ _ _ => trivial)⟩)⟩ rfl rfl hl.1 rfl (lv_room (Nat.le_of_ble_eq_true rfl)) kdX5_begin_81 ⟨Nat.le_of_ble_eq_true rfl, Nat.le_of_ble_eq_true rfl⟩) hP hD hS hA ([] : List Nat) hC rfl (fun H locs hP hD hS => ?_)
        have hP : va_P D kCl (kWX5_begin cB cI cL cBB cII cSh h_this a_this this_taped this_code p1 this_rate (0 : Int32) (0 : Int64) this_bitAt this_k this_e1 this_du this_dv f_this_roots f_this_start224 f_this_start256 f_this_statep17_6) H := hP
        have hD : va_D A (kWX5_begin cB cI cL cBB cII cSh h_this a_this this_taped this_code p1 this_rate (0 : Int32) (0 : Int64) this_bitAt this_k this_e1 this_du this_dv f_this_roots f_this_start224 f_this_start256 f_this_statep17_6) := hD
        exact kjX5_begin_84 C0 hlocks hr hK hN hA h_this a_this p1 this_taped this_code p1 this_rate (0 : Int32) (0 : Int64) this_bitAt this_k this_e1 this_du this_dv f_this_roots f_this_start224 f_this_start256 f_this_statep17_6 r_10 _ h _ _ _ hP hD hS (lv_sub hl [0, 1] rfl)
      · have h := kb_b_f c_9 h
        refine lv_sipush (v := 200) hx hb kdX5_begin_67 (by decide) ?_
        refine lv_iconst (v := 2) hx hb kdX5_begin_70 (by decide) ?_
        refine lv_iload_n hx hb kdX5_begin_71 rfl (lv_at hl 1 rfl) ?_
        obtain ⟨u_47, hu_47, h⟩ := kb_o_s h
        obtain ⟨r_46, rfl⟩ : ∃ z, z = u_47 := ⟨_, rfl⟩
        try dsimp only at h
        have hC := (show ([] : List Nat).map (fun i : Nat => (kWX5_begin cB cI cL cBB cII cSh h_this a_this this_taped this_code p1 this_rate (0 : Int32) (0 : Int64) this_bitAt this_k this_e1 this_du this_dv f_this_roots f_this_start224 f_this_start256 f_this_statep17_6)[i]?) = List.map some (kWX5_digestOf cB cI cL cBB cII cSh) from rfl)
        have hPc := kb_Psub hP ([] : List Nat) hC
        have hDc := kb_Dsub hD ([] : List Nat) hC (by simp [kb_nd])
        refine kb_call0 (va_runS (As := [.int p1]) (rest := [.int (2 : Int32), .int (200 : Int32), .ref h_this]) C0 (kcX5_digestOf l D cB cI cL cBB cII cSh  _ p1 r_46 hu_47) (va_cwS 1 hts (kb_gS km_633 km_634 km_6 km_635) rfl rfl rfl (by decide +kernel) ⟨Nat.le_of_ble_eq_true rfl, Nat.le_of_ble_eq_true rfl⟩) ⟨kb_P_bl, (fun U hU hW => ⟨rfl, by rw [hU], by rw [hU]; exact hPc, va_K.moved hW.alike hK, kb_N_to hW hN, hDc.weaken (fun _ _ _ _ => trivial)⟩)⟩ rfl rfl hl.1 rfl (lv_room (Nat.le_of_ble_eq_true rfl)) kdX5_begin_72 ⟨Nat.le_of_ble_eq_true rfl, Nat.le_of_ble_eq_true rfl⟩) hP hD hS hA ([] : List Nat) hC rfl (fun H locs hP hD hS => ?_)
        have hP : va_P D kCl (kWX5_begin cB cI cL cBB cII cSh h_this a_this this_taped this_code p1 this_rate (0 : Int32) (0 : Int64) this_bitAt this_k this_e1 this_du this_dv f_this_roots f_this_start224 f_this_start256 f_this_statep17_6) H := hP
        have hD : va_D A (kWX5_begin cB cI cL cBB cII cSh h_this a_this this_taped this_code p1 this_rate (0 : Int32) (0 : Int64) this_bitAt this_k this_e1 this_du this_dv f_this_roots f_this_start224 f_this_start256 f_this_statep17_6) := hD
        refine lv_imul hx hb kdX5_begin_75 ?_
        refine lv_isub hx hb kdX5_begin_76 ?_
        refine lv_goto (tgt := 84) hx hb kdX5_begin_77 (by decide) ?_
        exact kjX5_begin_84 C0 hlocks hr hK hN hA h_this a_this p1 this_taped this_code p1 this_rate (0 : Int32) (0 : Int64) this_bitAt this_k this_e1 this_du this_dv f_this_roots f_this_start224 f_this_start256 f_this_statep17_6 ((200 : Int32) - ((2 : Int32) * r_46)) _ h _ _ _ hP hD hS (lv_sub hl [0, 1] rfl)
    · have h := kb_b_t c_8 h
      refine lv_sipush (v := 136) hx hb kdX5_begin_55 (by decide) ?_
      refine lv_goto (tgt := 84) hx hb kdX5_begin_58 (by decide) ?_
      exact kjX5_begin_84 C0 hlocks hr hK hN hA h_this a_this p1 this_taped this_code p1 this_rate (0 : Int32) (0 : Int64) this_bitAt this_k this_e1 this_du this_dv f_this_roots f_this_start224 f_this_start256 f_this_statep17_6 (136 : Int32) _ h _ _ _ hP hD hS (lv_sub hl [0, 1] rfl)
  · have h := kb_b_t c_7 h
    refine lv_sipush (v := 168) hx hb kdX5_begin_43 (by decide) ?_
    refine lv_goto (tgt := 84) hx hb kdX5_begin_46 (by decide) ?_
    exact kjX5_begin_84 C0 hlocks hr hK hN hA h_this a_this p1 this_taped this_code p1 this_rate (0 : Int32) (0 : Int64) this_bitAt this_k this_e1 this_du this_dv f_this_roots f_this_start224 f_this_start256 f_this_statep17_6 (168 : Int32) _ h _ _ _ hP hD hS (lv_sub hl [0, 1] rfl)

-- 429.ModuleKemModel.flip.lean.txt
abbrev kWX5_flip (cB cI cL cBB cII cSh : ClassId) (h_this : Nat) (a_this : Nat → Nat) (this_taped : Int32) (this_code : Int32) (this_kind : Int32) (this_rate : Int32) (this_filled : Int32) (this_total : Int64) (this_bitAt : Int32) (this_k : Int32) (this_e1 : Int32) (this_du : Int32) (this_dv : Int32) (f_this_state : Nat → Int64) : va_W := [(h_this, koX5 a_this this_taped this_code this_kind this_rate this_filled this_total this_bitAt this_k this_e1 this_du this_dv), ((a_this 13), .inl (cL, 25, .inr (.inl f_this_state)))]
def krX5_flip : Room := { frames := 0, cells := 0, slots := 0, locals := 0 }
set_option maxHeartbeats 4000000 in
set_option maxRecDepth 100000 in
theorem kcX5_flip (l : Launch) (D : va_G) (cB cI cL cBB cII cSh : ClassId) (h_this : Nat) (a_this : Nat → Nat) (sz : Nat) (p1 : Int32) (p2 : Int32) (this_taped : Int32) (this_code : Int32) (this_kind : Int32) (this_rate : Int32) (this_filled : Int32) (this_total : Int64) (this_bitAt : Int32) (this_k : Int32) (this_e1 : Int32) (this_du : Int32) (this_dv : Int32) (f_this_state : Nat → Int64) (out : (Nat → Int64)) (h : kFX5_flip p1 p2 f_this_state = some out) : Met l kyX5_flip kwX5_flip krX5_flip (kb_P D kCl (kb_T cB cI cL cBB cII cSh) [.ref h_this, .int p1, .int p2] (kWX5_flip cB cI cL cBB cII cSh h_this a_this this_taped this_code this_kind this_rate this_filled this_total this_bitAt this_k this_e1 this_du this_dv f_this_state) sz) (kb_Q D kCl (kb_T cB cI cL cBB cII cSh) (va_A (kWX5_flip cB cI cL cBB cII cSh h_this a_this this_taped this_code this_kind this_rate this_filled this_total this_bitAt this_k this_e1 this_du this_dv f_this_state) sz) none (kWX5_flip cB cI cL cBB cII cSh h_this a_this this_taped this_code this_kind this_rate this_filled this_total this_bitAt this_k this_e1 this_du this_dv out)) 0 0 (va_A (kWX5_flip cB cI cL cBB cII cSh h_this a_this this_taped this_code this_kind this_rate this_filled this_total this_bitAt this_k this_e1 this_du this_dv f_this_state) sz) := by
  refine Met.ofW (cc := prog_8_method_26_code) (maxL := 3) (ret := none) (by decide) rfl ?_
  intro p e s m args below meth c s₁ B hml hv
  obtain ⟨rfl, hsz, hP, hK, hN, hD0⟩ := hv
  have hx := B.exec
  have hb := B.bytes
  have hr := B.returns
  have hts0 := atoms_spec (ws := kwX5_flip) B.pre
  have hts : ∀ w ∈ kwA, w.before _ s = true := fun w h => hts0 w (List.mem_cons_of_mem _ h)
  have hown : s.vm.findClass kRX5 = some m.cls := findClass_of_methodNamed B.named
  have hlocks := B.notSynchronized
  subst hsz
  have hD := hD0.self (sz := s.heap.size)
  generalize hAe : va_A (kWX5_flip cB cI cL cBB cII cSh h_this a_this this_taped this_code this_kind this_rate this_filled this_total this_bitAt this_k this_e1 this_du this_dv f_this_state) s.heap.size = A at hD ⊢
  have hA : ∀ q : Nat, s.heap.size ≤ q → A q := fun q h => by rw [← hAe]; exact Or.inr h
  have hS : va_S A s.heap s.heap [] := va_S.rf
  have C0 : CallFix p m c prog_8_method_26_code 3 s _ kwA kRX5 := ⟨hx, hb, hml, hown, hts⟩
  have hl := lv_entry ([.ref h_this, .int p1, .int p2]) (n := 3) (Nat.le_of_ble_eq_true rfl)
  rw [lg_entry_eq]
  generalize (lg_sl ([.ref h_this, .int p1, .int p2]) ++ List.replicate (3 - (lg_sl ([.ref h_this, .int p1, .int p2])).length) Slot.unset).toArray = ls at hl ⊢
  have hl : lv_has ls 3 [(0, .ref h_this), (1, .int p1), (2, .int p2)] := hl
  unfold kFX5_flip at h
  refine lv_aload_n hx hb kdX5_flip_0 rfl (lv_at hl 0 rfl) ?_
  refine va_get (ci := 5) (v := .ref (a_this 13)) (C := kRX5) (T := kTX5) (N := 35) hx hb hts kinX5 hown hK hP 0 rfl rfl 13 (by decide) (hts _ km_694) (fun _ h9 => h9) rfl kdX5_flip_1 ?_
  refine lv_iload_n hx hb kdX5_flip_4 rfl (lv_at hl 1 rfl) ?_
  refine lv_bipush (v := 8) hx hb kdX5_flip_5 (by decide) ?_
  refine lv_idiv hx hb kdX5_flip_7 (by decide) ?_
  refine lv_dup2_11 hx hb kdX5_flip_8 rfl rfl ?_
  obtain ⟨g_1, h⟩ := kb_g_s h
  refine va_lald hx hb hK hP 1 2 rfl rfl (kb_in_v g_1) kdX5_flip_9 ?_
  refine lv_iload_n hx hb kdX5_flip_10 rfl (lv_at hl 2 rfl) ?_
  refine lv_i2l (v := (p2.toInt64)) hx hb kdX5_flip_11 rfl ?_
  refine lv_ldc2 (v := 255) hx hb hown (hts _ km_653) kdX5_flip_12 ?_
  refine lv_land hx hb kdX5_flip_15 ?_
  refine lv_bipush (v := 8) hx hb kdX5_flip_16 (by decide) ?_
  refine lv_iload_n hx hb kdX5_flip_18 rfl (lv_at hl 1 rfl) ?_
  refine lv_bipush (v := 8) hx hb kdX5_flip_19 (by decide) ?_
  refine lv_irem hx hb kdX5_flip_21 (by decide) ?_
  refine lv_imul hx hb kdX5_flip_22 ?_
  refine lv_lshl (v := (((p2.toInt64) &&& (255 : Int64)) <<< (((8 : Int32) * (p1 - p1 / (8 : Int32) * (8 : Int32))).toInt64 &&& 63))) hx hb kdX5_flip_23 rfl ?_
  refine lv_lxor hx hb kdX5_flip_24 ?_
  obtain ⟨g_2, h⟩ := kb_g_s h
  refine va_last hx hb hK hP hD hS 1 2 rfl rfl (kb_in_v g_2) kdX5_flip_25 (fun H locs hP hD hS => ?_)
  obtain ⟨f_3, ef_3⟩ : ∃ y, y = vp_updL f_this_state (p1 / (8 : Int32)).toNatClampNeg ((f_this_state (p1 / (8 : Int32)).toNatClampNeg) ^^^ (((p2.toInt64) &&& (255 : Int64)) <<< (((8 : Int32) * (p1 - p1 / (8 : Int32) * (8 : Int32))).toInt64 &&& 63))) := ⟨_, rfl⟩
  have h := kb_n_s ef_3 h
  have hP : va_P D kCl (kWX5_flip cB cI cL cBB cII cSh h_this a_this this_taped this_code this_kind this_rate this_filled this_total this_bitAt this_k this_e1 this_du this_dv f_3) H := by rw [ef_3]; exact hP
  have hD : va_D A (kWX5_flip cB cI cL cBB cII cSh h_this a_this this_taped this_code this_kind this_rate this_filled this_total this_bitAt this_k this_e1 this_du this_dv f_3) := by rw [ef_3]; exact hD
  obtain rfl := Option.some.inj h
  exact W.vret hx hb hr (fun t ht hW => ⟨⟨rfl, by rw [ht]; exact hP, va_K.moved hW.alike hK, hD⟩, hS.F ht⟩) hS.2.2 kdX5_flip_26

-- 430.ModuleKemModel.left.lean.txt
abbrev kWX5_left (cB cI cL cBB cII cSh : ClassId)   : va_W := []
def krX5_left : Room := { frames := 0, cells := 0, slots := 0, locals := 0 }
set_option maxHeartbeats 4000000 in
set_option maxRecDepth 100000 in
theorem kcX5_left (l : Launch) (D : va_G) (cB cI cL cBB cII cSh : ClassId)  (sz : Nat) (p1 : Int64) (p2 : Int32) (out : Int64) (h : kFX5_left p1 p2 = some out) : Met l kyX5_left kwX5_left krX5_left (kb_P D kCl (kb_T cB cI cL cBB cII cSh) [.long p1, .int p2] (kWX5_left cB cI cL cBB cII cSh) sz) (kb_Q D kCl (kb_T cB cI cL cBB cII cSh) (va_A (kWX5_left cB cI cL cBB cII cSh) sz) (some (.long out)) (kWX5_left cB cI cL cBB cII cSh)) 0 0 (va_A (kWX5_left cB cI cL cBB cII cSh) sz) := by
  refine Met.ofW (cc := prog_8_method_30_code) (maxL := 3) (ret := (some .long)) (by decide) rfl ?_
  intro p e s m args below meth c s₁ B hml hv
  obtain ⟨rfl, hsz, hP, hK, hN, hD0⟩ := hv
  have hx := B.exec
  have hb := B.bytes
  have hr := B.returns
  have hts0 := atoms_spec (ws := kwX5_left) B.pre
  have hts : ∀ w ∈ kwA, w.before _ s = true := fun w h => hts0 w (List.mem_cons_of_mem _ h)
  have hown : s.vm.findClass kRX5 = some m.cls := findClass_of_methodNamed B.named
  have hlocks := B.notSynchronized
  subst hsz
  have hD := hD0.self (sz := s.heap.size)
  generalize hAe : va_A (kWX5_left cB cI cL cBB cII cSh) s.heap.size = A at hD ⊢
  have hA : ∀ q : Nat, s.heap.size ≤ q → A q := fun q h => by rw [← hAe]; exact Or.inr h
  have hS : va_S A s.heap s.heap [] := va_S.rf
  have C0 : CallFix p m c prog_8_method_30_code 3 s _ kwA kRX5 := ⟨hx, hb, hml, hown, hts⟩
  have hl := lv_entry ([.long p1, .int p2]) (n := 3) (Nat.le_of_ble_eq_true rfl)
  rw [lg_entry_eq]
  generalize (lg_sl ([.long p1, .int p2]) ++ List.replicate (3 - (lg_sl ([.long p1, .int p2])).length) Slot.unset).toArray = ls at hl ⊢
  have hl : lv_has ls 3 [(0, .long p1), (2, .int p2)] := hl
  unfold kFX5_left at h
  refine lv_iload_n hx hb kdX5_left_0 rfl (lv_at hl 1 rfl) ?_
  refine lv_if_ne (tgt := 8) hx hb kdX5_left_1 (by decide) (fun c_1 => ?_) (fun c_1 => ?_)
  · have h := kb_b_f c_1 h
    refine lv_lload_n hx hb kdX5_left_8 rfl (lv_at hl 0 rfl) ?_
    refine lv_iload_n hx hb kdX5_left_9 rfl (lv_at hl 1 rfl) ?_
    refine lv_lshl (v := (p1 <<< (p2.toInt64 &&& 63))) hx hb kdX5_left_10 rfl ?_
    refine lv_lload_n hx hb kdX5_left_11 rfl (lv_at hl 0 rfl) ?_
    refine lv_bipush (v := 64) hx hb kdX5_left_12 (by decide) ?_
    refine lv_iload_n hx hb kdX5_left_14 rfl (lv_at hl 1 rfl) ?_
    refine lv_isub hx hb kdX5_left_15 ?_
    refine lv_lushr (v := ((p1.toUInt64 >>> (((64 : Int32) - p2).toInt64.toUInt64 &&& Int64.toUInt64 63)).toInt64)) hx hb kdX5_left_16 rfl ?_
    refine lv_lor hx hb kdX5_left_17 ?_
    obtain rfl := Option.some.inj h
    exact W.lret (v := ((p1 <<< (p2.toInt64 &&& 63)) ||| ((p1.toUInt64 >>> (((64 : Int32) - p2).toInt64.toUInt64 &&& Int64.toUInt64 63)).toInt64))) hx hb hr (fun t ht hW => ⟨⟨rfl, by rw [ht]; exact hP, va_K.moved hW.alike hK, hD⟩, hS.F ht⟩) hS.2.2 kdX5_left_18
  · have h := kb_b_t c_1 h
    refine lv_lload_n hx hb kdX5_left_4 rfl (lv_at hl 0 rfl) ?_
    refine lv_goto (tgt := 18) hx hb kdX5_left_5 (by decide) ?_
    obtain rfl := Option.some.inj h
    exact W.lret (v := p1) hx hb hr (fun t ht hW => ⟨⟨rfl, by rw [ht]; exact hP, va_K.moved hW.alike hK, hD⟩, hS.F ht⟩) hS.2.2 kdX5_left_18

-- 431.ModuleKemModel.right.lean.txt
abbrev kWX5_right (cB cI cL cBB cII cSh : ClassId)   : va_W := []
def krX5_right : Room := { frames := 0, cells := 0, slots := 0, locals := 0 }
set_option maxHeartbeats 4000000 in
set_option maxRecDepth 100000 in
theorem kcX5_right (l : Launch) (D : va_G) (cB cI cL cBB cII cSh : ClassId)  (sz : Nat) (p1 : Int64) (p2 : Int32) (out : Int64) (h : kFX5_right p1 p2 = some out) : Met l kyX5_right kwX5_right krX5_right (kb_P D kCl (kb_T cB cI cL cBB cII cSh) [.long p1, .int p2] (kWX5_right cB cI cL cBB cII cSh) sz) (kb_Q D kCl (kb_T cB cI cL cBB cII cSh) (va_A (kWX5_right cB cI cL cBB cII cSh) sz) (some (.long out)) (kWX5_right cB cI cL cBB cII cSh)) 0 0 (va_A (kWX5_right cB cI cL cBB cII cSh) sz) := by
  refine Met.ofW (cc := prog_8_method_31_code) (maxL := 3) (ret := (some .long)) (by decide) rfl ?_
  intro p e s m args below meth c s₁ B hml hv
  obtain ⟨rfl, hsz, hP, hK, hN, hD0⟩ := hv
  have hx := B.exec
  have hb := B.bytes
  have hr := B.returns
  have hts0 := atoms_spec (ws := kwX5_right) B.pre
  have hts : ∀ w ∈ kwA, w.before _ s = true := fun w h => hts0 w (List.mem_cons_of_mem _ h)
  have hown : s.vm.findClass kRX5 = some m.cls := findClass_of_methodNamed B.named
  have hlocks := B.notSynchronized
  subst hsz
  have hD := hD0.self (sz := s.heap.size)
  generalize hAe : va_A (kWX5_right cB cI cL cBB cII cSh) s.heap.size = A at hD ⊢
  have hA : ∀ q : Nat, s.heap.size ≤ q → A q := fun q h => by rw [← hAe]; exact Or.inr h
  have hS : va_S A s.heap s.heap [] := va_S.rf
  have C0 : CallFix p m c prog_8_method_31_code 3 s _ kwA kRX5 := ⟨hx, hb, hml, hown, hts⟩
  have hl := lv_entry ([.long p1, .int p2]) (n := 3) (Nat.le_of_ble_eq_true rfl)
  rw [lg_entry_eq]
  generalize (lg_sl ([.long p1, .int p2]) ++ List.replicate (3 - (lg_sl ([.long p1, .int p2])).length) Slot.unset).toArray = ls at hl ⊢
  have hl : lv_has ls 3 [(0, .long p1), (2, .int p2)] := hl
  unfold kFX5_right at h
  refine lv_lload_n hx hb kdX5_right_0 rfl (lv_at hl 0 rfl) ?_
  refine lv_iload_n hx hb kdX5_right_1 rfl (lv_at hl 1 rfl) ?_
  refine lv_lushr (v := ((p1.toUInt64 >>> (p2.toInt64.toUInt64 &&& Int64.toUInt64 63)).toInt64)) hx hb kdX5_right_2 rfl ?_
  refine lv_lload_n hx hb kdX5_right_3 rfl (lv_at hl 0 rfl) ?_
  refine lv_bipush (v := 64) hx hb kdX5_right_4 (by decide) ?_
  refine lv_iload_n hx hb kdX5_right_6 rfl (lv_at hl 1 rfl) ?_
  refine lv_isub hx hb kdX5_right_7 ?_
  refine lv_lshl (v := (p1 <<< (((64 : Int32) - p2).toInt64 &&& 63))) hx hb kdX5_right_8 rfl ?_
  refine lv_lor hx hb kdX5_right_9 ?_
  obtain rfl := Option.some.inj h
  exact W.lret (v := (((p1.toUInt64 >>> (p2.toInt64.toUInt64 &&& Int64.toUInt64 63)).toInt64) ||| (p1 <<< (((64 : Int32) - p2).toInt64 &&& 63)))) hx hb hr (fun t ht hW => ⟨⟨rfl, by rw [ht]; exact hP, va_K.moved hW.alike hK, hD⟩, hS.F ht⟩) hS.2.2 kdX5_right_10

-- 432.ModuleKemModel.turn.lean.txt
abbrev kWX5_turn (cB cI cL cBB cII cSh : ClassId)   : va_W := []
def krX5_turn : Room := { frames := 0, cells := 0, slots := 0, locals := 0 }
set_option maxHeartbeats 4000000 in
set_option maxRecDepth 100000 in
theorem kcX5_turn (l : Launch) (D : va_G) (cB cI cL cBB cII cSh : ClassId)  (sz : Nat) (p1 : Int32) (p2 : Int32) (out : Int32) (h : kFX5_turn p1 p2 = some out) : Met l kyX5_turn kwX5_turn krX5_turn (kb_P D kCl (kb_T cB cI cL cBB cII cSh) [.int p1, .int p2] (kWX5_turn cB cI cL cBB cII cSh) sz) (kb_Q D kCl (kb_T cB cI cL cBB cII cSh) (va_A (kWX5_turn cB cI cL cBB cII cSh) sz) (some (.int out)) (kWX5_turn cB cI cL cBB cII cSh)) 0 0 (va_A (kWX5_turn cB cI cL cBB cII cSh) sz) := by
  refine Met.ofW (cc := prog_8_method_32_code) (maxL := 2) (ret := (some .int)) (by decide) rfl ?_
  intro p e s m args below meth c s₁ B hml hv
  obtain ⟨rfl, hsz, hP, hK, hN, hD0⟩ := hv
  have hx := B.exec
  have hb := B.bytes
  have hr := B.returns
  have hts0 := atoms_spec (ws := kwX5_turn) B.pre
  have hts : ∀ w ∈ kwA, w.before _ s = true := fun w h => hts0 w (List.mem_cons_of_mem _ h)
  have hown : s.vm.findClass kRX5 = some m.cls := findClass_of_methodNamed B.named
  have hlocks := B.notSynchronized
  subst hsz
  have hD := hD0.self (sz := s.heap.size)
  generalize hAe : va_A (kWX5_turn cB cI cL cBB cII cSh) s.heap.size = A at hD ⊢
  have hA : ∀ q : Nat, s.heap.size ≤ q → A q := fun q h => by rw [← hAe]; exact Or.inr h
  have hS : va_S A s.heap s.heap [] := va_S.rf
  have C0 : CallFix p m c prog_8_method_32_code 2 s _ kwA kRX5 := ⟨hx, hb, hml, hown, hts⟩
  have hl := lv_entry ([.int p1, .int p2]) (n := 2) (Nat.le_of_ble_eq_true rfl)
  rw [lg_entry_eq]
  generalize (lg_sl ([.int p1, .int p2]) ++ List.replicate (2 - (lg_sl ([.int p1, .int p2])).length) Slot.unset).toArray = ls at hl ⊢
  have hl : lv_has ls 2 [(0, .int p1), (1, .int p2)] := hl
  unfold kFX5_turn at h
  refine lv_iload_n hx hb kdX5_turn_0 rfl (lv_at hl 0 rfl) ?_
  refine lv_iload_n hx hb kdX5_turn_1 rfl (lv_at hl 1 rfl) ?_
  refine lv_iushr (v := ((p1.toUInt32 >>> (p2.toUInt32 &&& Int32.toUInt32 31)).toInt32)) hx hb kdX5_turn_2 rfl ?_
  refine lv_iload_n hx hb kdX5_turn_3 rfl (lv_at hl 0 rfl) ?_
  refine lv_bipush (v := 32) hx hb kdX5_turn_4 (by decide) ?_
  refine lv_iload_n hx hb kdX5_turn_6 rfl (lv_at hl 1 rfl) ?_
  refine lv_isub hx hb kdX5_turn_7 ?_
  refine lv_ishl hx hb kdX5_turn_8 ?_
  refine lv_ior hx hb kdX5_turn_9 ?_
  obtain rfl := Option.some.inj h
  exact W.iret (v := (((p1.toUInt32 >>> (p2.toUInt32 &&& Int32.toUInt32 31)).toInt32) ||| (p1 <<< (((32 : Int32) - p2) &&& 31)))) hx hb hr (fun t ht hW => ⟨⟨rfl, by rw [ht]; exact hP, va_K.moved hW.alike hK, hD⟩, hS.F ht⟩) hS.2.2 kdX5_turn_10

-- 433.ModuleKemModel.compress64.lean.txt
abbrev kWX5_compress64 (cB cI cL cBB cII cSh : ClassId) (h_this : Nat) (a_this : Nat → Nat) (this_taped : Int32) (this_code : Int32) (this_kind : Int32) (this_rate : Int32) (this_filled : Int32) (this_total : Int64) (this_bitAt : Int32) (this_k : Int32) (this_e1 : Int32) (this_du : Int32) (this_dv : Int32) (f_this_cubes : Nat → Int64) (f_this_state : Nat → Int64) (f_this_words : Nat → Int64) (f_this_block : Nat → Int32) : va_W := [(h_this, koX5 a_this this_taped this_code this_kind this_rate this_filled this_total this_bitAt this_k this_e1 this_du this_dv), ((a_this 6), .inl (cL, 80, .inr (.inl f_this_cubes))), ((a_this 13), .inl (cL, 25, .inr (.inl f_this_state))), ((a_this 16), .inl (cL, 80, .inr (.inl f_this_words))), ((a_this 17), .inl (cB, 128, .inl f_this_block))]
def krX5_compress64 : Room := { frames := 1, cells := 0, slots := 0, locals := 22 }
set_option maxHeartbeats 4000000 in
set_option maxRecDepth 100000 in
theorem klX5_compress64_17 {p : Program} {l : Launch} {e : Env} {s : State} {m : MethodId} {args : Array Value} {below : List Frame} {meth : Method} {c : Code} {cells slots : Nat} {Q : State → Prop} {D : va_G} {cB cI cL cBB cII cSh : ClassId} {A : Nat → Prop} (C0 : CallFix p m c prog_8_method_33_code 22 s args kwA kRX5) (hlocks : meth.locks = false) (hK : va_K D kCl (kb_T cB cI cL cBB cII cSh) s) (hN : kb_N s) (hA : ∀ q, s.heap.size ≤ q → A q) (hcR : cells ≤ krX5_compress64.cells) (hsR : slots ≤ krX5_compress64.slots) (h_this : Nat) (a_this : Nat → Nat) (x1p2 : Int32) (this_taped : Int32) (this_code : Int32) (this_kind : Int32) (this_rate : Int32) (this_filled : Int32) (this_total : Int64) (this_bitAt : Int32) (this_k : Int32) (this_e1 : Int32) (this_du : Int32) (this_dv : Int32) (f_this_cubes : Nat → Int64) (f_this_state : Nat → Int64) (f_this_block : Nat → Int32) :
    ∀ (fuel : Nat) (x2p17 : Int32) (f_this_wordsp17 : Nat → Int64) (r : Int32 × (Nat → Int64)), kb_w (fun u : Int32 × (Nat → Int64) => kSX5_compress64_17 x1p2 f_this_block u.1 u.2) fuel (x2p17, f_this_wordsp17) = some r → ∀ (H : Heap) (locs : List Loc) (ls : Array Slot), va_P D kCl (kWX5_compress64 cB cI cL cBB cII cSh h_this a_this this_taped this_code this_kind this_rate this_filled this_total this_bitAt this_k this_e1 this_du this_dv f_this_cubes f_this_state f_this_wordsp17 f_this_block) H → va_D A (kWX5_compress64 cB cI cL cBB cII cSh h_this a_this this_taped this_code this_kind this_rate this_filled this_total this_bitAt this_k this_e1 this_du this_dv f_this_cubes f_this_state f_this_wordsp17 f_this_block) → va_S A s.heap H locs → lv_has ls 22 [(0, .ref h_this), (1, .int x1p2), (2, .int x2p17)] → (∀ (x2p17' : Int32) (f_this_wordsp17' : Nat → Int64), r = (x2p17', f_this_wordsp17') → ∀ (H : Heap) (locs : List Loc) (ls : Array Slot), va_P D kCl (kWX5_compress64 cB cI cL cBB cII cSh h_this a_this this_taped this_code this_kind this_rate this_filled this_total this_bitAt this_k this_e1 this_du this_dv f_this_cubes f_this_state f_this_wordsp17' f_this_block) H → va_D A (kWX5_compress64 cB cI cL cBB cII cSh h_this a_this this_taped this_code this_kind this_rate this_filled this_total this_bitAt this_k this_e1 this_du this_dv f_this_cubes f_this_state f_this_wordsp17' f_this_block) → va_S A s.heap H locs → lv_has ls 22 [(0, .ref h_this), (1, .int x1p2), (2, .int x2p17')] → W p l e krX5_compress64 s m args below meth c H locs cells slots Q (F0 m 61 ls [])) → W p l e krX5_compress64 s m args below meth c H locs cells slots Q (F0 m 17 ls []) := by
  obtain ⟨hx, hb, hml, hown, hts⟩ := id C0
  intro fuel
  induction fuel with
  | zero =>
    intro x2p17 f_this_wordsp17 r h
    exact absurd h (kb_w_z _ _ _)
  | succ fuel ih =>
    intro x2p17 f_this_wordsp17 r h H locs ls hP hD hS hl hk0
    obtain ⟨o, h, ho⟩ := kb_w_s h
    have h : kSX5_compress64_17 x1p2 f_this_block x2p17 f_this_wordsp17 = some o := h
    unfold kSX5_compress64_17 at h
    refine lv_iload_n hx hb kdX5_compress64_17 rfl (lv_at hl 2 rfl) ?_
    refine lv_bipush (v := 8) hx hb kdX5_compress64_18 (by decide) ?_
    refine lv_icmp_ge (tgt := 61) hx hb kdX5_compress64_20 (by decide) (fun c_4 => ?_) (fun c_4 => ?_)
    · have h := kb_b_t c_4 h
      obtain rfl := Option.some.inj h
      exact hk0 x2p17 f_this_wordsp17 ho.symm _ _ _ hP hD hS (lv_sub hl [0, 1, 2] rfl)
    · have h := kb_b_f c_4 h
      refine lv_aload_n hx hb kdX5_compress64_23 rfl (lv_at hl 0 rfl) ?_
      refine va_get (ci := 5) (v := .ref (a_this 16)) (C := kRX5) (T := kTX5) (N := 35) hx hb hts kinX5 hown hK hP 0 rfl rfl 16 (by decide) (hts _ km_697) (fun _ h9 => h9) rfl kdX5_compress64_24 ?_
      refine lv_iload_n hx hb kdX5_compress64_27 rfl (lv_at hl 1 rfl) ?_
      refine lv_aload_n hx hb kdX5_compress64_28 rfl (lv_at hl 0 rfl) ?_
      refine va_get (ci := 5) (v := .ref (a_this 16)) (C := kRX5) (T := kTX5) (N := 35) hx hb hts kinX5 hown hK hP 0 rfl rfl 16 (by decide) (hts _ km_697) (fun _ h9 => h9) rfl kdX5_compress64_29 ?_
      refine lv_iload_n hx hb kdX5_compress64_32 rfl (lv_at hl 1 rfl) ?_
      obtain ⟨g_5, h⟩ := kb_g_s h
      refine va_lald hx hb hK hP 3 2 rfl rfl (kb_in_v g_5) kdX5_compress64_33 ?_
      refine lv_bipush (v := 8) hx hb kdX5_compress64_34 (by decide) ?_
      refine lv_lshl (v := ((f_this_wordsp17 x1p2.toNatClampNeg) <<< ((8 : Int32).toInt64 &&& 63))) hx hb kdX5_compress64_36 rfl ?_
      refine lv_aload_n hx hb kdX5_compress64_37 rfl (lv_at hl 0 rfl) ?_
      refine va_get (ci := 5) (v := .ref (a_this 17)) (C := kRX5) (T := kTX5) (N := 35) hx hb hts kinX5 hown hK hP 0 rfl rfl 17 (by decide) (hts _ km_698) (fun _ h9 => h9) rfl kdX5_compress64_38 ?_
      refine lv_bipush (v := 8) hx hb kdX5_compress64_41 (by decide) ?_
      refine lv_iload_n hx hb kdX5_compress64_43 rfl (lv_at hl 1 rfl) ?_
      refine lv_imul hx hb kdX5_compress64_44 ?_
      refine lv_iload_n hx hb kdX5_compress64_45 rfl (lv_at hl 2 rfl) ?_
      refine lv_iadd hx hb kdX5_compress64_46 ?_
      obtain ⟨g_6, h⟩ := kb_g_s h
      refine va_bald hx hb hK hP 4 0 rfl rfl (kb_in_v g_6) kdX5_compress64_47 ?_
      refine lv_i2l (v := ((f_this_block (((8 : Int32) * x1p2) + x2p17).toNatClampNeg).toInt64)) hx hb kdX5_compress64_48 rfl ?_
      refine lv_ldc2 (v := 255) hx hb hown (hts _ km_653) kdX5_compress64_49 ?_
      refine lv_land hx hb kdX5_compress64_52 ?_
      refine lv_lor hx hb kdX5_compress64_53 ?_
      obtain ⟨g_7, h⟩ := kb_g_s h
      refine va_last hx hb hK hP hD hS 3 2 rfl rfl (kb_in_v g_7) kdX5_compress64_54 (fun H locs hP hD hS => ?_)
      obtain ⟨f_8, ef_8⟩ : ∃ y, y = vp_updL f_this_wordsp17 x1p2.toNatClampNeg (((f_this_wordsp17 x1p2.toNatClampNeg) <<< ((8 : Int32).toInt64 &&& 63)) ||| (((f_this_block (((8 : Int32) * x1p2) + x2p17).toNatClampNeg).toInt64) &&& (255 : Int64))) := ⟨_, rfl⟩
      have h := kb_n_s ef_8 h
      have hP : va_P D kCl (kWX5_compress64 cB cI cL cBB cII cSh h_this a_this this_taped this_code this_kind this_rate this_filled this_total this_bitAt this_k this_e1 this_du this_dv f_this_cubes f_this_state f_8 f_this_block) H := by rw [ef_8]; exact hP
      have hD : va_D A (kWX5_compress64 cB cI cL cBB cII cSh h_this a_this this_taped this_code this_kind this_rate this_filled this_total this_bitAt this_k this_e1 this_du this_dv f_this_cubes f_this_state f_8 f_this_block) := by rw [ef_8]; exact hD
      obtain ⟨x2_9, ex2_9⟩ : ∃ y : Int32, y = x2p17 + Int32.ofInt 1 := ⟨_, rfl⟩
      have h := kb_n_s ex2_9 h
      refine lv_iinc (v := x2_9) (lv' := [(2, .int x2_9), (0, .ref h_this), (1, .int x1p2)]) hx hb kdX5_compress64_55 hl (k := 2) rfl ex2_9.symm (by decide) rfl (fun ls hl => ?_)
      refine lv_goto (tgt := 17) hx hb kdX5_compress64_58 (by decide) ?_
      obtain rfl := Option.some.inj h
      exact ih x2_9 f_8 r ho _ _ _ hP hD hS (lv_sub hl [1, 2, 0] rfl) hk0
set_option maxHeartbeats 4000000 in
set_option maxRecDepth 100000 in
theorem klX5_compress64_2 {p : Program} {l : Launch} {e : Env} {s : State} {m : MethodId} {args : Array Value} {below : List Frame} {meth : Method} {c : Code} {cells slots : Nat} {Q : State → Prop} {D : va_G} {cB cI cL cBB cII cSh : ClassId} {A : Nat → Prop} (C0 : CallFix p m c prog_8_method_33_code 22 s args kwA kRX5) (hlocks : meth.locks = false) (hK : va_K D kCl (kb_T cB cI cL cBB cII cSh) s) (hN : kb_N s) (hA : ∀ q, s.heap.size ≤ q → A q) (hcR : cells ≤ krX5_compress64.cells) (hsR : slots ≤ krX5_compress64.slots) (h_this : Nat) (a_this : Nat → Nat) (this_taped : Int32) (this_code : Int32) (this_kind : Int32) (this_rate : Int32) (this_filled : Int32) (this_total : Int64) (this_bitAt : Int32) (this_k : Int32) (this_e1 : Int32) (this_du : Int32) (this_dv : Int32) (f_this_cubes : Nat → Int64) (f_this_state : Nat → Int64) (f_this_block : Nat → Int32) :
    ∀ (fuel : Nat) (x1p2 : Int32) (f_this_wordsp2 : Nat → Int64) (r : Int32 × (Nat → Int64)), kb_w (fun u : Int32 × (Nat → Int64) => kSX5_compress64_2 f_this_block u.1 u.2) fuel (x1p2, f_this_wordsp2) = some r → ∀ (H : Heap) (locs : List Loc) (ls : Array Slot), va_P D kCl (kWX5_compress64 cB cI cL cBB cII cSh h_this a_this this_taped this_code this_kind this_rate this_filled this_total this_bitAt this_k this_e1 this_du this_dv f_this_cubes f_this_state f_this_wordsp2 f_this_block) H → va_D A (kWX5_compress64 cB cI cL cBB cII cSh h_this a_this this_taped this_code this_kind this_rate this_filled this_total this_bitAt this_k this_e1 this_du this_dv f_this_cubes f_this_state f_this_wordsp2 f_this_block) → va_S A s.heap H locs → lv_has ls 22 [(0, .ref h_this), (1, .int x1p2)] → (∀ (x1p2' : Int32) (f_this_wordsp2' : Nat → Int64), r = (x1p2', f_this_wordsp2') → ∀ (H : Heap) (locs : List Loc) (ls : Array Slot), va_P D kCl (kWX5_compress64 cB cI cL cBB cII cSh h_this a_this this_taped this_code this_kind this_rate this_filled this_total this_bitAt this_k this_e1 this_du this_dv f_this_cubes f_this_state f_this_wordsp2' f_this_block) H → va_D A (kWX5_compress64 cB cI cL cBB cII cSh h_this a_this this_taped this_code this_kind this_rate this_filled this_total this_bitAt this_k this_e1 this_du this_dv f_this_cubes f_this_state f_this_wordsp2' f_this_block) → va_S A s.heap H locs → lv_has ls 22 [(0, .ref h_this), (1, .int x1p2')] → W p l e krX5_compress64 s m args below meth c H locs cells slots Q (F0 m 67 ls [])) → W p l e krX5_compress64 s m args below meth c H locs cells slots Q (F0 m 2 ls []) := by
  obtain ⟨hx, hb, hml, hown, hts⟩ := id C0
  intro fuel
  induction fuel with
  | zero =>
    intro x1p2 f_this_wordsp2 r h
    exact absurd h (kb_w_z _ _ _)
  | succ fuel ih =>
    intro x1p2 f_this_wordsp2 r h H locs ls hP hD hS hl hk0
    obtain ⟨o, h, ho⟩ := kb_w_s h
    have h : kSX5_compress64_2 f_this_block x1p2 f_this_wordsp2 = some o := h
    unfold kSX5_compress64_2 at h
    refine lv_iload_n hx hb kdX5_compress64_2 rfl (lv_at hl 1 rfl) ?_
    refine lv_bipush (v := 16) hx hb kdX5_compress64_3 (by decide) ?_
    refine lv_icmp_ge (tgt := 67) hx hb kdX5_compress64_5 (by decide) (fun c_1 => ?_) (fun c_1 => ?_)
    · have h := kb_b_t c_1 h
      obtain rfl := Option.some.inj h
      exact hk0 x1p2 f_this_wordsp2 ho.symm _ _ _ hP hD hS (lv_sub hl [0, 1] rfl)
    · have h := kb_b_f c_1 h
      refine lv_aload_n hx hb kdX5_compress64_8 rfl (lv_at hl 0 rfl) ?_
      refine va_get (ci := 5) (v := .ref (a_this 16)) (C := kRX5) (T := kTX5) (N := 35) hx hb hts kinX5 hown hK hP 0 rfl rfl 16 (by decide) (hts _ km_697) (fun _ h9 => h9) rfl kdX5_compress64_9 ?_
      refine lv_iload_n hx hb kdX5_compress64_12 rfl (lv_at hl 1 rfl) ?_
      refine lv_lconst (v := 0) hx hb kdX5_compress64_13 (by decide) ?_
      obtain ⟨g_2, h⟩ := kb_g_s h
      refine va_last hx hb hK hP hD hS 3 2 rfl rfl (kb_in_v g_2) kdX5_compress64_14 (fun H locs hP hD hS => ?_)
      obtain ⟨f_3, ef_3⟩ : ∃ y, y = vp_updL f_this_wordsp2 x1p2.toNatClampNeg (0 : Int64) := ⟨_, rfl⟩
      have h := kb_n_s ef_3 h
      have hP : va_P D kCl (kWX5_compress64 cB cI cL cBB cII cSh h_this a_this this_taped this_code this_kind this_rate this_filled this_total this_bitAt this_k this_e1 this_du this_dv f_this_cubes f_this_state f_3 f_this_block) H := by rw [ef_3]; exact hP
      have hD : va_D A (kWX5_compress64 cB cI cL cBB cII cSh h_this a_this this_taped this_code this_kind this_rate this_filled this_total this_bitAt this_k this_e1 this_du this_dv f_this_cubes f_this_state f_3 f_this_block) := by rw [ef_3]; exact hD
      refine lv_iconst (v := 0) hx hb kdX5_compress64_15 (by decide) ?_
      refine lv_istore_n (lv' := [(2, .int (0 : Int32)), (0, .ref h_this), (1, .int x1p2)]) hx hb kdX5_compress64_16 rfl hl (by decide) rfl (fun ls hl => ?_)
      obtain ⟨r_13, hr_13, h⟩ := kb_o_s h
      refine klX5_compress64_17 C0 hlocks hK hN hA hcR hsR h_this a_this x1p2 this_taped this_code this_kind this_rate this_filled this_total this_bitAt this_k this_e1 this_du this_dv f_this_cubes f_this_state f_this_block 100000 (0 : Int32) f_3 r_13 hr_13 _ _ _ hP hD hS (lv_sub hl [1, 2, 0] rfl) (fun x2p17_10 f_this_wordsp17_11 er_13 H locs ls hP hD hS hl => ?_)
      subst er_13
      try dsimp only at h
      obtain ⟨x1_12, ex1_12⟩ : ∃ y : Int32, y = x1p2 + Int32.ofInt 1 := ⟨_, rfl⟩
      have h := kb_n_s ex1_12 h
      refine lv_iinc (v := x1_12) (lv' := [(1, .int x1_12), (0, .ref h_this), (2, .int x2p17_10)]) hx hb kdX5_compress64_61 hl (k := 1) rfl ex1_12.symm (by decide) rfl (fun ls hl => ?_)
      refine lv_goto (tgt := 2) hx hb kdX5_compress64_64 (by decide) ?_
      obtain rfl := Option.some.inj h
      exact ih x1_12 f_this_wordsp17_11 r ho _ _ _ hP hD hS (lv_sub hl [1, 0] rfl) hk0
set_option maxHeartbeats 4000000 in
set_option maxRecDepth 100000 in
theorem klX5_compress64_70 {p : Program} {l : Launch} {e : Env} {s : State} {m : MethodId} {args : Array Value} {below : List Frame} {meth : Method} {c : Code} {cells slots : Nat} {Q : State → Prop} {D : va_G} {cB cI cL cBB cII cSh : ClassId} {A : Nat → Prop} (C0 : CallFix p m c prog_8_method_33_code 22 s args kwA kRX5) (hlocks : meth.locks = false) (hK : va_K D kCl (kb_T cB cI cL cBB cII cSh) s) (hN : kb_N s) (hA : ∀ q, s.heap.size ≤ q → A q) (hcR : cells ≤ krX5_compress64.cells) (hsR : slots ≤ krX5_compress64.slots) (h_this : Nat) (a_this : Nat → Nat) (this_taped : Int32) (this_code : Int32) (this_kind : Int32) (this_rate : Int32) (this_filled : Int32) (this_total : Int64) (this_bitAt : Int32) (this_k : Int32) (this_e1 : Int32) (this_du : Int32) (this_dv : Int32) (f_this_cubes : Nat → Int64) (f_this_state : Nat → Int64) (f_this_block : Nat → Int32) :
    ∀ (fuel : Nat) (x1p70 : Int32) (f_this_wordsp70 : Nat → Int64) (r : Int32 × (Nat → Int64)), kb_w (fun u : Int32 × (Nat → Int64) => kSX5_compress64_70 u.1 u.2) fuel (x1p70, f_this_wordsp70) = some r → ∀ (H : Heap) (locs : List Loc) (ls : Array Slot), va_P D kCl (kWX5_compress64 cB cI cL cBB cII cSh h_this a_this this_taped this_code this_kind this_rate this_filled this_total this_bitAt this_k this_e1 this_du this_dv f_this_cubes f_this_state f_this_wordsp70 f_this_block) H → va_D A (kWX5_compress64 cB cI cL cBB cII cSh h_this a_this this_taped this_code this_kind this_rate this_filled this_total this_bitAt this_k this_e1 this_du this_dv f_this_cubes f_this_state f_this_wordsp70 f_this_block) → va_S A s.heap H locs → lv_has ls 22 [(0, .ref h_this), (1, .int x1p70)] → (∀ (x1p70' : Int32) (f_this_wordsp70' : Nat → Int64), r = (x1p70', f_this_wordsp70') → ∀ (H : Heap) (locs : List Loc) (ls : Array Slot), va_P D kCl (kWX5_compress64 cB cI cL cBB cII cSh h_this a_this this_taped this_code this_kind this_rate this_filled this_total this_bitAt this_k this_e1 this_du this_dv f_this_cubes f_this_state f_this_wordsp70' f_this_block) H → va_D A (kWX5_compress64 cB cI cL cBB cII cSh h_this a_this this_taped this_code this_kind this_rate this_filled this_total this_bitAt this_k this_e1 this_du this_dv f_this_cubes f_this_state f_this_wordsp70' f_this_block) → va_S A s.heap H locs → lv_has ls 22 [(0, .ref h_this), (1, .int x1p70')] → W p l e krX5_compress64 s m args below meth c H locs cells slots Q (F0 m 167 ls [])) → W p l e krX5_compress64 s m args below meth c H locs cells slots Q (F0 m 70 ls []) := by
  obtain ⟨hx, hb, hml, hown, hts⟩ := id C0
  intro fuel
  induction fuel with
  | zero =>
    intro x1p70 f_this_wordsp70 r h
    exact absurd h (kb_w_z _ _ _)
  | succ fuel ih =>
    intro x1p70 f_this_wordsp70 r h H locs ls hP hD hS hl hk0
    obtain ⟨o, h, ho⟩ := kb_w_s h
    have h : kSX5_compress64_70 x1p70 f_this_wordsp70 = some o := h
    unfold kSX5_compress64_70 at h
    refine lv_iload_n hx hb kdX5_compress64_70 rfl (lv_at hl 1 rfl) ?_
    refine lv_bipush (v := 80) hx hb kdX5_compress64_71 (by decide) ?_
    refine lv_icmp_ge (tgt := 167) hx hb kdX5_compress64_73 (by decide) (fun c_16 => ?_) (fun c_16 => ?_)
    · have h := kb_b_t c_16 h
      obtain rfl := Option.some.inj h
      exact hk0 x1p70 f_this_wordsp70 ho.symm _ _ _ hP hD hS (lv_sub hl [0, 1] rfl)
    · have h := kb_b_f c_16 h
      refine lv_aload_n hx hb kdX5_compress64_76 rfl (lv_at hl 0 rfl) ?_
      refine va_get (ci := 5) (v := .ref (a_this 16)) (C := kRX5) (T := kTX5) (N := 35) hx hb hts kinX5 hown hK hP 0 rfl rfl 16 (by decide) (hts _ km_697) (fun _ h9 => h9) rfl kdX5_compress64_77 ?_
      refine lv_iload_n hx hb kdX5_compress64_80 rfl (lv_at hl 1 rfl) ?_
      refine lv_iconst (v := 2) hx hb kdX5_compress64_81 (by decide) ?_
      refine lv_isub hx hb kdX5_compress64_82 ?_
      obtain ⟨g_17, h⟩ := kb_g_s h
      refine va_lald hx hb hK hP 3 2 rfl rfl (kb_in_v g_17) kdX5_compress64_83 ?_
      refine lv_topl (fun x2_18 ex2_18 => ?_)
      have h := kb_n_s ex2_18 h
      refine lv_lstore_n (lv' := [(2, .long x2_18), (0, .ref h_this), (1, .int x1p70)]) hx hb kdX5_compress64_84 rfl hl (by decide) rfl (fun ls hl => ?_)
      refine lv_aload_n hx hb kdX5_compress64_85 rfl (lv_at hl 1 rfl) ?_
      refine va_get (ci := 5) (v := .ref (a_this 16)) (C := kRX5) (T := kTX5) (N := 35) hx hb hts kinX5 hown hK hP 0 rfl rfl 16 (by decide) (hts _ km_697) (fun _ h9 => h9) rfl kdX5_compress64_86 ?_
      refine lv_iload_n hx hb kdX5_compress64_89 rfl (lv_at hl 2 rfl) ?_
      refine lv_bipush (v := 15) hx hb kdX5_compress64_90 (by decide) ?_
      refine lv_isub hx hb kdX5_compress64_92 ?_
      obtain ⟨g_19, h⟩ := kb_g_s h
      refine va_lald hx hb hK hP 3 2 rfl rfl (kb_in_v g_19) kdX5_compress64_93 ?_
      refine lv_topl (fun x4_20 ex4_20 => ?_)
      have h := kb_n_s ex4_20 h
      refine lv_lstore (lv' := [(4, .long x4_20), (2, .long x2_18), (0, .ref h_this), (1, .int x1p70)]) hx hb kdX5_compress64_94 hl (by decide) rfl (fun ls hl => ?_)
      refine lv_aload_n hx hb kdX5_compress64_96 rfl (lv_at hl 2 rfl) ?_
      refine va_get (ci := 5) (v := .ref (a_this 16)) (C := kRX5) (T := kTX5) (N := 35) hx hb hts kinX5 hown hK hP 0 rfl rfl 16 (by decide) (hts _ km_697) (fun _ h9 => h9) rfl kdX5_compress64_97 ?_
      refine lv_iload_n hx hb kdX5_compress64_100 rfl (lv_at hl 3 rfl) ?_
      refine lv_lload_n hx hb kdX5_compress64_101 rfl (lv_at hl 1 rfl) ?_
      refine lv_bipush (v := 19) hx hb kdX5_compress64_102 (by decide) ?_
      obtain ⟨u_22, hu_22, h⟩ := kb_o_s h
      obtain ⟨r_21, rfl⟩ : ∃ z, z = u_22 := ⟨_, rfl⟩
      try dsimp only at h
      have hC := (show ([] : List Nat).map (fun i : Nat => (kWX5_compress64 cB cI cL cBB cII cSh h_this a_this this_taped this_code this_kind this_rate this_filled this_total this_bitAt this_k this_e1 this_du this_dv f_this_cubes f_this_state f_this_wordsp70 f_this_block)[i]?) = List.map some (kWX5_right cB cI cL cBB cII cSh) from rfl)
      have hPc := kb_Psub hP ([] : List Nat) hC
      have hDc := kb_Dsub hD ([] : List Nat) hC (by simp [kb_nd])
      refine kb_call0 (va_runS (As := [.long x2_18, .int (19 : Int32)]) (rest := [.int x1p70, .ref (a_this 16)]) C0 (kcX5_right l D cB cI cL cBB cII cSh  _ x2_18 (19 : Int32) r_21 hu_22) (va_cwS 2 hts (kb_gS km_673 km_674 km_6 km_675) rfl rfl rfl (by decide +kernel) ⟨Nat.le_of_ble_eq_true rfl, Nat.le_of_ble_eq_true rfl⟩) ⟨kb_P_bl, (fun U hU hW => ⟨rfl, by rw [hU], by rw [hU]; exact hPc, va_K.moved hW.alike hK, kb_N_to hW hN, hDc.weaken (fun _ _ _ _ => trivial)⟩)⟩ rfl rfl hl.1 rfl (lv_room (Nat.le_of_ble_eq_true rfl)) kdX5_compress64_104 ⟨hcR, hsR⟩) hP hD hS hA ([] : List Nat) hC rfl (fun H locs hP hD hS => ?_)
      have hP : va_P D kCl (kWX5_compress64 cB cI cL cBB cII cSh h_this a_this this_taped this_code this_kind this_rate this_filled this_total this_bitAt this_k this_e1 this_du this_dv f_this_cubes f_this_state f_this_wordsp70 f_this_block) H := hP
      have hD : va_D A (kWX5_compress64 cB cI cL cBB cII cSh h_this a_this this_taped this_code this_kind this_rate this_filled this_total this_bitAt this_k this_e1 this_du this_dv f_this_cubes f_this_state f_this_wordsp70 f_this_block) := hD
      refine lv_lload_n hx hb kdX5_compress64_107 rfl (lv_at hl 1 rfl) ?_
      refine lv_bipush (v := 61) hx hb kdX5_compress64_108 (by decide) ?_
      obtain ⟨u_24, hu_24, h⟩ := kb_o_s h
      obtain ⟨r_23, rfl⟩ : ∃ z, z = u_24 := ⟨_, rfl⟩
      try dsimp only at h
      have hC := (show ([] : List Nat).map (fun i : Nat => (kWX5_compress64 cB cI cL cBB cII cSh h_this a_this this_taped this_code this_kind this_rate this_filled this_total this_bitAt this_k this_e1 this_du this_dv f_this_cubes f_this_state f_this_wordsp70 f_this_block)[i]?) = List.map some (kWX5_right cB cI cL cBB cII cSh) from rfl)
      have hPc := kb_Psub hP ([] : List Nat) hC
      have hDc := kb_Dsub hD ([] : List Nat) hC (by simp [kb_nd])
      refine kb_call0 (va_runS (As := [.long x2_18, .int (61 : Int32)]) (rest := [.long r_21, .int x1p70, .ref (a_this 16)]) C0 (kcX5_right l D cB cI cL cBB cII cSh  _ x2_18 (61 : Int32) r_23 hu_24) (va_cwS 2 hts (kb_gS km_673 km_674 km_6 km_675) rfl rfl rfl (by decide +kernel) ⟨Nat.le_of_ble_eq_true rfl, Nat.le_of_ble_eq_true rfl⟩) ⟨kb_P_bl, (fun U hU hW => ⟨rfl, by rw [hU], by rw [hU]; exact hPc, va_K.moved hW.alike hK, kb_N_to hW hN, hDc.weaken (fun _ _ _ _ => trivial)⟩)⟩ rfl rfl hl.1 rfl (lv_room (Nat.le_of_ble_eq_true rfl)) kdX5_compress64_110 ⟨hcR, hsR⟩) hP hD hS hA ([] : List Nat) hC rfl (fun H locs hP hD hS => ?_)
      have hP : va_P D kCl (kWX5_compress64 cB cI cL cBB cII cSh h_this a_this this_taped this_code this_kind this_rate this_filled this_total this_bitAt this_k this_e1 this_du this_dv f_this_cubes f_this_state f_this_wordsp70 f_this_block) H := hP
      have hD : va_D A (kWX5_compress64 cB cI cL cBB cII cSh h_this a_this this_taped this_code this_kind this_rate this_filled this_total this_bitAt this_k this_e1 this_du this_dv f_this_cubes f_this_state f_this_wordsp70 f_this_block) := hD
      refine lv_lxor hx hb kdX5_compress64_113 ?_
      refine lv_lload_n hx hb kdX5_compress64_114 rfl (lv_at hl 1 rfl) ?_
      refine lv_bipush (v := 6) hx hb kdX5_compress64_115 (by decide) ?_
      refine lv_lushr (v := ((x2_18.toUInt64 >>> ((6 : Int32).toInt64.toUInt64 &&& Int64.toUInt64 63)).toInt64)) hx hb kdX5_compress64_117 rfl ?_
      refine lv_lxor hx hb kdX5_compress64_118 ?_
      refine lv_aload_n hx hb kdX5_compress64_119 rfl (lv_at hl 2 rfl) ?_
      refine va_get (ci := 5) (v := .ref (a_this 16)) (C := kRX5) (T := kTX5) (N := 35) hx hb hts kinX5 hown hK hP 0 rfl rfl 16 (by decide) (hts _ km_697) (fun _ h9 => h9) rfl kdX5_compress64_120 ?_
      refine lv_iload_n hx hb kdX5_compress64_123 rfl (lv_at hl 3 rfl) ?_
      refine lv_bipush (v := 7) hx hb kdX5_compress64_124 (by decide) ?_
      refine lv_isub hx hb kdX5_compress64_126 ?_
      obtain ⟨g_25, h⟩ := kb_g_s h
      refine va_lald hx hb hK hP 3 2 rfl rfl (kb_in_v g_25) kdX5_compress64_127 ?_
      refine lv_ladd hx hb kdX5_compress64_128 ?_
      refine lv_lload hx hb kdX5_compress64_129 (lv_at hl 0 rfl) ?_
      refine lv_iconst (v := 1) hx hb kdX5_compress64_131 (by decide) ?_
      obtain ⟨u_27, hu_27, h⟩ := kb_o_s h
      obtain ⟨r_26, rfl⟩ : ∃ z, z = u_27 := ⟨_, rfl⟩
      try dsimp only at h
      have hC := (show ([] : List Nat).map (fun i : Nat => (kWX5_compress64 cB cI cL cBB cII cSh h_this a_this this_taped this_code this_kind this_rate this_filled this_total this_bitAt this_k this_e1 this_du this_dv f_this_cubes f_this_state f_this_wordsp70 f_this_block)[i]?) = List.map some (kWX5_right cB cI cL cBB cII cSh) from rfl)
      have hPc := kb_Psub hP ([] : List Nat) hC
      have hDc := kb_Dsub hD ([] : List Nat) hC (by simp [kb_nd])
      refine kb_call0 (va_runS (As := [.long x4_20, .int (1 : Int32)]) (rest := [.long (((r_21 ^^^ r_23) ^^^ ((x2_18.toUInt64 >>> ((6 : Int32).toInt64.toUInt64 &&& Int64.toUInt64 63)).toInt64)) + (f_this_wordsp70 (x1p70 - (7 : Int32)).toNatClampNeg)), .int x1p70, .ref (a_this 16)]) C0 (kcX5_right l D cB cI cL cBB cII cSh  _ x4_20 (1 : Int32) r_26 hu_27) (va_cwS 2 hts (kb_gS km_673 km_674 km_6 km_675) rfl rfl rfl (by decide +kernel) ⟨Nat.le_of_ble_eq_true rfl, Nat.le_of_ble_eq_true rfl⟩) ⟨kb_P_bl, (fun U hU hW => ⟨rfl, by rw [hU], by rw [hU]; exact hPc, va_K.moved hW.alike hK, kb_N_to hW hN, hDc.weaken (fun _ _ _ _ => trivial)⟩)⟩ rfl rfl hl.1 rfl (lv_room (Nat.le_of_ble_eq_true rfl)) kdX5_compress64_132 ⟨hcR, hsR⟩) hP hD hS hA ([] : List Nat) hC rfl (fun H locs hP hD hS => ?_)
      have hP : va_P D kCl (kWX5_compress64 cB cI cL cBB cII cSh h_this a_this this_taped this_code this_kind this_rate this_filled this_total this_bitAt this_k this_e1 this_du this_dv f_this_cubes f_this_state f_this_wordsp70 f_this_block) H := hP
      have hD : va_D A (kWX5_compress64 cB cI cL cBB cII cSh h_this a_this this_taped this_code this_kind this_rate this_filled this_total this_bitAt this_k this_e1 this_du this_dv f_this_cubes f_this_state f_this_wordsp70 f_this_block) := hD
      refine lv_lload hx hb kdX5_compress64_135 (lv_at hl 0 rfl) ?_
      refine lv_bipush (v := 8) hx hb kdX5_compress64_137 (by decide) ?_
      obtain ⟨u_29, hu_29, h⟩ := kb_o_s h
      obtain ⟨r_28, rfl⟩ : ∃ z, z = u_29 := ⟨_, rfl⟩
      try dsimp only at h
      have hC := (show ([] : List Nat).map (fun i : Nat => (kWX5_compress64 cB cI cL cBB cII cSh h_this a_this this_taped this_code this_kind this_rate this_filled this_total this_bitAt this_k this_e1 this_du this_dv f_this_cubes f_this_state f_this_wordsp70 f_this_block)[i]?) = List.map some (kWX5_right cB cI cL cBB cII cSh) from rfl)
      have hPc := kb_Psub hP ([] : List Nat) hC
      have hDc := kb_Dsub hD ([] : List Nat) hC (by simp [kb_nd])
      refine kb_call0 (va_runS (As := [.long x4_20, .int (8 : Int32)]) (rest := [.long r_26, .long (((r_21 ^^^ r_23) ^^^ ((x2_18.toUInt64 >>> ((6 : Int32).toInt64.toUInt64 &&& Int64.toUInt64 63)).toInt64)) + (f_this_wordsp70 (x1p70 - (7 : Int32)).toNatClampNeg)), .int x1p70, .ref (a_this 16)]) C0 (kcX5_right l D cB cI cL cBB cII cSh  _ x4_20 (8 : Int32) r_28 hu_29) (va_cwS 2 hts (kb_gS km_673 km_674 km_6 km_675) rfl rfl rfl (by decide +kernel) ⟨Nat.le_of_ble_eq_true rfl, Nat.le_of_ble_eq_true rfl⟩) ⟨kb_P_bl, (fun U hU hW => ⟨rfl, by rw [hU], by rw [hU]; exact hPc, va_K.moved hW.alike hK, kb_N_to hW hN, hDc.weaken (fun _ _ _ _ => trivial)⟩)⟩ rfl rfl hl.1 rfl (lv_room (Nat.le_of_ble_eq_true rfl)) kdX5_compress64_139 ⟨hcR, hsR⟩) hP hD hS hA ([] : List Nat) hC rfl (fun H locs hP hD hS => ?_)
      have hP : va_P D kCl (kWX5_compress64 cB cI cL cBB cII cSh h_this a_this this_taped this_code this_kind this_rate this_filled this_total this_bitAt this_k this_e1 this_du this_dv f_this_cubes f_this_state f_this_wordsp70 f_this_block) H := hP
      have hD : va_D A (kWX5_compress64 cB cI cL cBB cII cSh h_this a_this this_taped this_code this_kind this_rate this_filled this_total this_bitAt this_k this_e1 this_du this_dv f_this_cubes f_this_state f_this_wordsp70 f_this_block) := hD
      refine lv_lxor hx hb kdX5_compress64_142 ?_
      refine lv_lload hx hb kdX5_compress64_143 (lv_at hl 0 rfl) ?_
      refine lv_bipush (v := 7) hx hb kdX5_compress64_145 (by decide) ?_
      refine lv_lushr (v := ((x4_20.toUInt64 >>> ((7 : Int32).toInt64.toUInt64 &&& Int64.toUInt64 63)).toInt64)) hx hb kdX5_compress64_147 rfl ?_
      refine lv_lxor hx hb kdX5_compress64_148 ?_
      refine lv_ladd hx hb kdX5_compress64_149 ?_
      refine lv_aload_n hx hb kdX5_compress64_150 rfl (lv_at hl 2 rfl) ?_
      refine va_get (ci := 5) (v := .ref (a_this 16)) (C := kRX5) (T := kTX5) (N := 35) hx hb hts kinX5 hown hK hP 0 rfl rfl 16 (by decide) (hts _ km_697) (fun _ h9 => h9) rfl kdX5_compress64_151 ?_
      refine lv_iload_n hx hb kdX5_compress64_154 rfl (lv_at hl 3 rfl) ?_
      refine lv_bipush (v := 16) hx hb kdX5_compress64_155 (by decide) ?_
      refine lv_isub hx hb kdX5_compress64_157 ?_
      obtain ⟨g_30, h⟩ := kb_g_s h
      refine va_lald hx hb hK hP 3 2 rfl rfl (kb_in_v g_30) kdX5_compress64_158 ?_
      refine lv_ladd hx hb kdX5_compress64_159 ?_
      obtain ⟨g_31, h⟩ := kb_g_s h
      refine va_last hx hb hK hP hD hS 3 2 rfl rfl (kb_in_v g_31) kdX5_compress64_160 (fun H locs hP hD hS => ?_)
      obtain ⟨f_32, ef_32⟩ : ∃ y, y = vp_updL f_this_wordsp70 x1p70.toNatClampNeg (((((r_21 ^^^ r_23) ^^^ ((x2_18.toUInt64 >>> ((6 : Int32).toInt64.toUInt64 &&& Int64.toUInt64 63)).toInt64)) + (f_this_wordsp70 (x1p70 - (7 : Int32)).toNatClampNeg)) + ((r_26 ^^^ r_28) ^^^ ((x4_20.toUInt64 >>> ((7 : Int32).toInt64.toUInt64 &&& Int64.toUInt64 63)).toInt64))) + (f_this_wordsp70 (x1p70 - (16 : Int32)).toNatClampNeg)) := ⟨_, rfl⟩
      have h := kb_n_s ef_32 h
      have hP : va_P D kCl (kWX5_compress64 cB cI cL cBB cII cSh h_this a_this this_taped this_code this_kind this_rate this_filled this_total this_bitAt this_k this_e1 this_du this_dv f_this_cubes f_this_state f_32 f_this_block) H := by rw [ef_32]; exact hP
      have hD : va_D A (kWX5_compress64 cB cI cL cBB cII cSh h_this a_this this_taped this_code this_kind this_rate this_filled this_total this_bitAt this_k this_e1 this_du this_dv f_this_cubes f_this_state f_32 f_this_block) := by rw [ef_32]; exact hD
      obtain ⟨x1_33, ex1_33⟩ : ∃ y : Int32, y = x1p70 + Int32.ofInt 1 := ⟨_, rfl⟩
      have h := kb_n_s ex1_33 h
      refine lv_iinc (v := x1_33) (lv' := [(1, .int x1_33), (4, .long x4_20), (2, .long x2_18), (0, .ref h_this)]) hx hb kdX5_compress64_161 hl (k := 3) rfl ex1_33.symm (by decide) rfl (fun ls hl => ?_)
      refine lv_goto (tgt := 70) hx hb kdX5_compress64_164 (by decide) ?_
      obtain rfl := Option.some.inj h
      exact ih x1_33 f_32 r ho _ _ _ hP hD hS (lv_sub hl [3, 0] rfl) hk0
set_option maxHeartbeats 4000000 in
set_option maxRecDepth 100000 in
theorem klX5_compress64_234 {p : Program} {l : Launch} {e : Env} {s : State} {m : MethodId} {args : Array Value} {below : List Frame} {meth : Method} {c : Code} {cells slots : Nat} {Q : State → Prop} {D : va_G} {cB cI cL cBB cII cSh : ClassId} {A : Nat → Prop} (C0 : CallFix p m c prog_8_method_33_code 22 s args kwA kRX5) (hlocks : meth.locks = false) (hK : va_K D kCl (kb_T cB cI cL cBB cII cSh) s) (hN : kb_N s) (hA : ∀ q, s.heap.size ≤ q → A q) (hcR : cells ≤ krX5_compress64.cells) (hsR : slots ≤ krX5_compress64.slots) (h_this : Nat) (a_this : Nat → Nat) (this_taped : Int32) (this_code : Int32) (this_kind : Int32) (this_rate : Int32) (this_filled : Int32) (this_total : Int64) (this_bitAt : Int32) (this_k : Int32) (this_e1 : Int32) (this_du : Int32) (this_dv : Int32) (f_this_cubes : Nat → Int64) (f_this_state : Nat → Int64) (f_this_wordsp70_35 : Nat → Int64) (f_this_block : Nat → Int32) :
    ∀ (fuel : Nat) (x1p234 : Int64) (x3p234 : Int64) (x5p234 : Int64) (x7p234 : Int64) (x9p234 : Int64) (x11p234 : Int64) (x13p234 : Int64) (x15p234 : Int64) (x17p234 : Int32) (r : Int64 × Int64 × Int64 × Int64 × Int64 × Int64 × Int64 × Int64 × Int32), kb_w (fun u : Int64 × Int64 × Int64 × Int64 × Int64 × Int64 × Int64 × Int64 × Int32 => kSX5_compress64_234 f_this_cubes f_this_wordsp70_35 u.1 u.2.1 u.2.2.1 u.2.2.2.1 u.2.2.2.2.1 u.2.2.2.2.2.1 u.2.2.2.2.2.2.1 u.2.2.2.2.2.2.2.1 u.2.2.2.2.2.2.2.2) fuel (x1p234, x3p234, x5p234, x7p234, x9p234, x11p234, x13p234, x15p234, x17p234) = some r → ∀ (H : Heap) (locs : List Loc) (ls : Array Slot), va_P D kCl (kWX5_compress64 cB cI cL cBB cII cSh h_this a_this this_taped this_code this_kind this_rate this_filled this_total this_bitAt this_k this_e1 this_du this_dv f_this_cubes f_this_state f_this_wordsp70_35 f_this_block) H → va_D A (kWX5_compress64 cB cI cL cBB cII cSh h_this a_this this_taped this_code this_kind this_rate this_filled this_total this_bitAt this_k this_e1 this_du this_dv f_this_cubes f_this_state f_this_wordsp70_35 f_this_block) → va_S A s.heap H locs → lv_has ls 22 [(0, .ref h_this), (1, .long x1p234), (3, .long x3p234), (5, .long x5p234), (7, .long x7p234), (9, .long x9p234), (11, .long x11p234), (13, .long x13p234), (15, .long x15p234), (17, .int x17p234)] → (∀ (x1p234' : Int64) (x3p234' : Int64) (x5p234' : Int64) (x7p234' : Int64) (x9p234' : Int64) (x11p234' : Int64) (x13p234' : Int64) (x15p234' : Int64) (x17p234' : Int32), r = (x1p234', x3p234', x5p234', x7p234', x9p234', x11p234', x13p234', x15p234', x17p234') → ∀ (H : Heap) (locs : List Loc) (ls : Array Slot), va_P D kCl (kWX5_compress64 cB cI cL cBB cII cSh h_this a_this this_taped this_code this_kind this_rate this_filled this_total this_bitAt this_k this_e1 this_du this_dv f_this_cubes f_this_state f_this_wordsp70_35 f_this_block) H → va_D A (kWX5_compress64 cB cI cL cBB cII cSh h_this a_this this_taped this_code this_kind this_rate this_filled this_total this_bitAt this_k this_e1 this_du this_dv f_this_cubes f_this_state f_this_wordsp70_35 f_this_block) → va_S A s.heap H locs → lv_has ls 22 [(0, .ref h_this), (1, .long x1p234'), (3, .long x3p234'), (5, .long x5p234'), (7, .long x7p234'), (9, .long x9p234'), (11, .long x11p234'), (13, .long x13p234'), (15, .long x15p234'), (17, .int x17p234')] → W p l e krX5_compress64 s m args below meth c H locs cells slots Q (F0 m 377 ls [])) → W p l e krX5_compress64 s m args below meth c H locs cells slots Q (F0 m 234 ls []) := by
  obtain ⟨hx, hb, hml, hown, hts⟩ := id C0
  intro fuel
  induction fuel with
  | zero =>
    intro x1p234 x3p234 x5p234 x7p234 x9p234 x11p234 x13p234 x15p234 x17p234 r h
    exact absurd h (kb_w_z _ _ _)
  | succ fuel ih =>
    intro x1p234 x3p234 x5p234 x7p234 x9p234 x11p234 x13p234 x15p234 x17p234 r h H locs ls hP hD hS hl hk0
    obtain ⟨o, h, ho⟩ := kb_w_s h
    have h : kSX5_compress64_234 f_this_cubes f_this_wordsp70_35 x1p234 x3p234 x5p234 x7p234 x9p234 x11p234 x13p234 x15p234 x17p234 = some o := h
    unfold kSX5_compress64_234 at h
    refine lv_iload hx hb kdX5_compress64_234 (lv_at hl 9 rfl) ?_
    refine lv_bipush (v := 80) hx hb kdX5_compress64_236 (by decide) ?_
    refine lv_icmp_ge (tgt := 377) hx hb kdX5_compress64_238 (by decide) (fun c_44 => ?_) (fun c_44 => ?_)
    · have h := kb_b_t c_44 h
      obtain rfl := Option.some.inj h
      exact hk0 x1p234 x3p234 x5p234 x7p234 x9p234 x11p234 x13p234 x15p234 x17p234 ho.symm _ _ _ hP hD hS (lv_sub hl [0, 1, 2, 3, 4, 5, 6, 7, 8, 9] rfl)
    · have h := kb_b_f c_44 h
      refine lv_lload hx hb kdX5_compress64_241 (lv_at hl 8 rfl) ?_
      refine lv_lload hx hb kdX5_compress64_243 (lv_at hl 5 rfl) ?_
      refine lv_bipush (v := 14) hx hb kdX5_compress64_245 (by decide) ?_
      obtain ⟨u_46, hu_46, h⟩ := kb_o_s h
      obtain ⟨r_45, rfl⟩ : ∃ z, z = u_46 := ⟨_, rfl⟩
      try dsimp only at h
      have hC := (show ([] : List Nat).map (fun i : Nat => (kWX5_compress64 cB cI cL cBB cII cSh h_this a_this this_taped this_code this_kind this_rate this_filled this_total this_bitAt this_k this_e1 this_du this_dv f_this_cubes f_this_state f_this_wordsp70_35 f_this_block)[i]?) = List.map some (kWX5_right cB cI cL cBB cII cSh) from rfl)
      have hPc := kb_Psub hP ([] : List Nat) hC
      have hDc := kb_Dsub hD ([] : List Nat) hC (by simp [kb_nd])
      refine kb_call0 (va_runS (As := [.long x9p234, .int (14 : Int32)]) (rest := [.long x15p234]) C0 (kcX5_right l D cB cI cL cBB cII cSh  _ x9p234 (14 : Int32) r_45 hu_46) (va_cwS 2 hts (kb_gS km_673 km_674 km_6 km_675) rfl rfl rfl (by decide +kernel) ⟨Nat.le_of_ble_eq_true rfl, Nat.le_of_ble_eq_true rfl⟩) ⟨kb_P_bl, (fun U hU hW => ⟨rfl, by rw [hU], by rw [hU]; exact hPc, va_K.moved hW.alike hK, kb_N_to hW hN, hDc.weaken (fun _ _ _ _ => trivial)⟩)⟩ rfl rfl hl.1 rfl (lv_room (Nat.le_of_ble_eq_true rfl)) kdX5_compress64_247 ⟨hcR, hsR⟩) hP hD hS hA ([] : List Nat) hC rfl (fun H locs hP hD hS => ?_)
      have hP : va_P D kCl (kWX5_compress64 cB cI cL cBB cII cSh h_this a_this this_taped this_code this_kind this_rate this_filled this_total this_bitAt this_k this_e1 this_du this_dv f_this_cubes f_this_state f_this_wordsp70_35 f_this_block) H := hP
      have hD : va_D A (kWX5_compress64 cB cI cL cBB cII cSh h_this a_this this_taped this_code this_kind this_rate this_filled this_total this_bitAt this_k this_e1 this_du this_dv f_this_cubes f_this_state f_this_wordsp70_35 f_this_block) := hD
      refine lv_lload hx hb kdX5_compress64_250 (lv_at hl 5 rfl) ?_
      refine lv_bipush (v := 18) hx hb kdX5_compress64_252 (by decide) ?_
      obtain ⟨u_48, hu_48, h⟩ := kb_o_s h
      obtain ⟨r_47, rfl⟩ : ∃ z, z = u_48 := ⟨_, rfl⟩
      try dsimp only at h
      have hC := (show ([] : List Nat).map (fun i : Nat => (kWX5_compress64 cB cI cL cBB cII cSh h_this a_this this_taped this_code this_kind this_rate this_filled this_total this_bitAt this_k this_e1 this_du this_dv f_this_cubes f_this_state f_this_wordsp70_35 f_this_block)[i]?) = List.map some (kWX5_right cB cI cL cBB cII cSh) from rfl)
      have hPc := kb_Psub hP ([] : List Nat) hC
      have hDc := kb_Dsub hD ([] : List Nat) hC (by simp [kb_nd])
      refine kb_call0 (va_runS (As := [.long x9p234, .int (18 : Int32)]) (rest := [.long r_45, .long x15p234]) C0 (kcX5_right l D cB cI cL cBB cII cSh  _ x9p234 (18 : Int32) r_47 hu_48) (va_cwS 2 hts (kb_gS km_673 km_674 km_6 km_675) rfl rfl rfl (by decide +kernel) ⟨Nat.le_of_ble_eq_true rfl, Nat.le_of_ble_eq_true rfl⟩) ⟨kb_P_bl, (fun U hU hW => ⟨rfl, by rw [hU], by rw [hU]; exact hPc, va_K.moved hW.alike hK, kb_N_to hW hN, hDc.weaken (fun _ _ _ _ => trivial)⟩)⟩ rfl rfl hl.1 rfl (lv_room (Nat.le_of_ble_eq_true rfl)) kdX5_compress64_254 ⟨hcR, hsR⟩) hP hD hS hA ([] : List Nat) hC rfl (fun H locs hP hD hS => ?_)
      have hP : va_P D kCl (kWX5_compress64 cB cI cL cBB cII cSh h_this a_this this_taped this_code this_kind this_rate this_filled this_total this_bitAt this_k this_e1 this_du this_dv f_this_cubes f_this_state f_this_wordsp70_35 f_this_block) H := hP
      have hD : va_D A (kWX5_compress64 cB cI cL cBB cII cSh h_this a_this this_taped this_code this_kind this_rate this_filled this_total this_bitAt this_k this_e1 this_du this_dv f_this_cubes f_this_state f_this_wordsp70_35 f_this_block) := hD
      refine lv_lxor hx hb kdX5_compress64_257 ?_
      refine lv_lload hx hb kdX5_compress64_258 (lv_at hl 5 rfl) ?_
      refine lv_bipush (v := 41) hx hb kdX5_compress64_260 (by decide) ?_
      obtain ⟨u_50, hu_50, h⟩ := kb_o_s h
      obtain ⟨r_49, rfl⟩ : ∃ z, z = u_50 := ⟨_, rfl⟩
      try dsimp only at h
      have hC := (show ([] : List Nat).map (fun i : Nat => (kWX5_compress64 cB cI cL cBB cII cSh h_this a_this this_taped this_code this_kind this_rate this_filled this_total this_bitAt this_k this_e1 this_du this_dv f_this_cubes f_this_state f_this_wordsp70_35 f_this_block)[i]?) = List.map some (kWX5_right cB cI cL cBB cII cSh) from rfl)
      have hPc := kb_Psub hP ([] : List Nat) hC
      have hDc := kb_Dsub hD ([] : List Nat) hC (by simp [kb_nd])
      refine kb_call0 (va_runS (As := [.long x9p234, .int (41 : Int32)]) (rest := [.long (r_45 ^^^ r_47), .long x15p234]) C0 (kcX5_right l D cB cI cL cBB cII cSh  _ x9p234 (41 : Int32) r_49 hu_50) (va_cwS 2 hts (kb_gS km_673 km_674 km_6 km_675) rfl rfl rfl (by decide +kernel) ⟨Nat.le_of_ble_eq_true rfl, Nat.le_of_ble_eq_true rfl⟩) ⟨kb_P_bl, (fun U hU hW => ⟨rfl, by rw [hU], by rw [hU]; exact hPc, va_K.moved hW.alike hK, kb_N_to hW hN, hDc.weaken (fun _ _ _ _ => trivial)⟩)⟩ rfl rfl hl.1 rfl (lv_room (Nat.le_of_ble_eq_true rfl)) kdX5_compress64_262 ⟨hcR, hsR⟩) hP hD hS hA ([] : List Nat) hC rfl (fun H locs hP hD hS => ?_)
      have hP : va_P D kCl (kWX5_compress64 cB cI cL cBB cII cSh h_this a_this this_taped this_code this_kind this_rate this_filled this_total this_bitAt this_k this_e1 this_du this_dv f_this_cubes f_this_state f_this_wordsp70_35 f_this_block) H := hP
      have hD : va_D A (kWX5_compress64 cB cI cL cBB cII cSh h_this a_this this_taped this_code this_kind this_rate this_filled this_total this_bitAt this_k this_e1 this_du this_dv f_this_cubes f_this_state f_this_wordsp70_35 f_this_block) := hD
      refine lv_lxor hx hb kdX5_compress64_265 ?_
      refine lv_ladd hx hb kdX5_compress64_266 ?_
      refine lv_lload hx hb kdX5_compress64_267 (lv_at hl 5 rfl) ?_
      refine lv_lload hx hb kdX5_compress64_269 (lv_at hl 6 rfl) ?_
      refine lv_land hx hb kdX5_compress64_271 ?_
      refine lv_lload hx hb kdX5_compress64_272 (lv_at hl 5 rfl) ?_
      refine lv_ldc2 (v := -1) hx hb hown (hts _ km_661) kdX5_compress64_274 ?_
      refine lv_lxor hx hb kdX5_compress64_277 ?_
      refine lv_lload hx hb kdX5_compress64_278 (lv_at hl 7 rfl) ?_
      refine lv_land hx hb kdX5_compress64_280 ?_
      refine lv_lxor hx hb kdX5_compress64_281 ?_
      refine lv_ladd hx hb kdX5_compress64_282 ?_
      refine lv_aload_n hx hb kdX5_compress64_283 rfl (lv_at hl 0 rfl) ?_
      refine va_get (ci := 5) (v := .ref (a_this 6)) (C := kRX5) (T := kTX5) (N := 35) hx hb hts kinX5 hown hK hP 0 rfl rfl 6 (by decide) (hts _ km_687) (fun _ h9 => h9) rfl kdX5_compress64_284 ?_
      refine lv_iload hx hb kdX5_compress64_287 (lv_at hl 9 rfl) ?_
      obtain ⟨g_51, h⟩ := kb_g_s h
      refine va_lald hx hb hK hP 1 2 rfl rfl (kb_in_v g_51) kdX5_compress64_289 ?_
      refine lv_ladd hx hb kdX5_compress64_290 ?_
      refine lv_aload_n hx hb kdX5_compress64_291 rfl (lv_at hl 0 rfl) ?_
      refine va_get (ci := 5) (v := .ref (a_this 16)) (C := kRX5) (T := kTX5) (N := 35) hx hb hts kinX5 hown hK hP 0 rfl rfl 16 (by decide) (hts _ km_697) (fun _ h9 => h9) rfl kdX5_compress64_292 ?_
      refine lv_iload hx hb kdX5_compress64_295 (lv_at hl 9 rfl) ?_
      obtain ⟨g_52, h⟩ := kb_g_s h
      refine va_lald hx hb hK hP 3 2 rfl rfl (kb_in_v g_52) kdX5_compress64_297 ?_
      refine lv_ladd hx hb kdX5_compress64_298 ?_
      refine lv_topl (fun x18_53 ex18_53 => ?_)
      have h := kb_n_s ex18_53 h
      refine lv_lstore (lv' := [(18, .long x18_53), (0, .ref h_this), (1, .long x1p234), (3, .long x3p234), (5, .long x5p234), (7, .long x7p234), (9, .long x9p234), (11, .long x11p234), (13, .long x13p234), (15, .long x15p234), (17, .int x17p234)]) hx hb kdX5_compress64_299 hl (by decide) rfl (fun ls hl => ?_)
      refine lv_lload_n hx hb kdX5_compress64_301 rfl (lv_at hl 2 rfl) ?_
      refine lv_bipush (v := 28) hx hb kdX5_compress64_302 (by decide) ?_
      obtain ⟨u_55, hu_55, h⟩ := kb_o_s h
      obtain ⟨r_54, rfl⟩ : ∃ z, z = u_55 := ⟨_, rfl⟩
      try dsimp only at h
      have hC := (show ([] : List Nat).map (fun i : Nat => (kWX5_compress64 cB cI cL cBB cII cSh h_this a_this this_taped this_code this_kind this_rate this_filled this_total this_bitAt this_k this_e1 this_du this_dv f_this_cubes f_this_state f_this_wordsp70_35 f_this_block)[i]?) = List.map some (kWX5_right cB cI cL cBB cII cSh) from rfl)
      have hPc := kb_Psub hP ([] : List Nat) hC
      have hDc := kb_Dsub hD ([] : List Nat) hC (by simp [kb_nd])
      refine kb_call0 (va_runS (As := [.long x1p234, .int (28 : Int32)]) (rest := []) C0 (kcX5_right l D cB cI cL cBB cII cSh  _ x1p234 (28 : Int32) r_54 hu_55) (va_cwS 2 hts (kb_gS km_673 km_674 km_6 km_675) rfl rfl rfl (by decide +kernel) ⟨Nat.le_of_ble_eq_true rfl, Nat.le_of_ble_eq_true rfl⟩) ⟨kb_P_bl, (fun U hU hW => ⟨rfl, by rw [hU], by rw [hU]; exact hPc, va_K.moved hW.alike hK, kb_N_to hW hN, hDc.weaken (fun _ _ _ _ => trivial)⟩)⟩ rfl rfl hl.1 rfl (lv_room (Nat.le_of_ble_eq_true rfl)) kdX5_compress64_304 ⟨hcR, hsR⟩) hP hD hS hA ([] : List Nat) hC rfl (fun H locs hP hD hS => ?_)
      have hP : va_P D kCl (kWX5_compress64 cB cI cL cBB cII cSh h_this a_this this_taped this_code this_kind this_rate this_filled this_total this_bitAt this_k this_e1 this_du this_dv f_this_cubes f_this_state f_this_wordsp70_35 f_this_block) H := hP
      have hD : va_D A (kWX5_compress64 cB cI cL cBB cII cSh h_this a_this this_taped this_code this_kind this_rate this_filled this_total this_bitAt this_k this_e1 this_du this_dv f_this_cubes f_this_state f_this_wordsp70_35 f_this_block) := hD
      refine lv_lload_n hx hb kdX5_compress64_307 rfl (lv_at hl 2 rfl) ?_
      refine lv_bipush (v := 34) hx hb kdX5_compress64_308 (by decide) ?_
      obtain ⟨u_57, hu_57, h⟩ := kb_o_s h
      obtain ⟨r_56, rfl⟩ : ∃ z, z = u_57 := ⟨_, rfl⟩
      try dsimp only at h
      have hC := (show ([] : List Nat).map (fun i : Nat => (kWX5_compress64 cB cI cL cBB cII cSh h_this a_this this_taped this_code this_kind this_rate this_filled this_total this_bitAt this_k this_e1 this_du this_dv f_this_cubes f_this_state f_this_wordsp70_35 f_this_block)[i]?) = List.map some (kWX5_right cB cI cL cBB cII cSh) from rfl)
      have hPc := kb_Psub hP ([] : List Nat) hC
      have hDc := kb_Dsub hD ([] : List Nat) hC (by simp [kb_nd])
      refine kb_call0 (va_runS (As := [.long x1p234, .int (34 : Int32)]) (rest := [.long r_54]) C0 (kcX5_right l D cB cI cL cBB cII cSh  _ x1p234 (34 : Int32) r_56 hu_57) (va_cwS 2 hts (kb_gS km_673 km_674 km_6 km_675) rfl rfl rfl (by decide +kernel) ⟨Nat.le_of_ble_eq_true rfl, Nat.le_of_ble_eq_true rfl⟩) ⟨kb_P_bl, (fun U hU hW => ⟨rfl, by rw [hU], by rw [hU]; exact hPc, va_K.moved hW.alike hK, kb_N_to hW hN, hDc.weaken (fun _ _ _ _ => trivial)⟩)⟩ rfl rfl hl.1 rfl (lv_room (Nat.le_of_ble_eq_true rfl)) kdX5_compress64_310 ⟨hcR, hsR⟩) hP hD hS hA ([] : List Nat) hC rfl (fun H locs hP hD hS => ?_)
      have hP : va_P D kCl (kWX5_compress64 cB cI cL cBB cII cSh h_this a_this this_taped this_code this_kind this_rate this_filled this_total this_bitAt this_k this_e1 this_du this_dv f_this_cubes f_this_state f_this_wordsp70_35 f_this_block) H := hP
      have hD : va_D A (kWX5_compress64 cB cI cL cBB cII cSh h_this a_this this_taped this_code this_kind this_rate this_filled this_total this_bitAt this_k this_e1 this_du this_dv f_this_cubes f_this_state f_this_wordsp70_35 f_this_block) := hD
      refine lv_lxor hx hb kdX5_compress64_313 ?_
      refine lv_lload_n hx hb kdX5_compress64_314 rfl (lv_at hl 2 rfl) ?_
      refine lv_bipush (v := 39) hx hb kdX5_compress64_315 (by decide) ?_
      obtain ⟨u_59, hu_59, h⟩ := kb_o_s h
      obtain ⟨r_58, rfl⟩ : ∃ z, z = u_59 := ⟨_, rfl⟩
      try dsimp only at h
      have hC := (show ([] : List Nat).map (fun i : Nat => (kWX5_compress64 cB cI cL cBB cII cSh h_this a_this this_taped this_code this_kind this_rate this_filled this_total this_bitAt this_k this_e1 this_du this_dv f_this_cubes f_this_state f_this_wordsp70_35 f_this_block)[i]?) = List.map some (kWX5_right cB cI cL cBB cII cSh) from rfl)
      have hPc := kb_Psub hP ([] : List Nat) hC
      have hDc := kb_Dsub hD ([] : List Nat) hC (by simp [kb_nd])
      refine kb_call0 (va_runS (As := [.long x1p234, .int (39 : Int32)]) (rest := [.long (r_54 ^^^ r_56)]) C0 (kcX5_right l D cB cI cL cBB cII cSh  _ x1p234 (39 : Int32) r_58 hu_59) (va_cwS 2 hts (kb_gS km_673 km_674 km_6 km_675) rfl rfl rfl (by decide +kernel) ⟨Nat.le_of_ble_eq_true rfl, Nat.le_of_ble_eq_true rfl⟩) ⟨kb_P_bl, (fun U hU hW => ⟨rfl, by rw [hU], by rw [hU]; exact hPc, va_K.moved hW.alike hK, kb_N_to hW hN, hDc.weaken (fun _ _ _ _ => trivial)⟩)⟩ rfl rfl hl.1 rfl (lv_room (Nat.le_of_ble_eq_true rfl)) kdX5_compress64_317 ⟨hcR, hsR⟩) hP hD hS hA ([] : List Nat) hC rfl (fun H locs hP hD hS => ?_)
      have hP : va_P D kCl (kWX5_compress64 cB cI cL cBB cII cSh h_this a_this this_taped this_code this_kind this_rate this_filled this_total this_bitAt this_k this_e1 this_du this_dv f_this_cubes f_this_state f_this_wordsp70_35 f_this_block) H := hP
      have hD : va_D A (kWX5_compress64 cB cI cL cBB cII cSh h_this a_this this_taped this_code this_kind this_rate this_filled this_total this_bitAt this_k this_e1 this_du this_dv f_this_cubes f_this_state f_this_wordsp70_35 f_this_block) := hD
      refine lv_lxor hx hb kdX5_compress64_320 ?_
      refine lv_lload_n hx hb kdX5_compress64_321 rfl (lv_at hl 2 rfl) ?_
      refine lv_lload_n hx hb kdX5_compress64_322 rfl (lv_at hl 3 rfl) ?_
      refine lv_land hx hb kdX5_compress64_323 ?_
      refine lv_lload_n hx hb kdX5_compress64_324 rfl (lv_at hl 2 rfl) ?_
      refine lv_lload hx hb kdX5_compress64_325 (lv_at hl 4 rfl) ?_
      refine lv_land hx hb kdX5_compress64_327 ?_
      refine lv_lxor hx hb kdX5_compress64_328 ?_
      refine lv_lload_n hx hb kdX5_compress64_329 rfl (lv_at hl 3 rfl) ?_
      refine lv_lload hx hb kdX5_compress64_330 (lv_at hl 4 rfl) ?_
      refine lv_land hx hb kdX5_compress64_332 ?_
      refine lv_lxor hx hb kdX5_compress64_333 ?_
      refine lv_ladd hx hb kdX5_compress64_334 ?_
      refine lv_topl (fun x20_60 ex20_60 => ?_)
      have h := kb_n_s ex20_60 h
      refine lv_lstore (lv' := [(20, .long x20_60), (18, .long x18_53), (0, .ref h_this), (1, .long x1p234), (3, .long x3p234), (5, .long x5p234), (7, .long x7p234), (9, .long x9p234), (11, .long x11p234), (13, .long x13p234), (15, .long x15p234), (17, .int x17p234)]) hx hb kdX5_compress64_335 hl (by decide) rfl (fun ls hl => ?_)
      refine lv_lload hx hb kdX5_compress64_337 (lv_at hl 9 rfl) ?_
      refine lv_lstore (lv' := [(15, .long x13p234), (20, .long x20_60), (18, .long x18_53), (0, .ref h_this), (1, .long x1p234), (3, .long x3p234), (5, .long x5p234), (7, .long x7p234), (9, .long x9p234), (11, .long x11p234), (13, .long x13p234), (17, .int x17p234)]) hx hb kdX5_compress64_339 hl (by decide) rfl (fun ls hl => ?_)
      refine lv_lload hx hb kdX5_compress64_341 (lv_at hl 9 rfl) ?_
      refine lv_lstore (lv' := [(13, .long x11p234), (15, .long x13p234), (20, .long x20_60), (18, .long x18_53), (0, .ref h_this), (1, .long x1p234), (3, .long x3p234), (5, .long x5p234), (7, .long x7p234), (9, .long x9p234), (11, .long x11p234), (17, .int x17p234)]) hx hb kdX5_compress64_343 hl (by decide) rfl (fun ls hl => ?_)
      refine lv_lload hx hb kdX5_compress64_345 (lv_at hl 9 rfl) ?_
      refine lv_lstore (lv' := [(11, .long x9p234), (13, .long x11p234), (15, .long x13p234), (20, .long x20_60), (18, .long x18_53), (0, .ref h_this), (1, .long x1p234), (3, .long x3p234), (5, .long x5p234), (7, .long x7p234), (9, .long x9p234), (17, .int x17p234)]) hx hb kdX5_compress64_347 hl (by decide) rfl (fun ls hl => ?_)
      refine lv_lload hx hb kdX5_compress64_349 (lv_at hl 9 rfl) ?_
      refine lv_lload hx hb kdX5_compress64_351 (lv_at hl 4 rfl) ?_
      refine lv_ladd hx hb kdX5_compress64_353 ?_
      refine lv_topl (fun x9_61 ex9_61 => ?_)
      have h := kb_n_s ex9_61 h
      refine lv_lstore (lv' := [(9, .long x9_61), (11, .long x9p234), (13, .long x11p234), (15, .long x13p234), (20, .long x20_60), (18, .long x18_53), (0, .ref h_this), (1, .long x1p234), (3, .long x3p234), (5, .long x5p234), (7, .long x7p234), (17, .int x17p234)]) hx hb kdX5_compress64_354 hl (by decide) rfl (fun ls hl => ?_)
      refine lv_lload hx hb kdX5_compress64_356 (lv_at hl 9 rfl) ?_
      refine lv_lstore (lv' := [(7, .long x5p234), (9, .long x9_61), (11, .long x9p234), (13, .long x11p234), (15, .long x13p234), (20, .long x20_60), (18, .long x18_53), (0, .ref h_this), (1, .long x1p234), (3, .long x3p234), (5, .long x5p234), (17, .int x17p234)]) hx hb kdX5_compress64_358 hl (by decide) rfl (fun ls hl => ?_)
      refine lv_lload_n hx hb kdX5_compress64_360 rfl (lv_at hl 9 rfl) ?_
      refine lv_lstore (lv' := [(5, .long x3p234), (7, .long x5p234), (9, .long x9_61), (11, .long x9p234), (13, .long x11p234), (15, .long x13p234), (20, .long x20_60), (18, .long x18_53), (0, .ref h_this), (1, .long x1p234), (3, .long x3p234), (17, .int x17p234)]) hx hb kdX5_compress64_361 hl (by decide) rfl (fun ls hl => ?_)
      refine lv_lload_n hx hb kdX5_compress64_363 rfl (lv_at hl 9 rfl) ?_
      refine lv_lstore_n (lv' := [(3, .long x1p234), (5, .long x3p234), (7, .long x5p234), (9, .long x9_61), (11, .long x9p234), (13, .long x11p234), (15, .long x13p234), (20, .long x20_60), (18, .long x18_53), (0, .ref h_this), (1, .long x1p234), (17, .int x17p234)]) hx hb kdX5_compress64_364 rfl hl (by decide) rfl (fun ls hl => ?_)
      refine lv_lload hx hb kdX5_compress64_365 (lv_at hl 8 rfl) ?_
      refine lv_lload hx hb kdX5_compress64_367 (lv_at hl 7 rfl) ?_
      refine lv_ladd hx hb kdX5_compress64_369 ?_
      refine lv_topl (fun x1_62 ex1_62 => ?_)
      have h := kb_n_s ex1_62 h
      refine lv_lstore_n (lv' := [(1, .long x1_62), (3, .long x1p234), (5, .long x3p234), (7, .long x5p234), (9, .long x9_61), (11, .long x9p234), (13, .long x11p234), (15, .long x13p234), (20, .long x20_60), (18, .long x18_53), (0, .ref h_this), (17, .int x17p234)]) hx hb kdX5_compress64_370 rfl hl (by decide) rfl (fun ls hl => ?_)
      obtain ⟨x17_63, ex17_63⟩ : ∃ y : Int32, y = x17p234 + Int32.ofInt 1 := ⟨_, rfl⟩
      have h := kb_n_s ex17_63 h
      refine lv_iinc (v := x17_63) (lv' := [(17, .int x17_63), (1, .long x1_62), (3, .long x1p234), (5, .long x3p234), (7, .long x5p234), (9, .long x9_61), (11, .long x9p234), (13, .long x11p234), (15, .long x13p234), (20, .long x20_60), (18, .long x18_53), (0, .ref h_this)]) hx hb kdX5_compress64_371 hl (k := 11) rfl ex17_63.symm (by decide) rfl (fun ls hl => ?_)
      refine lv_goto (tgt := 234) hx hb kdX5_compress64_374 (by decide) ?_
      obtain rfl := Option.some.inj h
      exact ih x1_62 x1p234 x3p234 x5p234 x9_61 x9p234 x11p234 x13p234 x17_63 r ho _ _ _ hP hD hS (lv_sub hl [11, 1, 2, 3, 4, 5, 6, 7, 8, 0] rfl) hk0
set_option maxHeartbeats 4000000 in
set_option maxRecDepth 100000 in
theorem kcX5_compress64 (l : Launch) (D : va_G) (cB cI cL cBB cII cSh : ClassId) (h_this : Nat) (a_this : Nat → Nat) (sz : Nat) (this_taped : Int32) (this_code : Int32) (this_kind : Int32) (this_rate : Int32) (this_filled : Int32) (this_total : Int64) (this_bitAt : Int32) (this_k : Int32) (this_e1 : Int32) (this_du : Int32) (this_dv : Int32) (f_this_cubes : Nat → Int64) (f_this_state : Nat → Int64) (f_this_words : Nat → Int64) (f_this_block : Nat → Int32) (out : (Nat → Int64) × (Nat → Int64)) (h : kFX5_compress64 f_this_cubes f_this_state f_this_words f_this_block = some out) : Met l kyX5_compress64 kwX5_compress64 krX5_compress64 (kb_P D kCl (kb_T cB cI cL cBB cII cSh) [.ref h_this] (kWX5_compress64 cB cI cL cBB cII cSh h_this a_this this_taped this_code this_kind this_rate this_filled this_total this_bitAt this_k this_e1 this_du this_dv f_this_cubes f_this_state f_this_words f_this_block) sz) (kb_Q D kCl (kb_T cB cI cL cBB cII cSh) (va_A (kWX5_compress64 cB cI cL cBB cII cSh h_this a_this this_taped this_code this_kind this_rate this_filled this_total this_bitAt this_k this_e1 this_du this_dv f_this_cubes f_this_state f_this_words f_this_block) sz) none (kWX5_compress64 cB cI cL cBB cII cSh h_this a_this this_taped this_code this_kind this_rate this_filled this_total this_bitAt this_k this_e1 this_du this_dv f_this_cubes out.1 out.2 f_this_block)) 0 0 (va_A (kWX5_compress64 cB cI cL cBB cII cSh h_this a_this this_taped this_code this_kind this_rate this_filled this_total this_bitAt this_k this_e1 this_du this_dv f_this_cubes f_this_state f_this_words f_this_block) sz) := by
  refine Met.ofW (cc := prog_8_method_33_code) (maxL := 22) (ret := none) (by decide) rfl ?_
  intro p e s m args below meth c s₁ B hml hv
  obtain ⟨rfl, hsz, hP, hK, hN, hD0⟩ := hv
  have hx := B.exec
  have hb := B.bytes
  have hr := B.returns
  have hts0 := atoms_spec (ws := kwX5_compress64) B.pre
  have hts : ∀ w ∈ kwA, w.before _ s = true := fun w h => hts0 w (List.mem_cons_of_mem _ h)
  have hown : s.vm.findClass kRX5 = some m.cls := findClass_of_methodNamed B.named
  have hlocks := B.notSynchronized
  subst hsz
  have hD := hD0.self (sz := s.heap.size)
  generalize hAe : va_A (kWX5_compress64 cB cI cL cBB cII cSh h_this a_this this_taped this_code this_kind this_rate this_filled this_total this_bitAt this_k this_e1 this_du this_dv f_this_cubes f_this_state f_this_words f_this_block) s.heap.size = A at hD ⊢
  have hA : ∀ q : Nat, s.heap.size ≤ q → A q := fun q h => by rw [← hAe]; exact Or.inr h
  have hS : va_S A s.heap s.heap [] := va_S.rf
  have C0 : CallFix p m c prog_8_method_33_code 22 s _ kwA kRX5 := ⟨hx, hb, hml, hown, hts⟩
  have hl := lv_entry ([.ref h_this]) (n := 22) (Nat.le_of_ble_eq_true rfl)
  rw [lg_entry_eq]
  generalize (lg_sl ([.ref h_this]) ++ List.replicate (22 - (lg_sl ([.ref h_this])).length) Slot.unset).toArray = ls at hl ⊢
  have hl : lv_has ls 22 [(0, .ref h_this)] := hl
  unfold kFX5_compress64 at h
  refine lv_iconst (v := 0) hx hb kdX5_compress64_0 (by decide) ?_
  refine lv_istore_n (lv' := [(1, .int (0 : Int32)), (0, .ref h_this)]) hx hb kdX5_compress64_1 rfl hl (by decide) rfl (fun ls hl => ?_)
  obtain ⟨r_83, hr_83, h⟩ := kb_o_s h
  refine klX5_compress64_2 C0 hlocks hK hN hA (by decide) (by decide) h_this a_this this_taped this_code this_kind this_rate this_filled this_total this_bitAt this_k this_e1 this_du this_dv f_this_cubes f_this_state f_this_block 100000 (0 : Int32) f_this_words r_83 hr_83 _ _ _ hP hD hS (lv_sub hl [1, 0] rfl) (fun x1p2_14 f_this_wordsp2_15 er_83 H locs ls hP hD hS hl => ?_)
  subst er_83
  try dsimp only at h
  refine lv_bipush (v := 16) hx hb kdX5_compress64_67 (by decide) ?_
  refine lv_istore_n (lv' := [(1, .int (16 : Int32)), (0, .ref h_this)]) hx hb kdX5_compress64_69 rfl hl (by decide) rfl (fun ls hl => ?_)
  obtain ⟨r_82, hr_82, h⟩ := kb_o_s h
  refine klX5_compress64_70 C0 hlocks hK hN hA (by decide) (by decide) h_this a_this this_taped this_code this_kind this_rate this_filled this_total this_bitAt this_k this_e1 this_du this_dv f_this_cubes f_this_state f_this_block 100000 (16 : Int32) f_this_wordsp2_15 r_82 hr_82 _ _ _ hP hD hS (lv_sub hl [1, 0] rfl) (fun x1p70_34 f_this_wordsp70_35 er_82 H locs ls hP hD hS hl => ?_)
  subst er_82
  try dsimp only at h
  refine lv_aload_n hx hb kdX5_compress64_167 rfl (lv_at hl 0 rfl) ?_
  refine va_get (ci := 5) (v := .ref (a_this 13)) (C := kRX5) (T := kTX5) (N := 35) hx hb hts kinX5 hown hK hP 0 rfl rfl 13 (by decide) (hts _ km_694) (fun _ h9 => h9) rfl kdX5_compress64_168 ?_
  refine lv_iconst (v := 0) hx hb kdX5_compress64_171 (by decide) ?_
  refine va_lald hx hb hK hP 2 2 rfl rfl (kb_in_v (by decide)) kdX5_compress64_172 ?_
  refine lv_topl (fun x1_36 ex1_36 => ?_)
  have h := kb_n_s ex1_36 h
  refine lv_lstore_n (lv' := [(1, .long x1_36), (0, .ref h_this)]) hx hb kdX5_compress64_173 rfl hl (by decide) rfl (fun ls hl => ?_)
  refine lv_aload_n hx hb kdX5_compress64_174 rfl (lv_at hl 1 rfl) ?_
  refine va_get (ci := 5) (v := .ref (a_this 13)) (C := kRX5) (T := kTX5) (N := 35) hx hb hts kinX5 hown hK hP 0 rfl rfl 13 (by decide) (hts _ km_694) (fun _ h9 => h9) rfl kdX5_compress64_175 ?_
  refine lv_iconst (v := 1) hx hb kdX5_compress64_178 (by decide) ?_
  refine va_lald hx hb hK hP 2 2 rfl rfl (kb_in_v (by decide)) kdX5_compress64_179 ?_
  refine lv_topl (fun x3_37 ex3_37 => ?_)
  have h := kb_n_s ex3_37 h
  refine lv_lstore_n (lv' := [(3, .long x3_37), (1, .long x1_36), (0, .ref h_this)]) hx hb kdX5_compress64_180 rfl hl (by decide) rfl (fun ls hl => ?_)
  refine lv_aload_n hx hb kdX5_compress64_181 rfl (lv_at hl 2 rfl) ?_
  refine va_get (ci := 5) (v := .ref (a_this 13)) (C := kRX5) (T := kTX5) (N := 35) hx hb hts kinX5 hown hK hP 0 rfl rfl 13 (by decide) (hts _ km_694) (fun _ h9 => h9) rfl kdX5_compress64_182 ?_
  refine lv_iconst (v := 2) hx hb kdX5_compress64_185 (by decide) ?_
  refine va_lald hx hb hK hP 2 2 rfl rfl (kb_in_v (by decide)) kdX5_compress64_186 ?_
  refine lv_topl (fun x5_38 ex5_38 => ?_)
  have h := kb_n_s ex5_38 h
  refine lv_lstore (lv' := [(5, .long x5_38), (3, .long x3_37), (1, .long x1_36), (0, .ref h_this)]) hx hb kdX5_compress64_187 hl (by decide) rfl (fun ls hl => ?_)
  refine lv_aload_n hx hb kdX5_compress64_189 rfl (lv_at hl 3 rfl) ?_
  refine va_get (ci := 5) (v := .ref (a_this 13)) (C := kRX5) (T := kTX5) (N := 35) hx hb hts kinX5 hown hK hP 0 rfl rfl 13 (by decide) (hts _ km_694) (fun _ h9 => h9) rfl kdX5_compress64_190 ?_
  refine lv_iconst (v := 3) hx hb kdX5_compress64_193 (by decide) ?_
  refine va_lald hx hb hK hP 2 2 rfl rfl (kb_in_v (by decide)) kdX5_compress64_194 ?_
  refine lv_topl (fun x7_39 ex7_39 => ?_)
  have h := kb_n_s ex7_39 h
  refine lv_lstore (lv' := [(7, .long x7_39), (5, .long x5_38), (3, .long x3_37), (1, .long x1_36), (0, .ref h_this)]) hx hb kdX5_compress64_195 hl (by decide) rfl (fun ls hl => ?_)
  refine lv_aload_n hx hb kdX5_compress64_197 rfl (lv_at hl 4 rfl) ?_
  refine va_get (ci := 5) (v := .ref (a_this 13)) (C := kRX5) (T := kTX5) (N := 35) hx hb hts kinX5 hown hK hP 0 rfl rfl 13 (by decide) (hts _ km_694) (fun _ h9 => h9) rfl kdX5_compress64_198 ?_
  refine lv_iconst (v := 4) hx hb kdX5_compress64_201 (by decide) ?_
  refine va_lald hx hb hK hP 2 2 rfl rfl (kb_in_v (by decide)) kdX5_compress64_202 ?_
  refine lv_topl (fun x9_40 ex9_40 => ?_)
  have h := kb_n_s ex9_40 h
  refine lv_lstore (lv' := [(9, .long x9_40), (7, .long x7_39), (5, .long x5_38), (3, .long x3_37), (1, .long x1_36), (0, .ref h_this)]) hx hb kdX5_compress64_203 hl (by decide) rfl (fun ls hl => ?_)
  refine lv_aload_n hx hb kdX5_compress64_205 rfl (lv_at hl 5 rfl) ?_
  refine va_get (ci := 5) (v := .ref (a_this 13)) (C := kRX5) (T := kTX5) (N := 35) hx hb hts kinX5 hown hK hP 0 rfl rfl 13 (by decide) (hts _ km_694) (fun _ h9 => h9) rfl kdX5_compress64_206 ?_
  refine lv_iconst (v := 5) hx hb kdX5_compress64_209 (by decide) ?_
  refine va_lald hx hb hK hP 2 2 rfl rfl (kb_in_v (by decide)) kdX5_compress64_210 ?_
  refine lv_topl (fun x11_41 ex11_41 => ?_)
  have h := kb_n_s ex11_41 h
  refine lv_lstore (lv' := [(11, .long x11_41), (9, .long x9_40), (7, .long x7_39), (5, .long x5_38), (3, .long x3_37), (1, .long x1_36), (0, .ref h_this)]) hx hb kdX5_compress64_211 hl (by decide) rfl (fun ls hl => ?_)
  refine lv_aload_n hx hb kdX5_compress64_213 rfl (lv_at hl 6 rfl) ?_
  refine va_get (ci := 5) (v := .ref (a_this 13)) (C := kRX5) (T := kTX5) (N := 35) hx hb hts kinX5 hown hK hP 0 rfl rfl 13 (by decide) (hts _ km_694) (fun _ h9 => h9) rfl kdX5_compress64_214 ?_
  refine lv_bipush (v := 6) hx hb kdX5_compress64_217 (by decide) ?_
  refine va_lald hx hb hK hP 2 2 rfl rfl (kb_in_v (by decide)) kdX5_compress64_219 ?_
  refine lv_topl (fun x13_42 ex13_42 => ?_)
  have h := kb_n_s ex13_42 h
  refine lv_lstore (lv' := [(13, .long x13_42), (11, .long x11_41), (9, .long x9_40), (7, .long x7_39), (5, .long x5_38), (3, .long x3_37), (1, .long x1_36), (0, .ref h_this)]) hx hb kdX5_compress64_220 hl (by decide) rfl (fun ls hl => ?_)
  refine lv_aload_n hx hb kdX5_compress64_222 rfl (lv_at hl 7 rfl) ?_
  refine va_get (ci := 5) (v := .ref (a_this 13)) (C := kRX5) (T := kTX5) (N := 35) hx hb hts kinX5 hown hK hP 0 rfl rfl 13 (by decide) (hts _ km_694) (fun _ h9 => h9) rfl kdX5_compress64_223 ?_
  refine lv_bipush (v := 7) hx hb kdX5_compress64_226 (by decide) ?_
  refine va_lald hx hb hK hP 2 2 rfl rfl (kb_in_v (by decide)) kdX5_compress64_228 ?_
  refine lv_topl (fun x15_43 ex15_43 => ?_)
  have h := kb_n_s ex15_43 h
  refine lv_lstore (lv' := [(15, .long x15_43), (13, .long x13_42), (11, .long x11_41), (9, .long x9_40), (7, .long x7_39), (5, .long x5_38), (3, .long x3_37), (1, .long x1_36), (0, .ref h_this)]) hx hb kdX5_compress64_229 hl (by decide) rfl (fun ls hl => ?_)
  refine lv_iconst (v := 0) hx hb kdX5_compress64_231 (by decide) ?_
  refine lv_istore (lv' := [(17, .int (0 : Int32)), (15, .long x15_43), (13, .long x13_42), (11, .long x11_41), (9, .long x9_40), (7, .long x7_39), (5, .long x5_38), (3, .long x3_37), (1, .long x1_36), (0, .ref h_this)]) hx hb kdX5_compress64_232 hl (by decide) rfl (fun ls hl => ?_)
  obtain ⟨r_81, hr_81, h⟩ := kb_o_s h
  refine klX5_compress64_234 C0 hlocks hK hN hA (by decide) (by decide) h_this a_this this_taped this_code this_kind this_rate this_filled this_total this_bitAt this_k this_e1 this_du this_dv f_this_cubes f_this_state f_this_wordsp70_35 f_this_block 100000 x1_36 x3_37 x5_38 x7_39 x9_40 x11_41 x13_42 x15_43 (0 : Int32) r_81 hr_81 _ _ _ hP hD hS (lv_sub hl [9, 8, 7, 6, 5, 4, 3, 2, 1, 0] rfl) (fun x1p234_64 x3p234_65 x5p234_66 x7p234_67 x9p234_68 x11p234_69 x13p234_70 x15p234_71 x17p234_72 er_81 H locs ls hP hD hS hl => ?_)
  subst er_81
  try dsimp only at h
  refine lv_aload_n hx hb kdX5_compress64_377 rfl (lv_at hl 0 rfl) ?_
  refine va_get (ci := 5) (v := .ref (a_this 13)) (C := kRX5) (T := kTX5) (N := 35) hx hb hts kinX5 hown hK hP 0 rfl rfl 13 (by decide) (hts _ km_694) (fun _ h9 => h9) rfl kdX5_compress64_378 ?_
  refine lv_iconst (v := 0) hx hb kdX5_compress64_381 (by decide) ?_
  refine lv_dup2_11 hx hb kdX5_compress64_382 rfl rfl ?_
  refine va_lald hx hb hK hP 2 2 rfl rfl (kb_in_v (by decide)) kdX5_compress64_383 ?_
  refine lv_lload_n hx hb kdX5_compress64_384 rfl (lv_at hl 1 rfl) ?_
  refine lv_ladd hx hb kdX5_compress64_385 ?_
  refine va_last hx hb hK hP hD hS 2 2 rfl rfl (kb_in_v (by decide)) kdX5_compress64_386 (fun H locs hP hD hS => ?_)
  obtain ⟨f_73, ef_73⟩ : ∃ y, y = vp_updL f_this_state (0 : Int32).toNatClampNeg ((f_this_state (0 : Int32).toNatClampNeg) + x1p234_64) := ⟨_, rfl⟩
  have h := kb_n_s ef_73 h
  have hP : va_P D kCl (kWX5_compress64 cB cI cL cBB cII cSh h_this a_this this_taped this_code this_kind this_rate this_filled this_total this_bitAt this_k this_e1 this_du this_dv f_this_cubes f_73 f_this_wordsp70_35 f_this_block) H := by rw [ef_73]; exact hP
  have hD : va_D A (kWX5_compress64 cB cI cL cBB cII cSh h_this a_this this_taped this_code this_kind this_rate this_filled this_total this_bitAt this_k this_e1 this_du this_dv f_this_cubes f_73 f_this_wordsp70_35 f_this_block) := by rw [ef_73]; exact hD
  refine lv_aload_n hx hb kdX5_compress64_387 rfl (lv_at hl 0 rfl) ?_
  refine va_get (ci := 5) (v := .ref (a_this 13)) (C := kRX5) (T := kTX5) (N := 35) hx hb hts kinX5 hown hK hP 0 rfl rfl 13 (by decide) (hts _ km_694) (fun _ h9 => h9) rfl kdX5_compress64_388 ?_
  refine lv_iconst (v := 1) hx hb kdX5_compress64_391 (by decide) ?_
  refine lv_dup2_11 hx hb kdX5_compress64_392 rfl rfl ?_
  refine va_lald hx hb hK hP 2 2 rfl rfl (kb_in_v (by decide)) kdX5_compress64_393 ?_
  refine lv_lload_n hx hb kdX5_compress64_394 rfl (lv_at hl 2 rfl) ?_
  refine lv_ladd hx hb kdX5_compress64_395 ?_
  refine va_last hx hb hK hP hD hS 2 2 rfl rfl (kb_in_v (by decide)) kdX5_compress64_396 (fun H locs hP hD hS => ?_)
  obtain ⟨f_74, ef_74⟩ : ∃ y, y = vp_updL f_73 (1 : Int32).toNatClampNeg ((f_73 (1 : Int32).toNatClampNeg) + x3p234_65) := ⟨_, rfl⟩
  have h := kb_n_s ef_74 h
  have hP : va_P D kCl (kWX5_compress64 cB cI cL cBB cII cSh h_this a_this this_taped this_code this_kind this_rate this_filled this_total this_bitAt this_k this_e1 this_du this_dv f_this_cubes f_74 f_this_wordsp70_35 f_this_block) H := by rw [ef_74]; exact hP
  have hD : va_D A (kWX5_compress64 cB cI cL cBB cII cSh h_this a_this this_taped this_code this_kind this_rate this_filled this_total this_bitAt this_k this_e1 this_du this_dv f_this_cubes f_74 f_this_wordsp70_35 f_this_block) := by rw [ef_74]; exact hD
  refine lv_aload_n hx hb kdX5_compress64_397 rfl (lv_at hl 0 rfl) ?_
  refine va_get (ci := 5) (v := .ref (a_this 13)) (C := kRX5) (T := kTX5) (N := 35) hx hb hts kinX5 hown hK hP 0 rfl rfl 13 (by decide) (hts _ km_694) (fun _ h9 => h9) rfl kdX5_compress64_398 ?_
  refine lv_iconst (v := 2) hx hb kdX5_compress64_401 (by decide) ?_
  refine lv_dup2_11 hx hb kdX5_compress64_402 rfl rfl ?_
  refine va_lald hx hb hK hP 2 2 rfl rfl (kb_in_v (by decide)) kdX5_compress64_403 ?_
  refine lv_lload hx hb kdX5_compress64_404 (lv_at hl 3 rfl) ?_
  refine lv_ladd hx hb kdX5_compress64_406 ?_
  refine va_last hx hb hK hP hD hS 2 2 rfl rfl (kb_in_v (by decide)) kdX5_compress64_407 (fun H locs hP hD hS => ?_)
  obtain ⟨f_75, ef_75⟩ : ∃ y, y = vp_updL f_74 (2 : Int32).toNatClampNeg ((f_74 (2 : Int32).toNatClampNeg) + x5p234_66) := ⟨_, rfl⟩
  have h := kb_n_s ef_75 h
  have hP : va_P D kCl (kWX5_compress64 cB cI cL cBB cII cSh h_this a_this this_taped this_code this_kind this_rate this_filled this_total this_bitAt this_k this_e1 this_du this_dv f_this_cubes f_75 f_this_wordsp70_35 f_this_block) H := by rw [ef_75]; exact hP
  have hD : va_D A (kWX5_compress64 cB cI cL cBB cII cSh h_this a_this this_taped this_code this_kind this_rate this_filled this_total this_bitAt this_k this_e1 this_du this_dv f_this_cubes f_75 f_this_wordsp70_35 f_this_block) := by rw [ef_75]; exact hD
  refine lv_aload_n hx hb kdX5_compress64_408 rfl (lv_at hl 0 rfl) ?_
  refine va_get (ci := 5) (v := .ref (a_this 13)) (C := kRX5) (T := kTX5) (N := 35) hx hb hts kinX5 hown hK hP 0 rfl rfl 13 (by decide) (hts _ km_694) (fun _ h9 => h9) rfl kdX5_compress64_409 ?_
  refine lv_iconst (v := 3) hx hb kdX5_compress64_412 (by decide) ?_
  refine lv_dup2_11 hx hb kdX5_compress64_413 rfl rfl ?_
  refine va_lald hx hb hK hP 2 2 rfl rfl (kb_in_v (by decide)) kdX5_compress64_414 ?_
  refine lv_lload hx hb kdX5_compress64_415 (lv_at hl 4 rfl) ?_
  refine lv_ladd hx hb kdX5_compress64_417 ?_
  refine va_last hx hb hK hP hD hS 2 2 rfl rfl (kb_in_v (by decide)) kdX5_compress64_418 (fun H locs hP hD hS => ?_)
  obtain ⟨f_76, ef_76⟩ : ∃ y, y = vp_updL f_75 (3 : Int32).toNatClampNeg ((f_75 (3 : Int32).toNatClampNeg) + x7p234_67) := ⟨_, rfl⟩
  have h := kb_n_s ef_76 h
  have hP : va_P D kCl (kWX5_compress64 cB cI cL cBB cII cSh h_this a_this this_taped this_code this_kind this_rate this_filled this_total this_bitAt this_k this_e1 this_du this_dv f_this_cubes f_76 f_this_wordsp70_35 f_this_block) H := by rw [ef_76]; exact hP
  have hD : va_D A (kWX5_compress64 cB cI cL cBB cII cSh h_this a_this this_taped this_code this_kind this_rate this_filled this_total this_bitAt this_k this_e1 this_du this_dv f_this_cubes f_76 f_this_wordsp70_35 f_this_block) := by rw [ef_76]; exact hD
  refine lv_aload_n hx hb kdX5_compress64_419 rfl (lv_at hl 0 rfl) ?_
  refine va_get (ci := 5) (v := .ref (a_this 13)) (C := kRX5) (T := kTX5) (N := 35) hx hb hts kinX5 hown hK hP 0 rfl rfl 13 (by decide) (hts _ km_694) (fun _ h9 => h9) rfl kdX5_compress64_420 ?_
  refine lv_iconst (v := 4) hx hb kdX5_compress64_423 (by decide) ?_
  refine lv_dup2_11 hx hb kdX5_compress64_424 rfl rfl ?_
  refine va_lald hx hb hK hP 2 2 rfl rfl (kb_in_v (by decide)) kdX5_compress64_425 ?_
  refine lv_lload hx hb kdX5_compress64_426 (lv_at hl 5 rfl) ?_
  refine lv_ladd hx hb kdX5_compress64_428 ?_
  refine va_last hx hb hK hP hD hS 2 2 rfl rfl (kb_in_v (by decide)) kdX5_compress64_429 (fun H locs hP hD hS => ?_)
  obtain ⟨f_77, ef_77⟩ : ∃ y, y = vp_updL f_76 (4 : Int32).toNatClampNeg ((f_76 (4 : Int32).toNatClampNeg) + x9p234_68) := ⟨_, rfl⟩
  have h := kb_n_s ef_77 h
  have hP : va_P D kCl (kWX5_compress64 cB cI cL cBB cII cSh h_this a_this this_taped this_code this_kind this_rate this_filled this_total this_bitAt this_k this_e1 this_du this_dv f_this_cubes f_77 f_this_wordsp70_35 f_this_block) H := by rw [ef_77]; exact hP
  have hD : va_D A (kWX5_compress64 cB cI cL cBB cII cSh h_this a_this this_taped this_code this_kind this_rate this_filled this_total this_bitAt this_k this_e1 this_du this_dv f_this_cubes f_77 f_this_wordsp70_35 f_this_block) := by rw [ef_77]; exact hD
  refine lv_aload_n hx hb kdX5_compress64_430 rfl (lv_at hl 0 rfl) ?_
  refine va_get (ci := 5) (v := .ref (a_this 13)) (C := kRX5) (T := kTX5) (N := 35) hx hb hts kinX5 hown hK hP 0 rfl rfl 13 (by decide) (hts _ km_694) (fun _ h9 => h9) rfl kdX5_compress64_431 ?_
  refine lv_iconst (v := 5) hx hb kdX5_compress64_434 (by decide) ?_
  refine lv_dup2_11 hx hb kdX5_compress64_435 rfl rfl ?_
  refine va_lald hx hb hK hP 2 2 rfl rfl (kb_in_v (by decide)) kdX5_compress64_436 ?_
  refine lv_lload hx hb kdX5_compress64_437 (lv_at hl 6 rfl) ?_
  refine lv_ladd hx hb kdX5_compress64_439 ?_
  refine va_last hx hb hK hP hD hS 2 2 rfl rfl (kb_in_v (by decide)) kdX5_compress64_440 (fun H locs hP hD hS => ?_)
  obtain ⟨f_78, ef_78⟩ : ∃ y, y = vp_updL f_77 (5 : Int32).toNatClampNeg ((f_77 (5 : Int32).toNatClampNeg) + x11p234_69) := ⟨_, rfl⟩
  have h := kb_n_s ef_78 h
  have hP : va_P D kCl (kWX5_compress64 cB cI cL cBB cII cSh h_this a_this this_taped this_code this_kind this_rate this_filled this_total this_bitAt this_k this_e1 this_du this_dv f_this_cubes f_78 f_this_wordsp70_35 f_this_block) H := by rw [ef_78]; exact hP
  have hD : va_D A (kWX5_compress64 cB cI cL cBB cII cSh h_this a_this this_taped this_code this_kind this_rate this_filled this_total this_bitAt this_k this_e1 this_du this_dv f_this_cubes f_78 f_this_wordsp70_35 f_this_block) := by rw [ef_78]; exact hD
  refine lv_aload_n hx hb kdX5_compress64_441 rfl (lv_at hl 0 rfl) ?_
  refine va_get (ci := 5) (v := .ref (a_this 13)) (C := kRX5) (T := kTX5) (N := 35) hx hb hts kinX5 hown hK hP 0 rfl rfl 13 (by decide) (hts _ km_694) (fun _ h9 => h9) rfl kdX5_compress64_442 ?_
  refine lv_bipush (v := 6) hx hb kdX5_compress64_445 (by decide) ?_
  refine lv_dup2_11 hx hb kdX5_compress64_447 rfl rfl ?_
  refine va_lald hx hb hK hP 2 2 rfl rfl (kb_in_v (by decide)) kdX5_compress64_448 ?_
  refine lv_lload hx hb kdX5_compress64_449 (lv_at hl 7 rfl) ?_
  refine lv_ladd hx hb kdX5_compress64_451 ?_
  refine va_last hx hb hK hP hD hS 2 2 rfl rfl (kb_in_v (by decide)) kdX5_compress64_452 (fun H locs hP hD hS => ?_)
  obtain ⟨f_79, ef_79⟩ : ∃ y, y = vp_updL f_78 (6 : Int32).toNatClampNeg ((f_78 (6 : Int32).toNatClampNeg) + x13p234_70) := ⟨_, rfl⟩
  have h := kb_n_s ef_79 h
  have hP : va_P D kCl (kWX5_compress64 cB cI cL cBB cII cSh h_this a_this this_taped this_code this_kind this_rate this_filled this_total this_bitAt this_k this_e1 this_du this_dv f_this_cubes f_79 f_this_wordsp70_35 f_this_block) H := by rw [ef_79]; exact hP
  have hD : va_D A (kWX5_compress64 cB cI cL cBB cII cSh h_this a_this this_taped this_code this_kind this_rate this_filled this_total this_bitAt this_k this_e1 this_du this_dv f_this_cubes f_79 f_this_wordsp70_35 f_this_block) := by rw [ef_79]; exact hD
  refine lv_aload_n hx hb kdX5_compress64_453 rfl (lv_at hl 0 rfl) ?_
  refine va_get (ci := 5) (v := .ref (a_this 13)) (C := kRX5) (T := kTX5) (N := 35) hx hb hts kinX5 hown hK hP 0 rfl rfl 13 (by decide) (hts _ km_694) (fun _ h9 => h9) rfl kdX5_compress64_454 ?_
  refine lv_bipush (v := 7) hx hb kdX5_compress64_457 (by decide) ?_
  refine lv_dup2_11 hx hb kdX5_compress64_459 rfl rfl ?_
  refine va_lald hx hb hK hP 2 2 rfl rfl (kb_in_v (by decide)) kdX5_compress64_460 ?_
  refine lv_lload hx hb kdX5_compress64_461 (lv_at hl 8 rfl) ?_
  refine lv_ladd hx hb kdX5_compress64_463 ?_
  refine va_last hx hb hK hP hD hS 2 2 rfl rfl (kb_in_v (by decide)) kdX5_compress64_464 (fun H locs hP hD hS => ?_)
  obtain ⟨f_80, ef_80⟩ : ∃ y, y = vp_updL f_79 (7 : Int32).toNatClampNeg ((f_79 (7 : Int32).toNatClampNeg) + x15p234_71) := ⟨_, rfl⟩
  have h := kb_n_s ef_80 h
  have hP : va_P D kCl (kWX5_compress64 cB cI cL cBB cII cSh h_this a_this this_taped this_code this_kind this_rate this_filled this_total this_bitAt this_k this_e1 this_du this_dv f_this_cubes f_80 f_this_wordsp70_35 f_this_block) H := by rw [ef_80]; exact hP
  have hD : va_D A (kWX5_compress64 cB cI cL cBB cII cSh h_this a_this this_taped this_code this_kind this_rate this_filled this_total this_bitAt this_k this_e1 this_du this_dv f_this_cubes f_80 f_this_wordsp70_35 f_this_block) := by rw [ef_80]; exact hD
  obtain rfl := Option.some.inj h
  exact W.vret hx hb hr (fun t ht hW => ⟨⟨rfl, by rw [ht]; exact hP, va_K.moved hW.alike hK, hD⟩, hS.F ht⟩) hS.2.2 kdX5_compress64_465
