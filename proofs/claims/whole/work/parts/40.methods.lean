-- 400.ModuleKem.putOnTape.lean.txt
abbrev kWX0_putOnTape (cB cI cL cBB cII cSh : ClassId) (h_this : Nat) (a_this : Nat → Nat) (this_tapeSize : Int32) (f_this_tape : Nat → Int32) : va_W := [(h_this, koX0 a_this this_tapeSize), ((a_this 2), .inl (cB, 8192, .inl f_this_tape))]
def krX0_putOnTape : Room := { frames := 0, cells := 0, slots := 0, locals := 0 }
set_option maxHeartbeats 4000000 in
set_option maxRecDepth 100000 in
theorem klX0_putOnTape_3 {p : Program} {l : Launch} {e : Env} {s : State} {m : MethodId} {args : Array Value} {below : List Frame} {meth : Method} {c : Code} {cells slots : Nat} {Q : State → Prop} {D : va_G} {cB cI cL cBB cII cSh : ClassId} {A : Nat → Prop} (C0 : CallFix p m c prog_1_method_13_code 3 s args kwA kRX0) (hlocks : meth.locks = false) (hK : va_K D kCl (kb_T cB cI cL cBB cII cSh) s) (hN : kb_N s) (hA : ∀ q, s.heap.size ≤ q → A q) (hcR : cells ≤ krX0_putOnTape.cells) (hsR : slots ≤ krX0_putOnTape.slots) (h_this : Nat) (a_this : Nat → Nat) (p1 : Int32) :
    ∀ (fuel : Nat) (x2p3 : Int32) (this_tapeSizep3 : Int32) (f_this_tapep3 : Nat → Int32) (r : Int32 × Int32 × (Nat → Int32)), kb_w (fun u : Int32 × Int32 × (Nat → Int32) => kSX0_putOnTape_3 p1 u.1 u.2.1 u.2.2) fuel (x2p3, this_tapeSizep3, f_this_tapep3) = some r → ∀ (H : Heap) (locs : List Loc) (ls : Array Slot), va_P D kCl (kWX0_putOnTape cB cI cL cBB cII cSh h_this a_this this_tapeSizep3 f_this_tapep3) H → va_D A (kWX0_putOnTape cB cI cL cBB cII cSh h_this a_this this_tapeSizep3 f_this_tapep3) → va_S A s.heap H locs → lv_has ls 3 [(0, .ref h_this), (1, .int p1), (2, .int x2p3)] → (∀ (x2p3' : Int32) (this_tapeSizep3' : Int32) (f_this_tapep3' : Nat → Int32), r = (x2p3', this_tapeSizep3', f_this_tapep3') → ∀ (H : Heap) (locs : List Loc) (ls : Array Slot), va_P D kCl (kWX0_putOnTape cB cI cL cBB cII cSh h_this a_this this_tapeSizep3' f_this_tapep3') H → va_D A (kWX0_putOnTape cB cI cL cBB cII cSh h_this a_this this_tapeSizep3' f_this_tapep3') → va_S A s.heap H locs → lv_has ls 3 [(0, .ref h_this), (1, .int p1), (2, .int x2p3')] → W p l e krX0_putOnTape s m args below meth c H locs cells slots Q (F0 m 36 ls [])) → W p l e krX0_putOnTape s m args below meth c H locs cells slots Q (F0 m 3 ls []) := by
  obtain ⟨hx, hb, hml, hown, hts⟩ := id C0
  intro fuel
  induction fuel with
  | zero =>
    intro x2p3 this_tapeSizep3 f_this_tapep3 r h
    exact absurd h (kb_w_z _ _ _)
  | succ fuel ih =>
    intro x2p3 this_tapeSizep3 f_this_tapep3 r h H locs ls hP hD hS hl hk0
    obtain ⟨o, h, ho⟩ := kb_w_s h
    have h : kSX0_putOnTape_3 p1 x2p3 this_tapeSizep3 f_this_tapep3 = some o := h
    unfold kSX0_putOnTape_3 at h
    refine lv_iload_n hx hb kdX0_putOnTape_3 rfl (lv_at hl 2 rfl) ?_
    refine lv_if_lt (tgt := 36) hx hb kdX0_putOnTape_4 (by decide) (fun c_1 => ?_) (fun c_1 => ?_)
    · have h := kb_b_t c_1 h
      obtain rfl := Option.some.inj h
      exact hk0 x2p3 this_tapeSizep3 f_this_tapep3 ho.symm _ _ _ hP hD hS (lv_sub hl [0, 1, 2] rfl)
    · have h := kb_b_f c_1 h
      refine lv_aload_n hx hb kdX0_putOnTape_7 rfl (lv_at hl 0 rfl) ?_
      refine va_get (ci := 0) (v := .ref (a_this 2)) (C := kRX0) (T := kTX0) (N := 6) hx hb hts kinX0 hown hK hP 0 rfl rfl 2 (by decide) (hts _ km_161) (fun _ h9 => h9) rfl kdX0_putOnTape_8 ?_
      refine lv_aload_n hx hb kdX0_putOnTape_11 rfl (lv_at hl 0 rfl) ?_
      refine va_get (ci := 0) (v := .int this_tapeSizep3) (C := kRX0) (T := kTX0) (N := 6) hx hb hts kinX0 hown hK hP 0 rfl rfl 3 (by decide) (hts _ km_162) (fun _ h9 => h9) rfl kdX0_putOnTape_12 ?_
      refine lv_iload_n hx hb kdX0_putOnTape_15 rfl (lv_at hl 1 rfl) ?_
      refine lv_iload_n hx hb kdX0_putOnTape_16 rfl (lv_at hl 2 rfl) ?_
      refine lv_ishr hx hb kdX0_putOnTape_17 ?_
      refine lv_i2b (v := ((p1 >>> (x2p3 &&& 31)).toInt8.toInt32)) hx hb kdX0_putOnTape_18 rfl ?_
      obtain ⟨g_2, h⟩ := kb_g_s h
      refine va_bast hx hb hK hP hD hS 1 0 rfl rfl (kb_in_v g_2) kdX0_putOnTape_19 (fun H locs hP hD hS => ?_)
      obtain ⟨f_3, ef_3⟩ : ∃ y, y = upd f_this_tapep3 this_tapeSizep3.toNatClampNeg (vp_nar .byte ((p1 >>> (x2p3 &&& 31)).toInt8.toInt32)) := ⟨_, rfl⟩
      have h := kb_n_s ef_3 h
      have hP : va_P D kCl (kWX0_putOnTape cB cI cL cBB cII cSh h_this a_this this_tapeSizep3 f_3) H := by rw [ef_3]; exact hP
      have hD : va_D A (kWX0_putOnTape cB cI cL cBB cII cSh h_this a_this this_tapeSizep3 f_3) := by rw [ef_3]; exact hD
      refine lv_aload_n hx hb kdX0_putOnTape_20 rfl (lv_at hl 0 rfl) ?_
      refine lv_dup hx hb kdX0_putOnTape_21 rfl ?_
      refine va_get (ci := 0) (v := .int this_tapeSizep3) (C := kRX0) (T := kTX0) (N := 6) hx hb hts kinX0 hown hK hP 0 rfl rfl 3 (by decide) (hts _ km_162) (fun _ h9 => h9) rfl kdX0_putOnTape_22 ?_
      refine lv_iconst (v := 1) hx hb kdX0_putOnTape_25 (by decide) ?_
      refine lv_iadd hx hb kdX0_putOnTape_26 ?_
      refine lv_topi (fun w_4 ew_4 => ?_)
      have h := kb_n_s ew_4 h
      refine va_put (ci := 0) (v := .int w_4) (C := kRX0) (T := kTX0) (N := 6) hx hb hts kinX0 ktyX0 ktyX0_ok knX0 hown hK hP hD hS 0 rfl rfl 3 (by decide) (hts _ km_162) (fun _ h9 => h9) rfl (ktyX0_ok 3 (by decide)) rfl rfl (Nat.le_of_ble_eq_true rfl) kdX0_putOnTape_27 (fun H locs hP hD hS => ?_)
      have hP : va_P D kCl (kWX0_putOnTape cB cI cL cBB cII cSh h_this a_this w_4 f_3) H := hP
      have hD : va_D A (kWX0_putOnTape cB cI cL cBB cII cSh h_this a_this w_4 f_3) := hD
      obtain ⟨x2_5, ex2_5⟩ : ∃ y : Int32, y = x2p3 + Int32.ofInt (-8) := ⟨_, rfl⟩
      have h := kb_n_s ex2_5 h
      refine lv_iinc (v := x2_5) (lv' := [(2, .int x2_5), (0, .ref h_this), (1, .int p1)]) hx hb kdX0_putOnTape_30 hl (k := 2) rfl ex2_5.symm (by decide) rfl (fun ls hl => ?_)
      refine lv_goto (tgt := 3) hx hb kdX0_putOnTape_33 (by decide) ?_
      obtain rfl := Option.some.inj h
      exact ih x2_5 w_4 f_3 r ho _ _ _ hP hD hS (lv_sub hl [1, 2, 0] rfl) hk0
set_option maxHeartbeats 4000000 in
set_option maxRecDepth 100000 in
theorem kcX0_putOnTape (l : Launch) (D : va_G) (cB cI cL cBB cII cSh : ClassId) (h_this : Nat) (a_this : Nat → Nat) (sz : Nat) (p1 : Int32) (this_tapeSize : Int32) (f_this_tape : Nat → Int32) (out : Int32 × (Nat → Int32)) (h : kFX0_putOnTape p1 this_tapeSize f_this_tape = some out) : Met l kyX0_putOnTape kwX0_putOnTape krX0_putOnTape (kb_P D kCl (kb_T cB cI cL cBB cII cSh) [.ref h_this, .int p1] (kWX0_putOnTape cB cI cL cBB cII cSh h_this a_this this_tapeSize f_this_tape) sz) (kb_Q D kCl (kb_T cB cI cL cBB cII cSh) (va_A (kWX0_putOnTape cB cI cL cBB cII cSh h_this a_this this_tapeSize f_this_tape) sz) none (kWX0_putOnTape cB cI cL cBB cII cSh h_this a_this out.1 out.2)) 0 0 (va_A (kWX0_putOnTape cB cI cL cBB cII cSh h_this a_this this_tapeSize f_this_tape) sz) := by
  refine Met.ofW (cc := prog_1_method_13_code) (maxL := 3) (ret := none) (by decide) rfl ?_
  intro p e s m args below meth c s₁ B hml hv
  obtain ⟨rfl, hsz, hP, hK, hN, hD0⟩ := hv
  have hx := B.exec
  have hb := B.bytes
  have hr := B.returns
  have hts0 := atoms_spec (ws := kwX0_putOnTape) B.pre
  have hts : ∀ w ∈ kwA, w.before _ s = true := fun w h => hts0 w (List.mem_cons_of_mem _ h)
  have hown : s.vm.findClass kRX0 = some m.cls := findClass_of_methodNamed B.named
  have hlocks := B.notSynchronized
  subst hsz
  have hD := hD0.self (sz := s.heap.size)
  generalize hAe : va_A (kWX0_putOnTape cB cI cL cBB cII cSh h_this a_this this_tapeSize f_this_tape) s.heap.size = A at hD ⊢
  have hA : ∀ q : Nat, s.heap.size ≤ q → A q := fun q h => by rw [← hAe]; exact Or.inr h
  have hS : va_S A s.heap s.heap [] := va_S.rf
  have C0 : CallFix p m c prog_1_method_13_code 3 s _ kwA kRX0 := ⟨hx, hb, hml, hown, hts⟩
  have hl := lv_entry ([.ref h_this, .int p1]) (n := 3) (Nat.le_of_ble_eq_true rfl)
  rw [lg_entry_eq]
  generalize (lg_sl ([.ref h_this, .int p1]) ++ List.replicate (3 - (lg_sl ([.ref h_this, .int p1])).length) Slot.unset).toArray = ls at hl ⊢
  have hl : lv_has ls 3 [(0, .ref h_this), (1, .int p1)] := hl
  unfold kFX0_putOnTape at h
  refine lv_bipush (v := 24) hx hb kdX0_putOnTape_0 (by decide) ?_
  refine lv_istore_n (lv' := [(2, .int (24 : Int32)), (0, .ref h_this), (1, .int p1)]) hx hb kdX0_putOnTape_2 rfl hl (by decide) rfl (fun ls hl => ?_)
  obtain ⟨r_9, hr_9, h⟩ := kb_o_s h
  refine klX0_putOnTape_3 C0 hlocks hK hN hA (by decide) (by decide) h_this a_this p1 100000 (24 : Int32) this_tapeSize f_this_tape r_9 hr_9 _ _ _ hP hD hS (lv_sub hl [1, 2, 0] rfl) (fun x2p3_6 this_tapeSizep3_7 f_this_tapep3_8 er_9 H locs ls hP hD hS hl => ?_)
  subst er_9
  obtain rfl := Option.some.inj h
  exact W.vret hx hb hr (fun t ht hW => ⟨⟨rfl, by rw [ht]; exact hP, va_K.moved hW.alike hK, hD⟩, hS.F ht⟩) hS.2.2 kdX0_putOnTape_36

-- 401.ModuleKem.checkSlot.lean.txt
abbrev kWX0_checkSlot (cB cI cL cBB cII cSh : ClassId)   : va_W := []
def krX0_checkSlot : Room := { frames := 6, cells := 1, slots := 6, locals := 90 }
set_option maxHeartbeats 4000000 in
set_option maxRecDepth 100000 in
theorem kcX0_checkSlot (l : Launch) (hl9 : l.stackTraces = false) (D : va_G) (cB cI cL cBB cII cSh : ClassId)  (sz : Nat) (p1 : Int32) (out : (Unit) ⊕ (String × (Unit))) (h : kFX0_checkSlot p1 = some out) : vx_Met l kyX0_checkSlot kwX0_checkSlot krX0_checkSlot (kb_PX D kCl (kb_T cB cI cL cBB cII cSh) [.int p1] (kWX0_checkSlot cB cI cL cBB cII cSh) sz) (kb_QX D kCl (kb_T cB cI cL cBB cII cSh) (va_A (kWX0_checkSlot cB cI cL cBB cII cSh) sz) out (fun o => none) (fun o => (kWX0_checkSlot cB cI cL cBB cII cSh))) (kb_XX D kCl (kb_T cB cI cL cBB cII cSh) (va_A (kWX0_checkSlot cB cI cL cBB cII cSh) sz) out (fun x => (kWX0_checkSlot cB cI cL cBB cII cSh))) 1 6 (va_A (kWX0_checkSlot cB cI cL cBB cII cSh) sz) := by
  refine vx_ofW (cc := prog_1_method_14_code) (maxL := 1) (ret := none) (by decide) rfl ?_
  intro p e s m args below meth c s₁ B hml hno hv
  obtain ⟨⟨rfl, hsz, hP, hK, hN, hD0⟩, hZ⟩ := hv
  have hx := B.exec
  have hb := B.bytes
  have hr := B.returns
  have hts0 := atoms_spec (ws := kwX0_checkSlot) B.pre
  have hts : ∀ w ∈ kwA, w.before _ s = true := fun w h => hts0 w (List.mem_cons_of_mem _ h)
  have hown : s.vm.findClass kRX0 = some m.cls := findClass_of_methodNamed B.named
  have hlocks := B.notSynchronized
  subst hsz
  have hD := hD0.self (sz := s.heap.size)
  generalize hAe : va_A (kWX0_checkSlot cB cI cL cBB cII cSh) s.heap.size = A at hD hZ ⊢
  have hA : ∀ q : Nat, s.heap.size ≤ q → A q := fun q h => by rw [← hAe]; exact Or.inr h
  have hS : va_S A s.heap s.heap [] := va_S.rf
  have C0 : CallFix p m c prog_1_method_14_code 1 s _ kwA kRX0 := ⟨hx, hb, hml, hown, hts⟩
  have hl := lv_entry ([.int p1]) (n := 1) (Nat.le_of_ble_eq_true rfl)
  rw [lg_entry_eq]
  generalize (lg_sl ([.int p1]) ++ List.replicate (1 - (lg_sl ([.int p1])).length) Slot.unset).toArray = ls at hl ⊢
  have hl : lv_has ls 1 [(0, .int p1)] := hl
  unfold kFX0_checkSlot at h
  refine lv_iload_n hx hb kdX0_checkSlot_0 rfl (lv_at hl 0 rfl) ?_
  refine lv_if_lt (tgt := 10) hx hb kdX0_checkSlot_1 (by decide) (fun c_1 => ?_) (fun c_1 => ?_)
  · have h := kb_b_t c_1 h
    obtain rfl := Option.some.inj h
    obtain ⟨sa, hZs⟩ := hZ.2.2 (kRX0, 125, "a slot is 0 .. 7") (by simp [kb_STR])
    exact vx_throwS (own := kRX0) (cls := "java/lang/IllegalArgumentException") (names := ["java/lang/RuntimeException", "java/lang/Exception"]) hx hb hl9 hown (by decide +kernel) (by decide +kernel) (hts _ km_270) (hts _ km_11) hZs (kb_hat hts hN (by decide +kernel)) (by decide +kernel) hZ.1 hZ.2.1 hS (hl.1.trans hml.symm) kdX0_checkSlot_10 kdX0_checkSlot_13 kdX0_checkSlot_14 kdX0_checkSlot_16 kdX0_checkSlot_19 (fun x hx9 => (hno x hx9).elim) (Nat.le_of_ble_eq_true rfl) (Nat.le_of_ble_eq_true rfl) (by decide) (by decide) hlocks (fun t ha hsz hk => ⟨_, rfl, hP.kept (fun k q hq => hk q.1 (hP k q hq).lt), va_K.moved ha hK, hD, Nat.le_trans hS.1 hsz, fun q h1 h2 => (hk q (Nat.lt_of_lt_of_le h1 hS.1)).trans (hS.2.1 q h1 h2)⟩) hS.2.2 (by decide) (by decide)
  · have h := kb_b_f c_1 h
    refine lv_iload_n hx hb kdX0_checkSlot_4 rfl (lv_at hl 0 rfl) ?_
    refine lv_bipush (v := 8) hx hb kdX0_checkSlot_5 (by decide) ?_
    refine lv_icmp_lt (tgt := 20) hx hb kdX0_checkSlot_7 (by decide) (fun c_2 => ?_) (fun c_2 => ?_)
    · have h := kb_b_t c_2 h
      obtain rfl := Option.some.inj h
      refine vx_ret ?_
      refine W.widen (k := 1) (n := 6) (by decide) (by decide) ?_
      exact W.vret hx hb hr (fun t ht hW => ⟨_, rfl, ⟨rfl, by rw [ht]; exact hP, va_K.moved hW.alike hK, hD⟩, hS.F ht⟩) hS.2.2 kdX0_checkSlot_20
    · have h := kb_b_f c_2 h
      obtain rfl := Option.some.inj h
      obtain ⟨sa, hZs⟩ := hZ.2.2 (kRX0, 125, "a slot is 0 .. 7") (by simp [kb_STR])
      exact vx_throwS (own := kRX0) (cls := "java/lang/IllegalArgumentException") (names := ["java/lang/RuntimeException", "java/lang/Exception"]) hx hb hl9 hown (by decide +kernel) (by decide +kernel) (hts _ km_270) (hts _ km_11) hZs (kb_hat hts hN (by decide +kernel)) (by decide +kernel) hZ.1 hZ.2.1 hS (hl.1.trans hml.symm) kdX0_checkSlot_10 kdX0_checkSlot_13 kdX0_checkSlot_14 kdX0_checkSlot_16 kdX0_checkSlot_19 (fun x hx9 => (hno x hx9).elim) (Nat.le_of_ble_eq_true rfl) (Nat.le_of_ble_eq_true rfl) (by decide) (by decide) hlocks (fun t ha hsz hk => ⟨_, rfl, hP.kept (fun k q hq => hk q.1 (hP k q hq).lt), va_K.moved ha hK, hD, Nat.le_trans hS.1 hsz, fun q h1 h2 => (hk q (Nat.lt_of_lt_of_le h1 hS.1)).trans (hS.2.1 q h1 h2)⟩) hS.2.2 (by decide) (by decide)

-- 402.ModuleKem.checkSize.lean.txt
abbrev kWX0_checkSize (cB cI cL cBB cII cSh : ClassId)   : va_W := []
def krX0_checkSize : Room := { frames := 6, cells := 1, slots := 6, locals := 90 }
set_option maxHeartbeats 4000000 in
set_option maxRecDepth 100000 in
theorem kcX0_checkSize (l : Launch) (hl9 : l.stackTraces = false) (D : va_G) (cB cI cL cBB cII cSh : ClassId)  (sz : Nat) (p1 : Int32) (out : (Unit) ⊕ (String × (Unit))) (h : kFX0_checkSize p1 = some out) : vx_Met l kyX0_checkSize kwX0_checkSize krX0_checkSize (kb_PX D kCl (kb_T cB cI cL cBB cII cSh) [.int p1] (kWX0_checkSize cB cI cL cBB cII cSh) sz) (kb_QX D kCl (kb_T cB cI cL cBB cII cSh) (va_A (kWX0_checkSize cB cI cL cBB cII cSh) sz) out (fun o => none) (fun o => (kWX0_checkSize cB cI cL cBB cII cSh))) (kb_XX D kCl (kb_T cB cI cL cBB cII cSh) (va_A (kWX0_checkSize cB cI cL cBB cII cSh) sz) out (fun x => (kWX0_checkSize cB cI cL cBB cII cSh))) 1 6 (va_A (kWX0_checkSize cB cI cL cBB cII cSh) sz) := by
  refine vx_ofW (cc := prog_1_method_15_code) (maxL := 1) (ret := none) (by decide) rfl ?_
  intro p e s m args below meth c s₁ B hml hno hv
  obtain ⟨⟨rfl, hsz, hP, hK, hN, hD0⟩, hZ⟩ := hv
  have hx := B.exec
  have hb := B.bytes
  have hr := B.returns
  have hts0 := atoms_spec (ws := kwX0_checkSize) B.pre
  have hts : ∀ w ∈ kwA, w.before _ s = true := fun w h => hts0 w (List.mem_cons_of_mem _ h)
  have hown : s.vm.findClass kRX0 = some m.cls := findClass_of_methodNamed B.named
  have hlocks := B.notSynchronized
  subst hsz
  have hD := hD0.self (sz := s.heap.size)
  generalize hAe : va_A (kWX0_checkSize cB cI cL cBB cII cSh) s.heap.size = A at hD hZ ⊢
  have hA : ∀ q : Nat, s.heap.size ≤ q → A q := fun q h => by rw [← hAe]; exact Or.inr h
  have hS : va_S A s.heap s.heap [] := va_S.rf
  have C0 : CallFix p m c prog_1_method_15_code 1 s _ kwA kRX0 := ⟨hx, hb, hml, hown, hts⟩
  have hl := lv_entry ([.int p1]) (n := 1) (Nat.le_of_ble_eq_true rfl)
  rw [lg_entry_eq]
  generalize (lg_sl ([.int p1]) ++ List.replicate (1 - (lg_sl ([.int p1])).length) Slot.unset).toArray = ls at hl ⊢
  have hl : lv_has ls 1 [(0, .int p1)] := hl
  unfold kFX0_checkSize at h
  refine lv_iload_n hx hb kdX0_checkSize_0 rfl (lv_at hl 0 rfl) ?_
  refine lv_if_lt (tgt := 11) hx hb kdX0_checkSize_1 (by decide) (fun c_1 => ?_) (fun c_1 => ?_)
  · have h := kb_b_t c_1 h
    obtain rfl := Option.some.inj h
    obtain ⟨sa, hZs⟩ := hZ.2.2 (kRX0, 127, "a size is 0 .. 8192") (by simp [kb_STR])
    exact vx_throwS (own := kRX0) (cls := "java/lang/IllegalArgumentException") (names := ["java/lang/RuntimeException", "java/lang/Exception"]) hx hb hl9 hown (by decide +kernel) (by decide +kernel) (hts _ km_270) (hts _ km_11) hZs (kb_hat hts hN (by decide +kernel)) (by decide +kernel) hZ.1 hZ.2.1 hS (hl.1.trans hml.symm) kdX0_checkSize_11 kdX0_checkSize_14 kdX0_checkSize_15 kdX0_checkSize_17 kdX0_checkSize_20 (fun x hx9 => (hno x hx9).elim) (Nat.le_of_ble_eq_true rfl) (Nat.le_of_ble_eq_true rfl) (by decide) (by decide) hlocks (fun t ha hsz hk => ⟨_, rfl, hP.kept (fun k q hq => hk q.1 (hP k q hq).lt), va_K.moved ha hK, hD, Nat.le_trans hS.1 hsz, fun q h1 h2 => (hk q (Nat.lt_of_lt_of_le h1 hS.1)).trans (hS.2.1 q h1 h2)⟩) hS.2.2 (by decide) (by decide)
  · have h := kb_b_f c_1 h
    refine lv_iload_n hx hb kdX0_checkSize_4 rfl (lv_at hl 0 rfl) ?_
    refine lv_sipush (v := 8192) hx hb kdX0_checkSize_5 (by decide) ?_
    refine lv_icmp_le (tgt := 21) hx hb kdX0_checkSize_8 (by decide) (fun c_2 => ?_) (fun c_2 => ?_)
    · have h := kb_b_t c_2 h
      obtain rfl := Option.some.inj h
      refine vx_ret ?_
      refine W.widen (k := 1) (n := 6) (by decide) (by decide) ?_
      exact W.vret hx hb hr (fun t ht hW => ⟨_, rfl, ⟨rfl, by rw [ht]; exact hP, va_K.moved hW.alike hK, hD⟩, hS.F ht⟩) hS.2.2 kdX0_checkSize_21
    · have h := kb_b_f c_2 h
      obtain rfl := Option.some.inj h
      obtain ⟨sa, hZs⟩ := hZ.2.2 (kRX0, 127, "a size is 0 .. 8192") (by simp [kb_STR])
      exact vx_throwS (own := kRX0) (cls := "java/lang/IllegalArgumentException") (names := ["java/lang/RuntimeException", "java/lang/Exception"]) hx hb hl9 hown (by decide +kernel) (by decide +kernel) (hts _ km_270) (hts _ km_11) hZs (kb_hat hts hN (by decide +kernel)) (by decide +kernel) hZ.1 hZ.2.1 hS (hl.1.trans hml.symm) kdX0_checkSize_11 kdX0_checkSize_14 kdX0_checkSize_15 kdX0_checkSize_17 kdX0_checkSize_20 (fun x hx9 => (hno x hx9).elim) (Nat.le_of_ble_eq_true rfl) (Nat.le_of_ble_eq_true rfl) (by decide) (by decide) hlocks (fun t ha hsz hk => ⟨_, rfl, hP.kept (fun k q hq => hk q.1 (hP k q hq).lt), va_K.moved ha hK, hD, Nat.le_trans hS.1 hsz, fun q h1 h2 => (hk q (Nat.lt_of_lt_of_le h1 hS.1)).trans (hS.2.1 q h1 h2)⟩) hS.2.2 (by decide) (by decide)

-- 403.ModuleKem.checkPlace.lean.txt
abbrev kWX0_checkPlace (cB cI cL cBB cII cSh : ClassId) (h_this : Nat) (a_this : Nat → Nat) (this_tapeSize : Int32) (f_this_sizes : Nat → Int32) : va_W := [(h_this, koX0 a_this this_tapeSize), ((a_this 1), .inl (cI, 8, .inl f_this_sizes))]
def krX0_checkPlace : Room := { frames := 6, cells := 1, slots := 6, locals := 90 }
set_option maxHeartbeats 4000000 in
set_option maxRecDepth 100000 in
theorem kcX0_checkPlace (l : Launch) (hl9 : l.stackTraces = false) (D : va_G) (cB cI cL cBB cII cSh : ClassId) (h_this : Nat) (a_this : Nat → Nat) (sz : Nat) (p1 : Int32) (p2 : Int32) (this_tapeSize : Int32) (f_this_sizes : Nat → Int32) (out : (Unit) ⊕ (String × (Unit))) (h : kFX0_checkPlace p1 p2 f_this_sizes = some out) : vx_Met l kyX0_checkPlace kwX0_checkPlace krX0_checkPlace (kb_PX D kCl (kb_T cB cI cL cBB cII cSh) [.ref h_this, .int p1, .int p2] (kWX0_checkPlace cB cI cL cBB cII cSh h_this a_this this_tapeSize f_this_sizes) sz) (kb_QX D kCl (kb_T cB cI cL cBB cII cSh) (va_A (kWX0_checkPlace cB cI cL cBB cII cSh h_this a_this this_tapeSize f_this_sizes) sz) out (fun o => none) (fun o => (kWX0_checkPlace cB cI cL cBB cII cSh h_this a_this this_tapeSize f_this_sizes))) (kb_XX D kCl (kb_T cB cI cL cBB cII cSh) (va_A (kWX0_checkPlace cB cI cL cBB cII cSh h_this a_this this_tapeSize f_this_sizes) sz) out (fun x => (kWX0_checkPlace cB cI cL cBB cII cSh h_this a_this this_tapeSize f_this_sizes))) 1 6 (va_A (kWX0_checkPlace cB cI cL cBB cII cSh h_this a_this this_tapeSize f_this_sizes) sz) := by
  refine vx_ofW (cc := prog_1_method_16_code) (maxL := 3) (ret := none) (by decide) rfl ?_
  intro p e s m args below meth c s₁ B hml hno hv
  obtain ⟨⟨rfl, hsz, hP, hK, hN, hD0⟩, hZ⟩ := hv
  have hx := B.exec
  have hb := B.bytes
  have hr := B.returns
  have hts0 := atoms_spec (ws := kwX0_checkPlace) B.pre
  have hts : ∀ w ∈ kwA, w.before _ s = true := fun w h => hts0 w (List.mem_cons_of_mem _ h)
  have hown : s.vm.findClass kRX0 = some m.cls := findClass_of_methodNamed B.named
  have hlocks := B.notSynchronized
  subst hsz
  have hD := hD0.self (sz := s.heap.size)
  generalize hAe : va_A (kWX0_checkPlace cB cI cL cBB cII cSh h_this a_this this_tapeSize f_this_sizes) s.heap.size = A at hD hZ ⊢
  have hA : ∀ q : Nat, s.heap.size ≤ q → A q := fun q h => by rw [← hAe]; exact Or.inr h
  have hS : va_S A s.heap s.heap [] := va_S.rf
  have C0 : CallFix p m c prog_1_method_16_code 3 s _ kwA kRX0 := ⟨hx, hb, hml, hown, hts⟩
  have hl := lv_entry ([.ref h_this, .int p1, .int p2]) (n := 3) (Nat.le_of_ble_eq_true rfl)
  rw [lg_entry_eq]
  generalize (lg_sl ([.ref h_this, .int p1, .int p2]) ++ List.replicate (3 - (lg_sl ([.ref h_this, .int p1, .int p2])).length) Slot.unset).toArray = ls at hl ⊢
  have hl : lv_has ls 3 [(0, .ref h_this), (1, .int p1), (2, .int p2)] := hl
  unfold kFX0_checkPlace at h
  refine lv_iload_n hx hb kdX0_checkPlace_0 rfl (lv_at hl 2 rfl) ?_
  refine lv_if_lt (tgt := 14) hx hb kdX0_checkPlace_1 (by decide) (fun c_1 => ?_) (fun c_1 => ?_)
  · have h := kb_b_t c_1 h
    obtain rfl := Option.some.inj h
    obtain ⟨sa, hZs⟩ := hZ.2.2 (kRX0, 129, "the slot has no such byte") (by simp [kb_STR])
    exact vx_throwS (own := kRX0) (cls := "java/lang/IndexOutOfBoundsException") (names := ["java/lang/RuntimeException", "java/lang/Exception"]) hx hb hl9 hown (by decide +kernel) (by decide +kernel) (hts _ km_186) (hts _ km_10) hZs (kb_hat hts hN (by decide +kernel)) (by decide +kernel) hZ.1 hZ.2.1 hS (hl.1.trans hml.symm) kdX0_checkPlace_14 kdX0_checkPlace_17 kdX0_checkPlace_18 kdX0_checkPlace_20 kdX0_checkPlace_23 (fun x hx9 => (hno x hx9).elim) (Nat.le_of_ble_eq_true rfl) (Nat.le_of_ble_eq_true rfl) (by decide) (by decide) hlocks (fun t ha hsz hk => ⟨_, rfl, hP.kept (fun k q hq => hk q.1 (hP k q hq).lt), va_K.moved ha hK, hD, Nat.le_trans hS.1 hsz, fun q h1 h2 => (hk q (Nat.lt_of_lt_of_le h1 hS.1)).trans (hS.2.1 q h1 h2)⟩) hS.2.2 (by decide) (by decide)
  · have h := kb_b_f c_1 h
    refine lv_iload_n hx hb kdX0_checkPlace_4 rfl (lv_at hl 2 rfl) ?_
    refine lv_aload_n hx hb kdX0_checkPlace_5 rfl (lv_at hl 0 rfl) ?_
    refine va_get (ci := 0) (v := .ref (a_this 1)) (C := kRX0) (T := kTX0) (N := 6) hx hb hts kinX0 hown hK hP 0 rfl rfl 1 (by decide) (hts _ km_160) (fun _ h9 => h9) rfl kdX0_checkPlace_6 ?_
    refine lv_iload_n hx hb kdX0_checkPlace_9 rfl (lv_at hl 1 rfl) ?_
    obtain ⟨g_2, h⟩ := kb_g_s h
    refine va_iald hx hb hK hP 1 1 rfl rfl (kb_in_v g_2) kdX0_checkPlace_10 ?_
    refine lv_icmp_lt (tgt := 24) hx hb kdX0_checkPlace_11 (by decide) (fun c_3 => ?_) (fun c_3 => ?_)
    · have h := kb_b_t c_3 h
      obtain rfl := Option.some.inj h
      refine vx_ret ?_
      refine W.widen (k := 1) (n := 6) (by decide) (by decide) ?_
      exact W.vret hx hb hr (fun t ht hW => ⟨_, rfl, ⟨rfl, by rw [ht]; exact hP, va_K.moved hW.alike hK, hD⟩, hS.F ht⟩) hS.2.2 kdX0_checkPlace_24
    · have h := kb_b_f c_3 h
      obtain rfl := Option.some.inj h
      obtain ⟨sa, hZs⟩ := hZ.2.2 (kRX0, 129, "the slot has no such byte") (by simp [kb_STR])
      exact vx_throwS (own := kRX0) (cls := "java/lang/IndexOutOfBoundsException") (names := ["java/lang/RuntimeException", "java/lang/Exception"]) hx hb hl9 hown (by decide +kernel) (by decide +kernel) (hts _ km_186) (hts _ km_10) hZs (kb_hat hts hN (by decide +kernel)) (by decide +kernel) hZ.1 hZ.2.1 hS (hl.1.trans hml.symm) kdX0_checkPlace_14 kdX0_checkPlace_17 kdX0_checkPlace_18 kdX0_checkPlace_20 kdX0_checkPlace_23 (fun x hx9 => (hno x hx9).elim) (Nat.le_of_ble_eq_true rfl) (Nat.le_of_ble_eq_true rfl) (by decide) (by decide) hlocks (fun t ha hsz hk => ⟨_, rfl, hP.kept (fun k q hq => hk q.1 (hP k q hq).lt), va_K.moved ha hK, hD, Nat.le_trans hS.1 hsz, fun q h1 h2 => (hk q (Nat.lt_of_lt_of_le h1 hS.1)).trans (hS.2.1 q h1 h2)⟩) hS.2.2 (by decide) (by decide)

-- 404.ModuleKem.checkRandom.lean.txt
abbrev kWX0_checkRandom (cB cI cL cBB cII cSh : ClassId) (h_this : Nat) (a_this : Nat → Nat) (this_tapeSize : Int32) (f_this_sizes : Nat → Int32) : va_W := [(h_this, koX0 a_this this_tapeSize), ((a_this 1), .inl (cI, 8, .inl f_this_sizes))]
def krX0_checkRandom : Room := { frames := 6, cells := 1, slots := 6, locals := 90 }
set_option maxHeartbeats 4000000 in
set_option maxRecDepth 100000 in
theorem kcX0_checkRandom (l : Launch) (hl9 : l.stackTraces = false) (D : va_G) (cB cI cL cBB cII cSh : ClassId) (h_this : Nat) (a_this : Nat → Nat) (sz : Nat) (p1 : Int32) (this_tapeSize : Int32) (f_this_sizes : Nat → Int32) (out : (Unit) ⊕ (String × (Unit))) (h : kFX0_checkRandom p1 f_this_sizes = some out) : vx_Met l kyX0_checkRandom kwX0_checkRandom krX0_checkRandom (kb_PX D kCl (kb_T cB cI cL cBB cII cSh) [.ref h_this, .int p1] (kWX0_checkRandom cB cI cL cBB cII cSh h_this a_this this_tapeSize f_this_sizes) sz) (kb_QX D kCl (kb_T cB cI cL cBB cII cSh) (va_A (kWX0_checkRandom cB cI cL cBB cII cSh h_this a_this this_tapeSize f_this_sizes) sz) out (fun o => none) (fun o => (kWX0_checkRandom cB cI cL cBB cII cSh h_this a_this this_tapeSize f_this_sizes))) (kb_XX D kCl (kb_T cB cI cL cBB cII cSh) (va_A (kWX0_checkRandom cB cI cL cBB cII cSh h_this a_this this_tapeSize f_this_sizes) sz) out (fun x => (kWX0_checkRandom cB cI cL cBB cII cSh h_this a_this this_tapeSize f_this_sizes))) 1 6 (va_A (kWX0_checkRandom cB cI cL cBB cII cSh h_this a_this this_tapeSize f_this_sizes) sz) := by
  refine vx_ofW (cc := prog_1_method_17_code) (maxL := 2) (ret := none) (by decide) rfl ?_
  intro p e s m args below meth c s₁ B hml hno hv
  obtain ⟨⟨rfl, hsz, hP, hK, hN, hD0⟩, hZ⟩ := hv
  have hx := B.exec
  have hb := B.bytes
  have hr := B.returns
  have hts0 := atoms_spec (ws := kwX0_checkRandom) B.pre
  have hts : ∀ w ∈ kwA, w.before _ s = true := fun w h => hts0 w (List.mem_cons_of_mem _ h)
  have hown : s.vm.findClass kRX0 = some m.cls := findClass_of_methodNamed B.named
  have hlocks := B.notSynchronized
  subst hsz
  have hD := hD0.self (sz := s.heap.size)
  generalize hAe : va_A (kWX0_checkRandom cB cI cL cBB cII cSh h_this a_this this_tapeSize f_this_sizes) s.heap.size = A at hD hZ ⊢
  have hA : ∀ q : Nat, s.heap.size ≤ q → A q := fun q h => by rw [← hAe]; exact Or.inr h
  have hS : va_S A s.heap s.heap [] := va_S.rf
  have C0 : CallFix p m c prog_1_method_17_code 2 s _ kwA kRX0 := ⟨hx, hb, hml, hown, hts⟩
  have hl := lv_entry ([.ref h_this, .int p1]) (n := 2) (Nat.le_of_ble_eq_true rfl)
  rw [lg_entry_eq]
  generalize (lg_sl ([.ref h_this, .int p1]) ++ List.replicate (2 - (lg_sl ([.ref h_this, .int p1])).length) Slot.unset).toArray = ls at hl ⊢
  have hl : lv_has ls 2 [(0, .ref h_this), (1, .int p1)] := hl
  unfold kFX0_checkRandom at h
  refine lv_aload_n hx hb kdX0_checkRandom_0 rfl (lv_at hl 0 rfl) ?_
  refine va_get (ci := 0) (v := .ref (a_this 1)) (C := kRX0) (T := kTX0) (N := 6) hx hb hts kinX0 hown hK hP 0 rfl rfl 1 (by decide) (hts _ km_160) (fun _ h9 => h9) rfl kdX0_checkRandom_1 ?_
  refine lv_iconst (v := 0) hx hb kdX0_checkRandom_4 (by decide) ?_
  refine va_iald hx hb hK hP 1 1 rfl rfl (kb_in_v (by decide)) kdX0_checkRandom_5 ?_
  refine lv_iload_n hx hb kdX0_checkRandom_6 rfl (lv_at hl 1 rfl) ?_
  refine lv_icmp_eq (tgt := 20) hx hb kdX0_checkRandom_7 (by decide) (fun c_1 => ?_) (fun c_1 => ?_)
  · have h := kb_b_t c_1 h
    obtain rfl := Option.some.inj h
    refine vx_ret ?_
    refine W.widen (k := 1) (n := 6) (by decide) (by decide) ?_
    exact W.vret hx hb hr (fun t ht hW => ⟨_, rfl, ⟨rfl, by rw [ht]; exact hP, va_K.moved hW.alike hK, hD⟩, hS.F ht⟩) hS.2.2 kdX0_checkRandom_20
  · have h := kb_b_f c_1 h
    obtain rfl := Option.some.inj h
    obtain ⟨sa, hZs⟩ := hZ.2.2 (kRX0, 133, "RANDOM has another size") (by simp [kb_STR])
    exact vx_throwS (own := kRX0) (cls := "java/lang/IllegalStateException") (names := ["java/lang/RuntimeException", "java/lang/Exception"]) hx hb hl9 hown (by decide +kernel) (by decide +kernel) (hts _ km_363) (hts _ km_13) hZs (kb_hat hts hN (by decide +kernel)) (by decide +kernel) hZ.1 hZ.2.1 hS (hl.1.trans hml.symm) kdX0_checkRandom_10 kdX0_checkRandom_13 kdX0_checkRandom_14 kdX0_checkRandom_16 kdX0_checkRandom_19 (fun x hx9 => (hno x hx9).elim) (Nat.le_of_ble_eq_true rfl) (Nat.le_of_ble_eq_true rfl) (by decide) (by decide) hlocks (fun t ha hsz hk => ⟨_, rfl, hP.kept (fun k q hq => hk q.1 (hP k q hq).lt), va_K.moved ha hK, hD, Nat.le_trans hS.1 hsz, fun q h1 h2 => (hk q (Nat.lt_of_lt_of_le h1 hS.1)).trans (hS.2.1 q h1 h2)⟩) hS.2.2 (by decide) (by decide)

-- 405.ModuleKem.shapeOf.lean.txt
abbrev kWX0_shapeOf (cB cI cL cBB cII cSh : ClassId) (h_this : Nat) (a_this : Nat → Nat) (r_this_shapes : Nat → Nat) (this_tapeSize : Int32) (g0_this_shapes : Nat → Int32) (g1_this_shapes : Nat → Int32) (g2_this_shapes : Nat → Int32) (g3_this_shapes : Nat → Int32) : va_W := ([(h_this, koX0 a_this this_tapeSize), ((a_this 4), .inl (cSh, 3, .inr (.inr (.inr (.inr (kb_rf r_this_shapes 3))))))] ++ (kb_gw r_this_shapes 3 (fun i => .inr (3, [.int (g0_this_shapes i), .int (g1_this_shapes i), .int (g2_this_shapes i), .int (g3_this_shapes i)])) ++ []))
def krX0_shapeOf : Room := { frames := 6, cells := 1, slots := 6, locals := 90 }
set_option maxHeartbeats 4000000 in
set_option maxRecDepth 100000 in
theorem kcX0_shapeOf (l : Launch) (hl9 : l.stackTraces = false) (D : va_G) (cB cI cL cBB cII cSh : ClassId) (h_this : Nat) (a_this r_this_shapes : Nat → Nat) (sz : Nat) (p1 : Int32) (this_tapeSize : Int32) (g0_this_shapes : Nat → Int32) (g1_this_shapes : Nat → Int32) (g2_this_shapes : Nat → Int32) (g3_this_shapes : Nat → Int32) (out : (Nat) ⊕ (String × (Unit))) (h : kFX0_shapeOf p1 = some out) : vx_Met l kyX0_shapeOf kwX0_shapeOf krX0_shapeOf (kb_PX D kCl (kb_T cB cI cL cBB cII cSh) [.ref h_this, .int p1] (kWX0_shapeOf cB cI cL cBB cII cSh h_this a_this r_this_shapes this_tapeSize g0_this_shapes g1_this_shapes g2_this_shapes g3_this_shapes) sz) (kb_QX D kCl (kb_T cB cI cL cBB cII cSh) (va_A (kWX0_shapeOf cB cI cL cBB cII cSh h_this a_this r_this_shapes this_tapeSize g0_this_shapes g1_this_shapes g2_this_shapes g3_this_shapes) sz) out (fun o => (some (.ref (r_this_shapes o)))) (fun o => (kWX0_shapeOf cB cI cL cBB cII cSh h_this a_this r_this_shapes this_tapeSize g0_this_shapes g1_this_shapes g2_this_shapes g3_this_shapes))) (kb_XX D kCl (kb_T cB cI cL cBB cII cSh) (va_A (kWX0_shapeOf cB cI cL cBB cII cSh h_this a_this r_this_shapes this_tapeSize g0_this_shapes g1_this_shapes g2_this_shapes g3_this_shapes) sz) out (fun x => (kWX0_shapeOf cB cI cL cBB cII cSh h_this a_this r_this_shapes this_tapeSize g0_this_shapes g1_this_shapes g2_this_shapes g3_this_shapes))) 1 6 (va_A (kWX0_shapeOf cB cI cL cBB cII cSh h_this a_this r_this_shapes this_tapeSize g0_this_shapes g1_this_shapes g2_this_shapes g3_this_shapes) sz) := by
  refine vx_ofW (cc := prog_1_method_18_code) (maxL := 2) (ret := (some (.object "ModuleKem$Shape"))) (by decide) rfl ?_
  intro p e s m args below meth c s₁ B hml hno hv
  obtain ⟨⟨rfl, hsz, hP, hK, hN, hD0⟩, hZ⟩ := hv
  have hx := B.exec
  have hb := B.bytes
  have hr := B.returns
  have hts0 := atoms_spec (ws := kwX0_shapeOf) B.pre
  have hts : ∀ w ∈ kwA, w.before _ s = true := fun w h => hts0 w (List.mem_cons_of_mem _ h)
  have hown : s.vm.findClass kRX0 = some m.cls := findClass_of_methodNamed B.named
  have hlocks := B.notSynchronized
  subst hsz
  have hD := hD0.self (sz := s.heap.size)
  generalize hAe : va_A (kWX0_shapeOf cB cI cL cBB cII cSh h_this a_this r_this_shapes this_tapeSize g0_this_shapes g1_this_shapes g2_this_shapes g3_this_shapes) s.heap.size = A at hD hZ ⊢
  have hA : ∀ q : Nat, s.heap.size ≤ q → A q := fun q h => by rw [← hAe]; exact Or.inr h
  have hS : va_S A s.heap s.heap [] := va_S.rf
  have C0 : CallFix p m c prog_1_method_18_code 2 s _ kwA kRX0 := ⟨hx, hb, hml, hown, hts⟩
  have hl := lv_entry ([.ref h_this, .int p1]) (n := 2) (Nat.le_of_ble_eq_true rfl)
  rw [lg_entry_eq]
  generalize (lg_sl ([.ref h_this, .int p1]) ++ List.replicate (2 - (lg_sl ([.ref h_this, .int p1])).length) Slot.unset).toArray = ls at hl ⊢
  have hl : lv_has ls 2 [(0, .ref h_this), (1, .int p1)] := hl
  unfold kFX0_shapeOf at h
  refine lv_iload_n hx hb kdX0_shapeOf_0 rfl (lv_at hl 1 rfl) ?_
  refine lv_if_lt (tgt := 13) hx hb kdX0_shapeOf_1 (by decide) (fun c_1 => ?_) (fun c_1 => ?_)
  · have h := kb_b_t c_1 h
    obtain rfl := Option.some.inj h
    obtain ⟨sa, hZs⟩ := hZ.2.2 (kRX0, 136, "a set is 0 .. 2") (by simp [kb_STR])
    exact vx_throwS (own := kRX0) (cls := "java/lang/IllegalArgumentException") (names := ["java/lang/RuntimeException", "java/lang/Exception"]) hx hb hl9 hown (by decide +kernel) (by decide +kernel) (hts _ km_270) (hts _ km_11) hZs (kb_hat hts hN (by decide +kernel)) (by decide +kernel) hZ.1 hZ.2.1 hS (hl.1.trans hml.symm) kdX0_shapeOf_13 kdX0_shapeOf_16 kdX0_shapeOf_17 kdX0_shapeOf_19 kdX0_shapeOf_22 (fun x hx9 => (hno x hx9).elim) (Nat.le_of_ble_eq_true rfl) (Nat.le_of_ble_eq_true rfl) (by decide) (by decide) hlocks (fun t ha hsz hk => ⟨_, rfl, hP.kept (fun k q hq => hk q.1 (hP k q hq).lt), va_K.moved ha hK, hD, Nat.le_trans hS.1 hsz, fun q h1 h2 => (hk q (Nat.lt_of_lt_of_le h1 hS.1)).trans (hS.2.1 q h1 h2)⟩) hS.2.2 (by decide) (by decide)
  · have h := kb_b_f c_1 h
    refine lv_iload_n hx hb kdX0_shapeOf_4 rfl (lv_at hl 1 rfl) ?_
    refine lv_aload_n hx hb kdX0_shapeOf_5 rfl (lv_at hl 0 rfl) ?_
    refine va_get (ci := 0) (v := .ref (a_this 4)) (C := kRX0) (T := kTX0) (N := 6) hx hb hts kinX0 hown hK hP 0 rfl rfl 4 (by decide) (hts _ km_163) (fun _ h9 => h9) rfl kdX0_shapeOf_6 ?_
    refine va_alen (v := Int32.ofNat 3) hx hb hK hP 1 5 rfl rfl rfl kdX0_shapeOf_9 ?_
    refine lv_icmp_lt (tgt := 23) hx hb kdX0_shapeOf_10 (by decide) (fun c_2 => ?_) (fun c_2 => ?_)
    · have h := kb_b_t c_2 h
      refine lv_aload_n hx hb kdX0_shapeOf_23 rfl (lv_at hl 0 rfl) ?_
      refine va_get (ci := 0) (v := .ref (a_this 4)) (C := kRX0) (T := kTX0) (N := 6) hx hb hts kinX0 hown hK hP 0 rfl rfl 4 (by decide) (hts _ km_163) (fun _ h9 => h9) rfl kdX0_shapeOf_24 ?_
      refine lv_iload_n hx hb kdX0_shapeOf_27 rfl (lv_at hl 1 rfl) ?_
      obtain ⟨g_3, h⟩ := kb_g_s h
      refine kb_aald (j := p1.toNatClampNeg) hx hb hK hP 1 5 rfl rfl rfl rfl (kb_in_v g_3) kdX0_shapeOf_28 ?_
      obtain rfl := Option.some.inj h
      refine vx_ret ?_
      refine W.widen (k := 1) (n := 6) (by decide) (by decide) ?_
      exact W.aret (v := .ref (r_this_shapes p1.toNatClampNeg)) hx hb hr (Or.inl ⟨_, rfl⟩) (Or.inr ⟨_, rfl⟩) (fun t ht hW => ⟨_, rfl, ⟨rfl, by rw [ht]; exact hP, va_K.moved hW.alike hK, hD⟩, hS.F ht⟩) hS.2.2 kdX0_shapeOf_29
    · have h := kb_b_f c_2 h
      obtain rfl := Option.some.inj h
      obtain ⟨sa, hZs⟩ := hZ.2.2 (kRX0, 136, "a set is 0 .. 2") (by simp [kb_STR])
      exact vx_throwS (own := kRX0) (cls := "java/lang/IllegalArgumentException") (names := ["java/lang/RuntimeException", "java/lang/Exception"]) hx hb hl9 hown (by decide +kernel) (by decide +kernel) (hts _ km_270) (hts _ km_11) hZs (kb_hat hts hN (by decide +kernel)) (by decide +kernel) hZ.1 hZ.2.1 hS (hl.1.trans hml.symm) kdX0_shapeOf_13 kdX0_shapeOf_16 kdX0_shapeOf_17 kdX0_shapeOf_19 kdX0_shapeOf_22 (fun x hx9 => (hno x hx9).elim) (Nat.le_of_ble_eq_true rfl) (Nat.le_of_ble_eq_true rfl) (by decide) (by decide) hlocks (fun t ha hsz hk => ⟨_, rfl, hP.kept (fun k q hq => hk q.1 (hP k q hq).lt), va_K.moved ha hK, hD, Nat.le_trans hS.1 hsz, fun q h1 h2 => (hk q (Nat.lt_of_lt_of_le h1 hS.1)).trans (hS.2.1 q h1 h2)⟩) hS.2.2 (by decide) (by decide)

-- 406.ModuleKem.startAlike.lean.txt
abbrev kWX0_startAlike (cB cI cL cBB cII cSh : ClassId) (h_a1 : Nat) (n_a1 : Nat) (h_a3 : Nat) (n_a3 : Nat) (f_a1 : Nat → Int32) (f_a3 : Nat → Int32) : va_W := [(h_a1, .inl (cB, n_a1, .inl f_a1)), (h_a3, .inl (cB, n_a3, .inl f_a3))]
def krX0_startAlike : Room := { frames := 0, cells := 0, slots := 0, locals := 0 }
set_option maxHeartbeats 4000000 in
set_option maxRecDepth 100000 in
theorem klX0_startAlike_6 {p : Program} {l : Launch} {e : Env} {s : State} {m : MethodId} {args : Array Value} {below : List Frame} {meth : Method} {c : Code} {cells slots : Nat} {Q : State → Prop} {D : va_G} {cB cI cL cBB cII cSh : ClassId} {A : Nat → Prop} (C0 : CallFix p m c prog_1_method_19_code 6 s args kwA kRX0) (hlocks : meth.locks = false) (hK : va_K D kCl (kb_T cB cI cL cBB cII cSh) s) (hN : kb_N s) (hA : ∀ q, s.heap.size ≤ q → A q) (hcR : cells ≤ krX0_startAlike.cells) (hsR : slots ≤ krX0_startAlike.slots) (h_a1 h_a3 : Nat) (p2 : Int32) (p4 : Int32) (n_a1 : Nat) (n_a3 : Nat) (f_a1 : Nat → Int32) (f_a3 : Nat → Int32) :
    ∀ (fuel : Nat) (x4p6 : Int32) (x5p6 : Int32) (r : Int32 × Int32), kb_w (fun u : Int32 × Int32 => kSX0_startAlike_6 p2 p4 n_a1 n_a3 f_a1 f_a3 u.1 u.2) fuel (x4p6, x5p6) = some r → ∀ (H : Heap) (locs : List Loc) (ls : Array Slot), va_P D kCl (kWX0_startAlike cB cI cL cBB cII cSh h_a1 n_a1 h_a3 n_a3 f_a1 f_a3) H → va_D A (kWX0_startAlike cB cI cL cBB cII cSh h_a1 n_a1 h_a3 n_a3 f_a1 f_a3) → va_S A s.heap H locs → lv_has ls 6 [(0, .ref h_a1), (1, .int p2), (2, .ref h_a3), (3, .int p4), (4, .int x4p6), (5, .int x5p6)] → (∀ (x4p6' : Int32) (x5p6' : Int32), r = (x4p6', x5p6') → ∀ (H : Heap) (locs : List Loc) (ls : Array Slot), va_P D kCl (kWX0_startAlike cB cI cL cBB cII cSh h_a1 n_a1 h_a3 n_a3 f_a1 f_a3) H → va_D A (kWX0_startAlike cB cI cL cBB cII cSh h_a1 n_a1 h_a3 n_a3 f_a1 f_a3) → va_S A s.heap H locs → lv_has ls 6 [(0, .ref h_a1), (1, .int p2), (2, .ref h_a3), (3, .int p4), (4, .int x4p6'), (5, .int x5p6')] → W p l e krX0_startAlike s m args below meth c H locs cells slots Q (F0 m 34 ls [])) → W p l e krX0_startAlike s m args below meth c H locs cells slots Q (F0 m 6 ls []) := by
  obtain ⟨hx, hb, hml, hown, hts⟩ := id C0
  intro fuel
  induction fuel with
  | zero =>
    intro x4p6 x5p6 r h
    exact absurd h (kb_w_z _ _ _)
  | succ fuel ih =>
    intro x4p6 x5p6 r h H locs ls hP hD hS hl hk0
    obtain ⟨o, h, ho⟩ := kb_w_s h
    have h : kSX0_startAlike_6 p2 p4 n_a1 n_a3 f_a1 f_a3 x4p6 x5p6 = some o := h
    unfold kSX0_startAlike_6 at h
    refine lv_iload hx hb kdX0_startAlike_6 (lv_at hl 5 rfl) ?_
    refine lv_iload_n hx hb kdX0_startAlike_8 rfl (lv_at hl 3 rfl) ?_
    refine lv_icmp_ge (tgt := 34) hx hb kdX0_startAlike_9 (by decide) (fun c_1 => ?_) (fun c_1 => ?_)
    · have h := kb_b_t c_1 h
      obtain rfl := Option.some.inj h
      exact hk0 x4p6 x5p6 ho.symm _ _ _ hP hD hS (lv_sub hl [0, 1, 2, 3, 4, 5] rfl)
    · have h := kb_b_f c_1 h
      refine lv_iload hx hb kdX0_startAlike_12 (lv_at hl 4 rfl) ?_
      refine lv_aload_n hx hb kdX0_startAlike_14 rfl (lv_at hl 0 rfl) ?_
      refine lv_iload_n hx hb kdX0_startAlike_15 rfl (lv_at hl 1 rfl) ?_
      refine lv_iload hx hb kdX0_startAlike_16 (lv_at hl 5 rfl) ?_
      refine lv_iadd hx hb kdX0_startAlike_18 ?_
      obtain ⟨g_2, h⟩ := kb_g_s h
      refine va_bald hx hb hK hP 0 0 rfl rfl (kb_in_v g_2) kdX0_startAlike_19 ?_
      refine lv_aload_n hx hb kdX0_startAlike_20 rfl (lv_at hl 2 rfl) ?_
      refine lv_iload hx hb kdX0_startAlike_21 (lv_at hl 5 rfl) ?_
      obtain ⟨g_3, h⟩ := kb_g_s h
      refine va_bald hx hb hK hP 1 0 rfl rfl (kb_in_v g_3) kdX0_startAlike_23 ?_
      refine lv_ixor hx hb kdX0_startAlike_24 ?_
      refine lv_ior hx hb kdX0_startAlike_25 ?_
      refine lv_topi (fun x4_4 ex4_4 => ?_)
      have h := kb_n_s ex4_4 h
      refine lv_istore (lv' := [(4, .int x4_4), (0, .ref h_a1), (1, .int p2), (2, .ref h_a3), (3, .int p4), (5, .int x5p6)]) hx hb kdX0_startAlike_26 hl (by decide) rfl (fun ls hl => ?_)
      obtain ⟨x5_5, ex5_5⟩ : ∃ y : Int32, y = x5p6 + Int32.ofInt 1 := ⟨_, rfl⟩
      have h := kb_n_s ex5_5 h
      refine lv_iinc (v := x5_5) (lv' := [(5, .int x5_5), (4, .int x4_4), (0, .ref h_a1), (1, .int p2), (2, .ref h_a3), (3, .int p4)]) hx hb kdX0_startAlike_28 hl (k := 5) rfl ex5_5.symm (by decide) rfl (fun ls hl => ?_)
      refine lv_goto (tgt := 6) hx hb kdX0_startAlike_31 (by decide) ?_
      obtain rfl := Option.some.inj h
      exact ih x4_4 x5_5 r ho _ _ _ hP hD hS (lv_sub hl [2, 3, 4, 5, 1, 0] rfl) hk0
set_option maxHeartbeats 4000000 in
set_option maxRecDepth 100000 in
theorem kcX0_startAlike (l : Launch) (D : va_G) (cB cI cL cBB cII cSh : ClassId) (h_a1 h_a3 : Nat) (sz : Nat) (p2 : Int32) (p4 : Int32) (n_a1 : Nat) (n_a3 : Nat) (f_a1 : Nat → Int32) (f_a3 : Nat → Int32) (out : Int32) (h : kFX0_startAlike p2 p4 n_a1 n_a3 f_a1 f_a3 = some out) : Met l kyX0_startAlike kwX0_startAlike krX0_startAlike (kb_P D kCl (kb_T cB cI cL cBB cII cSh) [.ref h_a1, .int p2, .ref h_a3, .int p4] (kWX0_startAlike cB cI cL cBB cII cSh h_a1 n_a1 h_a3 n_a3 f_a1 f_a3) sz) (kb_Q D kCl (kb_T cB cI cL cBB cII cSh) (va_A (kWX0_startAlike cB cI cL cBB cII cSh h_a1 n_a1 h_a3 n_a3 f_a1 f_a3) sz) (some (.int out)) (kWX0_startAlike cB cI cL cBB cII cSh h_a1 n_a1 h_a3 n_a3 f_a1 f_a3)) 0 0 (va_A (kWX0_startAlike cB cI cL cBB cII cSh h_a1 n_a1 h_a3 n_a3 f_a1 f_a3) sz) := by
  refine Met.ofW (cc := prog_1_method_19_code) (maxL := 6) (ret := (some .boolean)) (by decide) rfl ?_
  intro p e s m args below meth c s₁ B hml hv
  obtain ⟨rfl, hsz, hP, hK, hN, hD0⟩ := hv
  have hx := B.exec
  have hb := B.bytes
  have hr := B.returns
  have hts0 := atoms_spec (ws := kwX0_startAlike) B.pre
  have hts : ∀ w ∈ kwA, w.before _ s = true := fun w h => hts0 w (List.mem_cons_of_mem _ h)
  have hown : s.vm.findClass kRX0 = some m.cls := findClass_of_methodNamed B.named
  have hlocks := B.notSynchronized
  subst hsz
  have hD := hD0.self (sz := s.heap.size)
  generalize hAe : va_A (kWX0_startAlike cB cI cL cBB cII cSh h_a1 n_a1 h_a3 n_a3 f_a1 f_a3) s.heap.size = A at hD ⊢
  have hA : ∀ q : Nat, s.heap.size ≤ q → A q := fun q h => by rw [← hAe]; exact Or.inr h
  have hS : va_S A s.heap s.heap [] := va_S.rf
  have C0 : CallFix p m c prog_1_method_19_code 6 s _ kwA kRX0 := ⟨hx, hb, hml, hown, hts⟩
  have hl := lv_entry ([.ref h_a1, .int p2, .ref h_a3, .int p4]) (n := 6) (Nat.le_of_ble_eq_true rfl)
  rw [lg_entry_eq]
  generalize (lg_sl ([.ref h_a1, .int p2, .ref h_a3, .int p4]) ++ List.replicate (6 - (lg_sl ([.ref h_a1, .int p2, .ref h_a3, .int p4])).length) Slot.unset).toArray = ls at hl ⊢
  have hl : lv_has ls 6 [(0, .ref h_a1), (1, .int p2), (2, .ref h_a3), (3, .int p4)] := hl
  unfold kFX0_startAlike at h
  refine lv_iconst (v := 0) hx hb kdX0_startAlike_0 (by decide) ?_
  refine lv_istore (lv' := [(4, .int (0 : Int32)), (0, .ref h_a1), (1, .int p2), (2, .ref h_a3), (3, .int p4)]) hx hb kdX0_startAlike_1 hl (by decide) rfl (fun ls hl => ?_)
  refine lv_iconst (v := 0) hx hb kdX0_startAlike_3 (by decide) ?_
  refine lv_istore (lv' := [(5, .int (0 : Int32)), (4, .int (0 : Int32)), (0, .ref h_a1), (1, .int p2), (2, .ref h_a3), (3, .int p4)]) hx hb kdX0_startAlike_4 hl (by decide) rfl (fun ls hl => ?_)
  obtain ⟨r_9, hr_9, h⟩ := kb_o_s h
  refine klX0_startAlike_6 C0 hlocks hK hN hA (by decide) (by decide) h_a1 h_a3 p2 p4 n_a1 n_a3 f_a1 f_a3 100000 (0 : Int32) (0 : Int32) r_9 hr_9 _ _ _ hP hD hS (lv_sub hl [2, 3, 4, 5, 1, 0] rfl) (fun x4p6_6 x5p6_7 er_9 H locs ls hP hD hS hl => ?_)
  subst er_9
  refine lv_iload hx hb kdX0_startAlike_34 (lv_at hl 4 rfl) ?_
  refine lv_if_ne (tgt := 43) hx hb kdX0_startAlike_36 (by decide) (fun c_8 => ?_) (fun c_8 => ?_)
  · have h := kb_b_f c_8 h
    refine lv_iconst (v := 0) hx hb kdX0_startAlike_43 (by decide) ?_
    obtain rfl := Option.some.inj h
    exact W.zret (v := (0 : Int32)) (ty := .boolean) hx hb hr (by decide) (fun t ht hW => ⟨⟨rfl, by rw [ht]; exact hP, va_K.moved hW.alike hK, hD⟩, hS.F ht⟩) hS.2.2 kdX0_startAlike_44
  · have h := kb_b_t c_8 h
    refine lv_iconst (v := 1) hx hb kdX0_startAlike_39 (by decide) ?_
    refine lv_goto (tgt := 44) hx hb kdX0_startAlike_40 (by decide) ?_
    obtain rfl := Option.some.inj h
    exact W.zret (v := (1 : Int32)) (ty := .boolean) hx hb hr (by decide) (fun t ht hW => ⟨⟨rfl, by rw [ht]; exact hP, va_K.moved hW.alike hK, hD⟩, hS.F ht⟩) hS.2.2 kdX0_startAlike_44

-- 407.ModuleKem.startAlikeS.lean.txt
abbrev kWX0_startAlikeS (cB cI cL cBB cII cSh : ClassId) (h_a1 : Nat) (n_a1 : Nat) (f_a1 : Nat → Int32) : va_W := [(h_a1, .inl (cB, n_a1, .inl f_a1))]
def krX0_startAlikeS : Room := { frames := 0, cells := 0, slots := 0, locals := 0 }
set_option maxHeartbeats 4000000 in
set_option maxRecDepth 100000 in
theorem klX0_startAlikeS_6 {p : Program} {l : Launch} {e : Env} {s : State} {m : MethodId} {args : Array Value} {below : List Frame} {meth : Method} {c : Code} {cells slots : Nat} {Q : State → Prop} {D : va_G} {cB cI cL cBB cII cSh : ClassId} {A : Nat → Prop} (C0 : CallFix p m c prog_1_method_19_code 6 s args kwA kRX0) (hlocks : meth.locks = false) (hK : va_K D kCl (kb_T cB cI cL cBB cII cSh) s) (hN : kb_N s) (hA : ∀ q, s.heap.size ≤ q → A q) (hcR : cells ≤ krX0_startAlikeS.cells) (hsR : slots ≤ krX0_startAlikeS.slots) (h_a1 : Nat) (p2 : Int32) (p4 : Int32) (n_a1 : Nat) (f_a1 : Nat → Int32) :
    ∀ (fuel : Nat) (x4p6 : Int32) (x5p6 : Int32) (r : Int32 × Int32), kb_w (fun u : Int32 × Int32 => kSX0_startAlikeS_6 p2 p4 n_a1 f_a1 u.1 u.2) fuel (x4p6, x5p6) = some r → ∀ (H : Heap) (locs : List Loc) (ls : Array Slot), va_P D kCl (kWX0_startAlikeS cB cI cL cBB cII cSh h_a1 n_a1 f_a1) H → va_D A (kWX0_startAlikeS cB cI cL cBB cII cSh h_a1 n_a1 f_a1) → va_S A s.heap H locs → lv_has ls 6 [(0, .ref h_a1), (1, .int p2), (2, .ref h_a1), (3, .int p4), (4, .int x4p6), (5, .int x5p6)] → (∀ (x4p6' : Int32) (x5p6' : Int32), r = (x4p6', x5p6') → ∀ (H : Heap) (locs : List Loc) (ls : Array Slot), va_P D kCl (kWX0_startAlikeS cB cI cL cBB cII cSh h_a1 n_a1 f_a1) H → va_D A (kWX0_startAlikeS cB cI cL cBB cII cSh h_a1 n_a1 f_a1) → va_S A s.heap H locs → lv_has ls 6 [(0, .ref h_a1), (1, .int p2), (2, .ref h_a1), (3, .int p4), (4, .int x4p6'), (5, .int x5p6')] → W p l e krX0_startAlikeS s m args below meth c H locs cells slots Q (F0 m 34 ls [])) → W p l e krX0_startAlikeS s m args below meth c H locs cells slots Q (F0 m 6 ls []) := by
  obtain ⟨hx, hb, hml, hown, hts⟩ := id C0
  intro fuel
  induction fuel with
  | zero =>
    intro x4p6 x5p6 r h
    exact absurd h (kb_w_z _ _ _)
  | succ fuel ih =>
    intro x4p6 x5p6 r h H locs ls hP hD hS hl hk0
    obtain ⟨o, h, ho⟩ := kb_w_s h
    have h : kSX0_startAlikeS_6 p2 p4 n_a1 f_a1 x4p6 x5p6 = some o := h
    unfold kSX0_startAlikeS_6 at h
    refine lv_iload hx hb kdX0_startAlike_6 (lv_at hl 5 rfl) ?_
    refine lv_iload_n hx hb kdX0_startAlike_8 rfl (lv_at hl 3 rfl) ?_
    refine lv_icmp_ge (tgt := 34) hx hb kdX0_startAlike_9 (by decide) (fun c_1 => ?_) (fun c_1 => ?_)
    · have h := kb_b_t c_1 h
      obtain rfl := Option.some.inj h
      exact hk0 x4p6 x5p6 ho.symm _ _ _ hP hD hS (lv_sub hl [0, 1, 2, 3, 4, 5] rfl)
    · have h := kb_b_f c_1 h
      refine lv_iload hx hb kdX0_startAlike_12 (lv_at hl 4 rfl) ?_
      refine lv_aload_n hx hb kdX0_startAlike_14 rfl (lv_at hl 0 rfl) ?_
      refine lv_iload_n hx hb kdX0_startAlike_15 rfl (lv_at hl 1 rfl) ?_
      refine lv_iload hx hb kdX0_startAlike_16 (lv_at hl 5 rfl) ?_
      refine lv_iadd hx hb kdX0_startAlike_18 ?_
      obtain ⟨g_2, h⟩ := kb_g_s h
      refine va_bald hx hb hK hP 0 0 rfl rfl (kb_in_v g_2) kdX0_startAlike_19 ?_
      refine lv_aload_n hx hb kdX0_startAlike_20 rfl (lv_at hl 2 rfl) ?_
      refine lv_iload hx hb kdX0_startAlike_21 (lv_at hl 5 rfl) ?_
      obtain ⟨g_3, h⟩ := kb_g_s h
      refine va_bald hx hb hK hP 0 0 rfl rfl (kb_in_v g_3) kdX0_startAlike_23 ?_
      refine lv_ixor hx hb kdX0_startAlike_24 ?_
      refine lv_ior hx hb kdX0_startAlike_25 ?_
      refine lv_topi (fun x4_4 ex4_4 => ?_)
      have h := kb_n_s ex4_4 h
      refine lv_istore (lv' := [(4, .int x4_4), (0, .ref h_a1), (1, .int p2), (2, .ref h_a1), (3, .int p4), (5, .int x5p6)]) hx hb kdX0_startAlike_26 hl (by decide) rfl (fun ls hl => ?_)
      obtain ⟨x5_5, ex5_5⟩ : ∃ y : Int32, y = x5p6 + Int32.ofInt 1 := ⟨_, rfl⟩
      have h := kb_n_s ex5_5 h
      refine lv_iinc (v := x5_5) (lv' := [(5, .int x5_5), (4, .int x4_4), (0, .ref h_a1), (1, .int p2), (2, .ref h_a1), (3, .int p4)]) hx hb kdX0_startAlike_28 hl (k := 5) rfl ex5_5.symm (by decide) rfl (fun ls hl => ?_)
      refine lv_goto (tgt := 6) hx hb kdX0_startAlike_31 (by decide) ?_
      obtain rfl := Option.some.inj h
      exact ih x4_4 x5_5 r ho _ _ _ hP hD hS (lv_sub hl [2, 3, 4, 5, 1, 0] rfl) hk0
set_option maxHeartbeats 4000000 in
set_option maxRecDepth 100000 in
theorem kcX0_startAlikeS (l : Launch) (D : va_G) (cB cI cL cBB cII cSh : ClassId) (h_a1 : Nat) (sz : Nat) (p2 : Int32) (p4 : Int32) (n_a1 : Nat) (f_a1 : Nat → Int32) (out : Int32) (h : kFX0_startAlikeS p2 p4 n_a1 f_a1 = some out) : Met l kyX0_startAlike kwX0_startAlike krX0_startAlikeS (kb_P D kCl (kb_T cB cI cL cBB cII cSh) [.ref h_a1, .int p2, .ref h_a1, .int p4] (kWX0_startAlikeS cB cI cL cBB cII cSh h_a1 n_a1 f_a1) sz) (kb_Q D kCl (kb_T cB cI cL cBB cII cSh) (va_A (kWX0_startAlikeS cB cI cL cBB cII cSh h_a1 n_a1 f_a1) sz) (some (.int out)) (kWX0_startAlikeS cB cI cL cBB cII cSh h_a1 n_a1 f_a1)) 0 0 (va_A (kWX0_startAlikeS cB cI cL cBB cII cSh h_a1 n_a1 f_a1) sz) := by
  refine Met.ofW (cc := prog_1_method_19_code) (maxL := 6) (ret := (some .boolean)) (by decide) rfl ?_
  intro p e s m args below meth c s₁ B hml hv
  obtain ⟨rfl, hsz, hP, hK, hN, hD0⟩ := hv
  have hx := B.exec
  have hb := B.bytes
  have hr := B.returns
  have hts0 := atoms_spec (ws := kwX0_startAlike) B.pre
  have hts : ∀ w ∈ kwA, w.before _ s = true := fun w h => hts0 w (List.mem_cons_of_mem _ h)
  have hown : s.vm.findClass kRX0 = some m.cls := findClass_of_methodNamed B.named
  have hlocks := B.notSynchronized
  subst hsz
  have hD := hD0.self (sz := s.heap.size)
  generalize hAe : va_A (kWX0_startAlikeS cB cI cL cBB cII cSh h_a1 n_a1 f_a1) s.heap.size = A at hD ⊢
  have hA : ∀ q : Nat, s.heap.size ≤ q → A q := fun q h => by rw [← hAe]; exact Or.inr h
  have hS : va_S A s.heap s.heap [] := va_S.rf
  have C0 : CallFix p m c prog_1_method_19_code 6 s _ kwA kRX0 := ⟨hx, hb, hml, hown, hts⟩
  have hl := lv_entry ([.ref h_a1, .int p2, .ref h_a1, .int p4]) (n := 6) (Nat.le_of_ble_eq_true rfl)
  rw [lg_entry_eq]
  generalize (lg_sl ([.ref h_a1, .int p2, .ref h_a1, .int p4]) ++ List.replicate (6 - (lg_sl ([.ref h_a1, .int p2, .ref h_a1, .int p4])).length) Slot.unset).toArray = ls at hl ⊢
  have hl : lv_has ls 6 [(0, .ref h_a1), (1, .int p2), (2, .ref h_a1), (3, .int p4)] := hl
  unfold kFX0_startAlikeS at h
  refine lv_iconst (v := 0) hx hb kdX0_startAlike_0 (by decide) ?_
  refine lv_istore (lv' := [(4, .int (0 : Int32)), (0, .ref h_a1), (1, .int p2), (2, .ref h_a1), (3, .int p4)]) hx hb kdX0_startAlike_1 hl (by decide) rfl (fun ls hl => ?_)
  refine lv_iconst (v := 0) hx hb kdX0_startAlike_3 (by decide) ?_
  refine lv_istore (lv' := [(5, .int (0 : Int32)), (4, .int (0 : Int32)), (0, .ref h_a1), (1, .int p2), (2, .ref h_a1), (3, .int p4)]) hx hb kdX0_startAlike_4 hl (by decide) rfl (fun ls hl => ?_)
  obtain ⟨r_9, hr_9, h⟩ := kb_o_s h
  refine klX0_startAlikeS_6 C0 hlocks hK hN hA (by decide) (by decide) h_a1 p2 p4 n_a1 f_a1 100000 (0 : Int32) (0 : Int32) r_9 hr_9 _ _ _ hP hD hS (lv_sub hl [2, 3, 4, 5, 1, 0] rfl) (fun x4p6_6 x5p6_7 er_9 H locs ls hP hD hS hl => ?_)
  subst er_9
  refine lv_iload hx hb kdX0_startAlike_34 (lv_at hl 4 rfl) ?_
  refine lv_if_ne (tgt := 43) hx hb kdX0_startAlike_36 (by decide) (fun c_8 => ?_) (fun c_8 => ?_)
  · have h := kb_b_f c_8 h
    refine lv_iconst (v := 0) hx hb kdX0_startAlike_43 (by decide) ?_
    obtain rfl := Option.some.inj h
    exact W.zret (v := (0 : Int32)) (ty := .boolean) hx hb hr (by decide) (fun t ht hW => ⟨⟨rfl, by rw [ht]; exact hP, va_K.moved hW.alike hK, hD⟩, hS.F ht⟩) hS.2.2 kdX0_startAlike_44
  · have h := kb_b_t c_8 h
    refine lv_iconst (v := 1) hx hb kdX0_startAlike_39 (by decide) ?_
    refine lv_goto (tgt := 44) hx hb kdX0_startAlike_40 (by decide) ?_
    obtain rfl := Option.some.inj h
    exact W.zret (v := (1 : Int32)) (ty := .boolean) hx hb hr (by decide) (fun t ht hW => ⟨⟨rfl, by rw [ht]; exact hP, va_K.moved hW.alike hK, hD⟩, hS.F ht⟩) hS.2.2 kdX0_startAlike_44

-- 408.ModuleKemModel.thrown.lean.txt
abbrev kWX5_thrown (cB cI cL cBB cII cSh : ClassId) (h_this : Nat) (a_this : Nat → Nat) (this_taped : Int32) (this_code : Int32) (this_kind : Int32) (this_rate : Int32) (this_filled : Int32) (this_total : Int64) (this_bitAt : Int32) (this_k : Int32) (this_e1 : Int32) (this_du : Int32) (this_dv : Int32) : va_W := [(h_this, koX5 a_this this_taped this_code this_kind this_rate this_filled this_total this_bitAt this_k this_e1 this_du this_dv)]
def krX5_thrown : Room := { frames := 0, cells := 0, slots := 0, locals := 0 }
set_option maxHeartbeats 4000000 in
set_option maxRecDepth 100000 in
theorem kcX5_thrown (l : Launch) (D : va_G) (cB cI cL cBB cII cSh : ClassId) (h_this : Nat) (a_this : Nat → Nat) (sz : Nat) (this_taped : Int32) (this_code : Int32) (this_kind : Int32) (this_rate : Int32) (this_filled : Int32) (this_total : Int64) (this_bitAt : Int32) (this_k : Int32) (this_e1 : Int32) (this_du : Int32) (this_dv : Int32) (out : Int32) (h : kFX5_thrown this_code = some out) : Met l kyX5_thrown kwX5_thrown krX5_thrown (kb_P D kCl (kb_T cB cI cL cBB cII cSh) [.ref h_this] (kWX5_thrown cB cI cL cBB cII cSh h_this a_this this_taped this_code this_kind this_rate this_filled this_total this_bitAt this_k this_e1 this_du this_dv) sz) (kb_Q D kCl (kb_T cB cI cL cBB cII cSh) (va_A (kWX5_thrown cB cI cL cBB cII cSh h_this a_this this_taped this_code this_kind this_rate this_filled this_total this_bitAt this_k this_e1 this_du this_dv) sz) (some (.int out)) (kWX5_thrown cB cI cL cBB cII cSh h_this a_this this_taped this_code this_kind this_rate this_filled this_total this_bitAt this_k this_e1 this_du this_dv)) 0 0 (va_A (kWX5_thrown cB cI cL cBB cII cSh h_this a_this this_taped this_code this_kind this_rate this_filled this_total this_bitAt this_k this_e1 this_du this_dv) sz) := by
  refine Met.ofW (cc := prog_8_method_2_code) (maxL := 1) (ret := (some .int)) (by decide) rfl ?_
  intro p e s m args below meth c s₁ B hml hv
  obtain ⟨rfl, hsz, hP, hK, hN, hD0⟩ := hv
  have hx := B.exec
  have hb := B.bytes
  have hr := B.returns
  have hts0 := atoms_spec (ws := kwX5_thrown) B.pre
  have hts : ∀ w ∈ kwA, w.before _ s = true := fun w h => hts0 w (List.mem_cons_of_mem _ h)
  have hown : s.vm.findClass kRX5 = some m.cls := findClass_of_methodNamed B.named
  have hlocks := B.notSynchronized
  subst hsz
  have hD := hD0.self (sz := s.heap.size)
  generalize hAe : va_A (kWX5_thrown cB cI cL cBB cII cSh h_this a_this this_taped this_code this_kind this_rate this_filled this_total this_bitAt this_k this_e1 this_du this_dv) s.heap.size = A at hD ⊢
  have hA : ∀ q : Nat, s.heap.size ≤ q → A q := fun q h => by rw [← hAe]; exact Or.inr h
  have hS : va_S A s.heap s.heap [] := va_S.rf
  have C0 : CallFix p m c prog_8_method_2_code 1 s _ kwA kRX5 := ⟨hx, hb, hml, hown, hts⟩
  have hl := lv_entry ([.ref h_this]) (n := 1) (Nat.le_of_ble_eq_true rfl)
  rw [lg_entry_eq]
  generalize (lg_sl ([.ref h_this]) ++ List.replicate (1 - (lg_sl ([.ref h_this])).length) Slot.unset).toArray = ls at hl ⊢
  have hl : lv_has ls 1 [(0, .ref h_this)] := hl
  unfold kFX5_thrown at h
  refine lv_aload_n hx hb kdX5_thrown_0 rfl (lv_at hl 0 rfl) ?_
  refine va_get (ci := 5) (v := .int this_code) (C := kRX5) (T := kTX5) (N := 35) hx hb hts kinX5 hown hK hP 0 rfl rfl 4 (by decide) (hts _ km_685) (fun _ h9 => h9) rfl kdX5_thrown_1 ?_
  obtain rfl := Option.some.inj h
  exact W.iret (v := this_code) hx hb hr (fun t ht hW => ⟨⟨rfl, by rw [ht]; exact hP, va_K.moved hW.alike hK, hD⟩, hS.F ht⟩) hS.2.2 kdX5_thrown_4

-- 409.ModuleKemModel.in.lean.txt
abbrev kWX5_in (cB cI cL cBB cII cSh : ClassId)   : va_W := []
def krX5_in : Room := { frames := 0, cells := 0, slots := 0, locals := 0 }
set_option maxHeartbeats 4000000 in
set_option maxRecDepth 100000 in
theorem kcX5_in (l : Launch) (D : va_G) (cB cI cL cBB cII cSh : ClassId)  (sz : Nat) (p1 : Int32) (p2 : Int32) (p3 : Int32) (out : Int32) (h : kFX5_in p1 p2 p3 = some out) : Met l kyX5_in kwX5_in krX5_in (kb_P D kCl (kb_T cB cI cL cBB cII cSh) [.int p1, .int p2, .int p3] (kWX5_in cB cI cL cBB cII cSh) sz) (kb_Q D kCl (kb_T cB cI cL cBB cII cSh) (va_A (kWX5_in cB cI cL cBB cII cSh) sz) (some (.int out)) (kWX5_in cB cI cL cBB cII cSh)) 0 0 (va_A (kWX5_in cB cI cL cBB cII cSh) sz) := by
  refine Met.ofW (cc := prog_8_method_3_code) (maxL := 3) (ret := (some .boolean)) (by decide) rfl ?_
  intro p e s m args below meth c s₁ B hml hv
  obtain ⟨rfl, hsz, hP, hK, hN, hD0⟩ := hv
  have hx := B.exec
  have hb := B.bytes
  have hr := B.returns
  have hts0 := atoms_spec (ws := kwX5_in) B.pre
  have hts : ∀ w ∈ kwA, w.before _ s = true := fun w h => hts0 w (List.mem_cons_of_mem _ h)
  have hown : s.vm.findClass kRX5 = some m.cls := findClass_of_methodNamed B.named
  have hlocks := B.notSynchronized
  subst hsz
  have hD := hD0.self (sz := s.heap.size)
  generalize hAe : va_A (kWX5_in cB cI cL cBB cII cSh) s.heap.size = A at hD ⊢
  have hA : ∀ q : Nat, s.heap.size ≤ q → A q := fun q h => by rw [← hAe]; exact Or.inr h
  have hS : va_S A s.heap s.heap [] := va_S.rf
  have C0 : CallFix p m c prog_8_method_3_code 3 s _ kwA kRX5 := ⟨hx, hb, hml, hown, hts⟩
  have hl := lv_entry ([.int p1, .int p2, .int p3]) (n := 3) (Nat.le_of_ble_eq_true rfl)
  rw [lg_entry_eq]
  generalize (lg_sl ([.int p1, .int p2, .int p3]) ++ List.replicate (3 - (lg_sl ([.int p1, .int p2, .int p3])).length) Slot.unset).toArray = ls at hl ⊢
  have hl : lv_has ls 3 [(0, .int p1), (1, .int p2), (2, .int p3)] := hl
  unfold kFX5_in at h
  refine lv_iload_n hx hb kdX5_in_0 rfl (lv_at hl 0 rfl) ?_
  refine lv_iload_n hx hb kdX5_in_1 rfl (lv_at hl 1 rfl) ?_
  refine lv_icmp_lt (tgt := 14) hx hb kdX5_in_2 (by decide) (fun c_1 => ?_) (fun c_1 => ?_)
  · have h := kb_b_t c_1 h
    refine lv_iconst (v := 0) hx hb kdX5_in_14 (by decide) ?_
    obtain rfl := Option.some.inj h
    exact W.zret (v := (0 : Int32)) (ty := .boolean) hx hb hr (by decide) (fun t ht hW => ⟨⟨rfl, by rw [ht]; exact hP, va_K.moved hW.alike hK, hD⟩, hS.F ht⟩) hS.2.2 kdX5_in_15
  · have h := kb_b_f c_1 h
    refine lv_iload_n hx hb kdX5_in_5 rfl (lv_at hl 0 rfl) ?_
    refine lv_iload_n hx hb kdX5_in_6 rfl (lv_at hl 2 rfl) ?_
    refine lv_icmp_gt (tgt := 14) hx hb kdX5_in_7 (by decide) (fun c_2 => ?_) (fun c_2 => ?_)
    · have h := kb_b_t c_2 h
      refine lv_iconst (v := 0) hx hb kdX5_in_14 (by decide) ?_
      obtain rfl := Option.some.inj h
      exact W.zret (v := (0 : Int32)) (ty := .boolean) hx hb hr (by decide) (fun t ht hW => ⟨⟨rfl, by rw [ht]; exact hP, va_K.moved hW.alike hK, hD⟩, hS.F ht⟩) hS.2.2 kdX5_in_15
    · have h := kb_b_f c_2 h
      refine lv_iconst (v := 1) hx hb kdX5_in_10 (by decide) ?_
      refine lv_goto (tgt := 15) hx hb kdX5_in_11 (by decide) ?_
      obtain rfl := Option.some.inj h
      exact W.zret (v := (1 : Int32)) (ty := .boolean) hx hb hr (by decide) (fun t ht hW => ⟨⟨rfl, by rw [ht]; exact hP, va_K.moved hW.alike hK, hD⟩, hS.F ht⟩) hS.2.2 kdX5_in_15

-- 410.ModuleKemModel.good.lean.txt
abbrev kWX5_good (cB cI cL cBB cII cSh : ClassId) (h_this : Nat) (a_this : Nat → Nat) (this_taped : Int32) (this_code : Int32) (this_kind : Int32) (this_rate : Int32) (this_filled : Int32) (this_total : Int64) (this_bitAt : Int32) (this_k : Int32) (this_e1 : Int32) (this_du : Int32) (this_dv : Int32) : va_W := [(h_this, koX5 a_this this_taped this_code this_kind this_rate this_filled this_total this_bitAt this_k this_e1 this_du this_dv)]
def krX5_good : Room := { frames := 0, cells := 0, slots := 0, locals := 0 }
set_option maxHeartbeats 4000000 in
set_option maxRecDepth 100000 in
theorem kcX5_good (l : Launch) (D : va_G) (cB cI cL cBB cII cSh : ClassId) (h_this : Nat) (a_this : Nat → Nat) (sz : Nat) (p1 : Int32) (p2 : Int32) (this_taped : Int32) (this_code : Int32) (this_kind : Int32) (this_rate : Int32) (this_filled : Int32) (this_total : Int64) (this_bitAt : Int32) (this_k : Int32) (this_e1 : Int32) (this_du : Int32) (this_dv : Int32) (out : Int32 × Int32) (h : kFX5_good p1 p2 = some out) : Met l kyX5_good kwX5_good krX5_good (kb_P D kCl (kb_T cB cI cL cBB cII cSh) [.ref h_this, .int p1, .int p2] (kWX5_good cB cI cL cBB cII cSh h_this a_this this_taped this_code this_kind this_rate this_filled this_total this_bitAt this_k this_e1 this_du this_dv) sz) (kb_Q D kCl (kb_T cB cI cL cBB cII cSh) (va_A (kWX5_good cB cI cL cBB cII cSh h_this a_this this_taped this_code this_kind this_rate this_filled this_total this_bitAt this_k this_e1 this_du this_dv) sz) (some (.int out.1)) (kWX5_good cB cI cL cBB cII cSh h_this a_this this_taped out.2 this_kind this_rate this_filled this_total this_bitAt this_k this_e1 this_du this_dv)) 0 0 (va_A (kWX5_good cB cI cL cBB cII cSh h_this a_this this_taped this_code this_kind this_rate this_filled this_total this_bitAt this_k this_e1 this_du this_dv) sz) := by
  refine Met.ofW (cc := prog_8_method_4_code) (maxL := 3) (ret := (some .boolean)) (by decide) rfl ?_
  intro p e s m args below meth c s₁ B hml hv
  obtain ⟨rfl, hsz, hP, hK, hN, hD0⟩ := hv
  have hx := B.exec
  have hb := B.bytes
  have hr := B.returns
  have hts0 := atoms_spec (ws := kwX5_good) B.pre
  have hts : ∀ w ∈ kwA, w.before _ s = true := fun w h => hts0 w (List.mem_cons_of_mem _ h)
  have hown : s.vm.findClass kRX5 = some m.cls := findClass_of_methodNamed B.named
  have hlocks := B.notSynchronized
  subst hsz
  have hD := hD0.self (sz := s.heap.size)
  generalize hAe : va_A (kWX5_good cB cI cL cBB cII cSh h_this a_this this_taped this_code this_kind this_rate this_filled this_total this_bitAt this_k this_e1 this_du this_dv) s.heap.size = A at hD ⊢
  have hA : ∀ q : Nat, s.heap.size ≤ q → A q := fun q h => by rw [← hAe]; exact Or.inr h
  have hS : va_S A s.heap s.heap [] := va_S.rf
  have C0 : CallFix p m c prog_8_method_4_code 3 s _ kwA kRX5 := ⟨hx, hb, hml, hown, hts⟩
  have hl := lv_entry ([.ref h_this, .int p1, .int p2]) (n := 3) (Nat.le_of_ble_eq_true rfl)
  rw [lg_entry_eq]
  generalize (lg_sl ([.ref h_this, .int p1, .int p2]) ++ List.replicate (3 - (lg_sl ([.ref h_this, .int p1, .int p2])).length) Slot.unset).toArray = ls at hl ⊢
  have hl : lv_has ls 3 [(0, .ref h_this), (1, .int p1), (2, .int p2)] := hl
  unfold kFX5_good at h
  refine lv_aload_n hx hb kdX5_good_0 rfl (lv_at hl 0 rfl) ?_
  refine lv_iload_n hx hb kdX5_good_1 rfl (lv_at hl 1 rfl) ?_
  refine lv_if_eq (tgt := 9) hx hb kdX5_good_2 (by decide) (fun c_1 => ?_) (fun c_1 => ?_)
  · have h := kb_b_t c_1 h
    refine lv_iload_n hx hb kdX5_good_9 rfl (lv_at hl 2 rfl) ?_
    refine va_put (ci := 5) (v := .int p2) (C := kRX5) (T := kTX5) (N := 35) hx hb hts kinX5 ktyX5 ktyX5_ok knX5 hown hK hP hD hS 0 rfl rfl 4 (by decide) (hts _ km_685) (fun _ h9 => h9) rfl (ktyX5_ok 4 (by decide)) rfl rfl (Nat.le_of_ble_eq_true rfl) kdX5_good_10 (fun H locs hP hD hS => ?_)
    have hP : va_P D kCl (kWX5_good cB cI cL cBB cII cSh h_this a_this this_taped p2 this_kind this_rate this_filled this_total this_bitAt this_k this_e1 this_du this_dv) H := hP
    have hD : va_D A (kWX5_good cB cI cL cBB cII cSh h_this a_this this_taped p2 this_kind this_rate this_filled this_total this_bitAt this_k this_e1 this_du this_dv) := hD
    refine lv_iload_n hx hb kdX5_good_13 rfl (lv_at hl 1 rfl) ?_
    obtain ⟨g_2, h⟩ := kb_g_s h
    obtain rfl := Option.some.inj h
    exact W.zret (v := p1) (ty := .boolean) hx hb hr (kb_z_n g_2) (fun t ht hW => ⟨⟨rfl, by rw [ht]; exact hP, va_K.moved hW.alike hK, hD⟩, hS.F ht⟩) hS.2.2 kdX5_good_14
  · have h := kb_b_f c_1 h
    refine lv_iconst (v := 0) hx hb kdX5_good_5 (by decide) ?_
    refine lv_goto (tgt := 10) hx hb kdX5_good_6 (by decide) ?_
    refine va_put (ci := 5) (v := .int (0 : Int32)) (C := kRX5) (T := kTX5) (N := 35) hx hb hts kinX5 ktyX5 ktyX5_ok knX5 hown hK hP hD hS 0 rfl rfl 4 (by decide) (hts _ km_685) (fun _ h9 => h9) rfl (ktyX5_ok 4 (by decide)) rfl rfl (Nat.le_of_ble_eq_true rfl) kdX5_good_10 (fun H locs hP hD hS => ?_)
    have hP : va_P D kCl (kWX5_good cB cI cL cBB cII cSh h_this a_this this_taped (0 : Int32) this_kind this_rate this_filled this_total this_bitAt this_k this_e1 this_du this_dv) H := hP
    have hD : va_D A (kWX5_good cB cI cL cBB cII cSh h_this a_this this_taped (0 : Int32) this_kind this_rate this_filled this_total this_bitAt this_k this_e1 this_du this_dv) := hD
    refine lv_iload_n hx hb kdX5_good_13 rfl (lv_at hl 1 rfl) ?_
    obtain ⟨g_3, h⟩ := kb_g_s h
    obtain rfl := Option.some.inj h
    exact W.zret (v := p1) (ty := .boolean) hx hb hr (kb_z_n g_3) (fun t ht hW => ⟨⟨rfl, by rw [ht]; exact hP, va_K.moved hW.alike hK, hD⟩, hS.F ht⟩) hS.2.2 kdX5_good_14

-- 411.ModuleKemModel.word.lean.txt
abbrev kWX5_word (cB cI cL cBB cII cSh : ClassId) (h_this : Nat) (a_this : Nat → Nat) (this_taped : Int32) (this_code : Int32) (this_kind : Int32) (this_rate : Int32) (this_filled : Int32) (this_total : Int64) (this_bitAt : Int32) (this_k : Int32) (this_e1 : Int32) (this_du : Int32) (this_dv : Int32) (f_this_tape : Nat → Int32) : va_W := [(h_this, koX5 a_this this_taped this_code this_kind this_rate this_filled this_total this_bitAt this_k this_e1 this_du this_dv), ((a_this 0), .inl (cB, 8192, .inl f_this_tape))]
def krX5_word : Room := { frames := 0, cells := 0, slots := 0, locals := 0 }
set_option maxHeartbeats 4000000 in
set_option maxRecDepth 100000 in
theorem klX5_word_2 {p : Program} {l : Launch} {e : Env} {s : State} {m : MethodId} {args : Array Value} {below : List Frame} {meth : Method} {c : Code} {cells slots : Nat} {Q : State → Prop} {D : va_G} {cB cI cL cBB cII cSh : ClassId} {A : Nat → Prop} (C0 : CallFix p m c prog_8_method_6_code 3 s args kwA kRX5) (hlocks : meth.locks = false) (hK : va_K D kCl (kb_T cB cI cL cBB cII cSh) s) (hN : kb_N s) (hA : ∀ q, s.heap.size ≤ q → A q) (hcR : cells ≤ krX5_word.cells) (hsR : slots ≤ krX5_word.slots) (h_this : Nat) (a_this : Nat → Nat) (p1 : Int32) (this_taped : Int32) (this_code : Int32) (this_kind : Int32) (this_rate : Int32) (this_filled : Int32) (this_total : Int64) (this_bitAt : Int32) (this_k : Int32) (this_e1 : Int32) (this_du : Int32) (this_dv : Int32) :
    ∀ (fuel : Nat) (x2p2 : Int32) (f_this_tapep2 : Nat → Int32) (r : Int32 × (Nat → Int32)), kb_w (fun u : Int32 × (Nat → Int32) => kSX5_word_2 p1 this_taped u.1 u.2) fuel (x2p2, f_this_tapep2) = some r → ∀ (H : Heap) (locs : List Loc) (ls : Array Slot), va_P D kCl (kWX5_word cB cI cL cBB cII cSh h_this a_this this_taped this_code this_kind this_rate this_filled this_total this_bitAt this_k this_e1 this_du this_dv f_this_tapep2) H → va_D A (kWX5_word cB cI cL cBB cII cSh h_this a_this this_taped this_code this_kind this_rate this_filled this_total this_bitAt this_k this_e1 this_du this_dv f_this_tapep2) → va_S A s.heap H locs → lv_has ls 3 [(0, .ref h_this), (1, .int p1), (2, .int x2p2)] → (∀ (x2p2' : Int32) (f_this_tapep2' : Nat → Int32), r = (x2p2', f_this_tapep2') → ∀ (H : Heap) (locs : List Loc) (ls : Array Slot), va_P D kCl (kWX5_word cB cI cL cBB cII cSh h_this a_this this_taped this_code this_kind this_rate this_filled this_total this_bitAt this_k this_e1 this_du this_dv f_this_tapep2') H → va_D A (kWX5_word cB cI cL cBB cII cSh h_this a_this this_taped this_code this_kind this_rate this_filled this_total this_bitAt this_k this_e1 this_du this_dv f_this_tapep2') → va_S A s.heap H locs → lv_has ls 3 [(0, .ref h_this), (1, .int p1), (2, .int x2p2')] → W p l e krX5_word s m args below meth c H locs cells slots Q (F0 m 34 ls [])) → W p l e krX5_word s m args below meth c H locs cells slots Q (F0 m 2 ls []) := by
  obtain ⟨hx, hb, hml, hown, hts⟩ := id C0
  intro fuel
  induction fuel with
  | zero =>
    intro x2p2 f_this_tapep2 r h
    exact absurd h (kb_w_z _ _ _)
  | succ fuel ih =>
    intro x2p2 f_this_tapep2 r h H locs ls hP hD hS hl hk0
    obtain ⟨o, h, ho⟩ := kb_w_s h
    have h : kSX5_word_2 p1 this_taped x2p2 f_this_tapep2 = some o := h
    unfold kSX5_word_2 at h
    refine lv_iload_n hx hb kdX5_word_2 rfl (lv_at hl 2 rfl) ?_
    refine lv_iconst (v := 4) hx hb kdX5_word_3 (by decide) ?_
    refine lv_icmp_ge (tgt := 34) hx hb kdX5_word_4 (by decide) (fun c_1 => ?_) (fun c_1 => ?_)
    · have h := kb_b_t c_1 h
      obtain rfl := Option.some.inj h
      exact hk0 x2p2 f_this_tapep2 ho.symm _ _ _ hP hD hS (lv_sub hl [0, 1, 2] rfl)
    · have h := kb_b_f c_1 h
      refine lv_aload_n hx hb kdX5_word_7 rfl (lv_at hl 0 rfl) ?_
      refine va_get (ci := 5) (v := .ref (a_this 0)) (C := kRX5) (T := kTX5) (N := 35) hx hb hts kinX5 hown hK hP 0 rfl rfl 0 (by decide) (hts _ km_681) (fun _ h9 => h9) rfl kdX5_word_8 ?_
      refine lv_aload_n hx hb kdX5_word_11 rfl (lv_at hl 0 rfl) ?_
      refine va_get (ci := 5) (v := .int this_taped) (C := kRX5) (T := kTX5) (N := 35) hx hb hts kinX5 hown hK hP 0 rfl rfl 3 (by decide) (hts _ km_684) (fun _ h9 => h9) rfl kdX5_word_12 ?_
      refine lv_iload_n hx hb kdX5_word_15 rfl (lv_at hl 2 rfl) ?_
      refine lv_iadd hx hb kdX5_word_16 ?_
      refine lv_iload_n hx hb kdX5_word_17 rfl (lv_at hl 1 rfl) ?_
      refine lv_bipush (v := 24) hx hb kdX5_word_18 (by decide) ?_
      refine lv_bipush (v := 8) hx hb kdX5_word_20 (by decide) ?_
      refine lv_iload_n hx hb kdX5_word_22 rfl (lv_at hl 2 rfl) ?_
      refine lv_imul hx hb kdX5_word_23 ?_
      refine lv_isub hx hb kdX5_word_24 ?_
      refine lv_ishr hx hb kdX5_word_25 ?_
      refine lv_i2b (v := ((p1 >>> (((24 : Int32) - ((8 : Int32) * x2p2)) &&& 31)).toInt8.toInt32)) hx hb kdX5_word_26 rfl ?_
      obtain ⟨g_2, h⟩ := kb_g_s h
      refine va_bast hx hb hK hP hD hS 1 0 rfl rfl (kb_in_v g_2) kdX5_word_27 (fun H locs hP hD hS => ?_)
      obtain ⟨f_3, ef_3⟩ : ∃ y, y = upd f_this_tapep2 (this_taped + x2p2).toNatClampNeg (vp_nar .byte ((p1 >>> (((24 : Int32) - ((8 : Int32) * x2p2)) &&& 31)).toInt8.toInt32)) := ⟨_, rfl⟩
      have h := kb_n_s ef_3 h
      have hP : va_P D kCl (kWX5_word cB cI cL cBB cII cSh h_this a_this this_taped this_code this_kind this_rate this_filled this_total this_bitAt this_k this_e1 this_du this_dv f_3) H := by rw [ef_3]; exact hP
      have hD : va_D A (kWX5_word cB cI cL cBB cII cSh h_this a_this this_taped this_code this_kind this_rate this_filled this_total this_bitAt this_k this_e1 this_du this_dv f_3) := by rw [ef_3]; exact hD
      obtain ⟨x2_4, ex2_4⟩ : ∃ y : Int32, y = x2p2 + Int32.ofInt 1 := ⟨_, rfl⟩
      have h := kb_n_s ex2_4 h
      refine lv_iinc (v := x2_4) (lv' := [(2, .int x2_4), (0, .ref h_this), (1, .int p1)]) hx hb kdX5_word_28 hl (k := 2) rfl ex2_4.symm (by decide) rfl (fun ls hl => ?_)
      refine lv_goto (tgt := 2) hx hb kdX5_word_31 (by decide) ?_
      obtain rfl := Option.some.inj h
      exact ih x2_4 f_3 r ho _ _ _ hP hD hS (lv_sub hl [1, 2, 0] rfl) hk0
set_option maxHeartbeats 4000000 in
set_option maxRecDepth 100000 in
theorem kcX5_word (l : Launch) (D : va_G) (cB cI cL cBB cII cSh : ClassId) (h_this : Nat) (a_this : Nat → Nat) (sz : Nat) (p1 : Int32) (this_taped : Int32) (this_code : Int32) (this_kind : Int32) (this_rate : Int32) (this_filled : Int32) (this_total : Int64) (this_bitAt : Int32) (this_k : Int32) (this_e1 : Int32) (this_du : Int32) (this_dv : Int32) (f_this_tape : Nat → Int32) (out : Int32 × (Nat → Int32)) (h : kFX5_word p1 this_taped f_this_tape = some out) : Met l kyX5_word kwX5_word krX5_word (kb_P D kCl (kb_T cB cI cL cBB cII cSh) [.ref h_this, .int p1] (kWX5_word cB cI cL cBB cII cSh h_this a_this this_taped this_code this_kind this_rate this_filled this_total this_bitAt this_k this_e1 this_du this_dv f_this_tape) sz) (kb_Q D kCl (kb_T cB cI cL cBB cII cSh) (va_A (kWX5_word cB cI cL cBB cII cSh h_this a_this this_taped this_code this_kind this_rate this_filled this_total this_bitAt this_k this_e1 this_du this_dv f_this_tape) sz) none (kWX5_word cB cI cL cBB cII cSh h_this a_this out.1 this_code this_kind this_rate this_filled this_total this_bitAt this_k this_e1 this_du this_dv out.2)) 0 0 (va_A (kWX5_word cB cI cL cBB cII cSh h_this a_this this_taped this_code this_kind this_rate this_filled this_total this_bitAt this_k this_e1 this_du this_dv f_this_tape) sz) := by
  refine Met.ofW (cc := prog_8_method_6_code) (maxL := 3) (ret := none) (by decide) rfl ?_
  intro p e s m args below meth c s₁ B hml hv
  obtain ⟨rfl, hsz, hP, hK, hN, hD0⟩ := hv
  have hx := B.exec
  have hb := B.bytes
  have hr := B.returns
  have hts0 := atoms_spec (ws := kwX5_word) B.pre
  have hts : ∀ w ∈ kwA, w.before _ s = true := fun w h => hts0 w (List.mem_cons_of_mem _ h)
  have hown : s.vm.findClass kRX5 = some m.cls := findClass_of_methodNamed B.named
  have hlocks := B.notSynchronized
  subst hsz
  have hD := hD0.self (sz := s.heap.size)
  generalize hAe : va_A (kWX5_word cB cI cL cBB cII cSh h_this a_this this_taped this_code this_kind this_rate this_filled this_total this_bitAt this_k this_e1 this_du this_dv f_this_tape) s.heap.size = A at hD ⊢
  have hA : ∀ q : Nat, s.heap.size ≤ q → A q := fun q h => by rw [← hAe]; exact Or.inr h
  have hS : va_S A s.heap s.heap [] := va_S.rf
  have C0 : CallFix p m c prog_8_method_6_code 3 s _ kwA kRX5 := ⟨hx, hb, hml, hown, hts⟩
  have hl := lv_entry ([.ref h_this, .int p1]) (n := 3) (Nat.le_of_ble_eq_true rfl)
  rw [lg_entry_eq]
  generalize (lg_sl ([.ref h_this, .int p1]) ++ List.replicate (3 - (lg_sl ([.ref h_this, .int p1])).length) Slot.unset).toArray = ls at hl ⊢
  have hl : lv_has ls 3 [(0, .ref h_this), (1, .int p1)] := hl
  unfold kFX5_word at h
  refine lv_iconst (v := 0) hx hb kdX5_word_0 (by decide) ?_
  refine lv_istore_n (lv' := [(2, .int (0 : Int32)), (0, .ref h_this), (1, .int p1)]) hx hb kdX5_word_1 rfl hl (by decide) rfl (fun ls hl => ?_)
  obtain ⟨r_8, hr_8, h⟩ := kb_o_s h
  refine klX5_word_2 C0 hlocks hK hN hA (by decide) (by decide) h_this a_this p1 this_taped this_code this_kind this_rate this_filled this_total this_bitAt this_k this_e1 this_du this_dv 100000 (0 : Int32) f_this_tape r_8 hr_8 _ _ _ hP hD hS (lv_sub hl [1, 2, 0] rfl) (fun x2p2_5 f_this_tapep2_6 er_8 H locs ls hP hD hS hl => ?_)
  subst er_8
  refine lv_aload_n hx hb kdX5_word_34 rfl (lv_at hl 0 rfl) ?_
  refine lv_dup hx hb kdX5_word_35 rfl ?_
  refine va_get (ci := 5) (v := .int this_taped) (C := kRX5) (T := kTX5) (N := 35) hx hb hts kinX5 hown hK hP 0 rfl rfl 3 (by decide) (hts _ km_684) (fun _ h9 => h9) rfl kdX5_word_36 ?_
  refine lv_iconst (v := 4) hx hb kdX5_word_39 (by decide) ?_
  refine lv_iadd hx hb kdX5_word_40 ?_
  refine lv_topi (fun w_7 ew_7 => ?_)
  have h := kb_n_s ew_7 h
  refine va_put (ci := 5) (v := .int w_7) (C := kRX5) (T := kTX5) (N := 35) hx hb hts kinX5 ktyX5 ktyX5_ok knX5 hown hK hP hD hS 0 rfl rfl 3 (by decide) (hts _ km_684) (fun _ h9 => h9) rfl (ktyX5_ok 3 (by decide)) rfl rfl (Nat.le_of_ble_eq_true rfl) kdX5_word_41 (fun H locs hP hD hS => ?_)
  have hP : va_P D kCl (kWX5_word cB cI cL cBB cII cSh h_this a_this w_7 this_code this_kind this_rate this_filled this_total this_bitAt this_k this_e1 this_du this_dv f_this_tapep2_6) H := hP
  have hD : va_D A (kWX5_word cB cI cL cBB cII cSh h_this a_this w_7 this_code this_kind this_rate this_filled this_total this_bitAt this_k this_e1 this_du this_dv f_this_tapep2_6) := hD
  obtain rfl := Option.some.inj h
  exact W.vret hx hb hr (fun t ht hW => ⟨⟨rfl, by rw [ht]; exact hP, va_K.moved hW.alike hK, hD⟩, hS.F ht⟩) hS.2.2 kdX5_word_44

-- 412.ModuleKemModel.end.lean.txt
abbrev kWX5_end (cB cI cL cBB cII cSh : ClassId) (h_this : Nat) (a_this : Nat → Nat) (r_this_slot : Nat → Nat) (this_taped : Int32) (this_code : Int32) (this_kind : Int32) (this_rate : Int32) (this_filled : Int32) (this_total : Int64) (this_bitAt : Int32) (this_k : Int32) (this_e1 : Int32) (this_du : Int32) (this_dv : Int32) (f_this_tape : Nat → Int32) (f_this_length : Nat → Int32) (m_this_slot : Nat → Nat → Int32) : va_W := ([(h_this, koX5 a_this this_taped this_code this_kind this_rate this_filled this_total this_bitAt this_k this_e1 this_du this_dv), ((a_this 0), .inl (cB, 8192, .inl f_this_tape)), ((a_this 1), .inl (cBB, 8, .inr (.inr (.inr (.inr (kb_rf r_this_slot 8)))))), ((a_this 2), .inl (cI, 8, .inl f_this_length))] ++ (kb_gw r_this_slot 8 (fun i => .inl (cB, 8192, .inl (m_this_slot i))) ++ []))
def krX5_end : Room := { frames := 1, cells := 0, slots := 0, locals := 22 }
set_option maxHeartbeats 4000000 in
set_option maxRecDepth 100000 in
theorem klX5_end_59 {p : Program} {l : Launch} {e : Env} {s : State} {m : MethodId} {args : Array Value} {below : List Frame} {meth : Method} {c : Code} {cells slots : Nat} {Q : State → Prop} {D : va_G} {cB cI cL cBB cII cSh : ClassId} {A : Nat → Prop} (C0 : CallFix p m c prog_8_method_7_code 4 s args kwA kRX5) (hlocks : meth.locks = false) (hK : va_K D kCl (kb_T cB cI cL cBB cII cSh) s) (hN : kb_N s) (hA : ∀ q, s.heap.size ≤ q → A q) (hcR : cells ≤ krX5_end.cells) (hsR : slots ≤ krX5_end.slots) (h_this : Nat) (a_this r_this_slot : Nat → Nat) (x1j48 : Int32) (x2j48 : Int32) (this_tapedj48 : Int32) (w_10 : Int32) (this_kind : Int32) (this_rate : Int32) (this_filled : Int32) (this_total : Int64) (this_bitAt : Int32) (this_k : Int32) (this_e1 : Int32) (this_du : Int32) (this_dv : Int32) (f_this_tape : Nat → Int32) (f_this_lengthj48 : Nat → Int32) :
    ∀ (fuel : Nat) (x3p59 : Int32) (m_this_slotp59 : Nat → Nat → Int32) (r : Int32 × (Nat → Nat → Int32)), kb_w (fun u : Int32 × (Nat → Nat → Int32) => kSX5_end_59 x1j48 x2j48 f_this_tape u.1 u.2) fuel (x3p59, m_this_slotp59) = some r → ∀ (H : Heap) (locs : List Loc) (ls : Array Slot), va_P D kCl (kWX5_end cB cI cL cBB cII cSh h_this a_this r_this_slot this_tapedj48 w_10 this_kind this_rate this_filled this_total this_bitAt this_k this_e1 this_du this_dv f_this_tape f_this_lengthj48 m_this_slotp59) H → va_D A (kWX5_end cB cI cL cBB cII cSh h_this a_this r_this_slot this_tapedj48 w_10 this_kind this_rate this_filled this_total this_bitAt this_k this_e1 this_du this_dv f_this_tape f_this_lengthj48 m_this_slotp59) → va_S A s.heap H locs → lv_has ls 4 [(0, .ref h_this), (1, .int x1j48), (2, .int x2j48), (3, .int x3p59)] → (∀ (x3p59' : Int32) (m_this_slotp59' : Nat → Nat → Int32), r = (x3p59', m_this_slotp59') → ∀ (H : Heap) (locs : List Loc) (ls : Array Slot), va_P D kCl (kWX5_end cB cI cL cBB cII cSh h_this a_this r_this_slot this_tapedj48 w_10 this_kind this_rate this_filled this_total this_bitAt this_k this_e1 this_du this_dv f_this_tape f_this_lengthj48 m_this_slotp59') H → va_D A (kWX5_end cB cI cL cBB cII cSh h_this a_this r_this_slot this_tapedj48 w_10 this_kind this_rate this_filled this_total this_bitAt this_k this_e1 this_du this_dv f_this_tape f_this_lengthj48 m_this_slotp59') → va_S A s.heap H locs → lv_has ls 4 [(0, .ref h_this), (1, .int x1j48), (2, .int x2j48), (3, .int x3p59')] → W p l e krX5_end s m args below meth c H locs cells slots Q (F0 m 84 ls [])) → W p l e krX5_end s m args below meth c H locs cells slots Q (F0 m 59 ls []) := by
  obtain ⟨hx, hb, hml, hown, hts⟩ := id C0
  intro fuel
  induction fuel with
  | zero =>
    intro x3p59 m_this_slotp59 r h
    exact absurd h (kb_w_z _ _ _)
  | succ fuel ih =>
    intro x3p59 m_this_slotp59 r h H locs ls hP hD hS hl hk0
    obtain ⟨o, h, ho⟩ := kb_w_s h
    have h : kSX5_end_59 x1j48 x2j48 f_this_tape x3p59 m_this_slotp59 = some o := h
    unfold kSX5_end_59 at h
    refine lv_iload_n hx hb kdX5_end_59 rfl (lv_at hl 3 rfl) ?_
    refine lv_iload_n hx hb kdX5_end_60 rfl (lv_at hl 2 rfl) ?_
    refine lv_icmp_ge (tgt := 84) hx hb kdX5_end_61 (by decide) (fun c_13 => ?_) (fun c_13 => ?_)
    · have h := kb_b_t c_13 h
      obtain rfl := Option.some.inj h
      exact hk0 x3p59 m_this_slotp59 ho.symm _ _ _ hP hD hS (lv_sub hl [0, 1, 2, 3] rfl)
    · have h := kb_b_f c_13 h
      refine lv_aload_n hx hb kdX5_end_64 rfl (lv_at hl 0 rfl) ?_
      refine va_get (ci := 5) (v := .ref (a_this 1)) (C := kRX5) (T := kTX5) (N := 35) hx hb hts kinX5 hown hK hP 0 rfl rfl 1 (by decide) (hts _ km_682) (fun _ h9 => h9) rfl kdX5_end_65 ?_
      refine lv_iload_n hx hb kdX5_end_68 rfl (lv_at hl 1 rfl) ?_
      obtain ⟨g_14, h⟩ := kb_g_s h
      refine kb_aald (j := x1j48.toNatClampNeg) hx hb hK hP 2 3 rfl rfl rfl rfl (kb_in_v g_14) kdX5_end_69 ?_
      refine lv_iload_n hx hb kdX5_end_70 rfl (lv_at hl 3 rfl) ?_
      refine lv_aload_n hx hb kdX5_end_71 rfl (lv_at hl 0 rfl) ?_
      refine va_get (ci := 5) (v := .ref (a_this 0)) (C := kRX5) (T := kTX5) (N := 35) hx hb hts kinX5 hown hK hP 0 rfl rfl 0 (by decide) (hts _ km_681) (fun _ h9 => h9) rfl kdX5_end_72 ?_
      refine lv_iload_n hx hb kdX5_end_75 rfl (lv_at hl 3 rfl) ?_
      obtain ⟨g_15, h⟩ := kb_g_s h
      refine va_bald hx hb hK hP 1 0 rfl rfl (kb_in_v g_15) kdX5_end_76 ?_
      obtain ⟨g_16, h⟩ := kb_g_s h
      refine va_bast hx hb hK hP hD hS (4 + x1j48.toNatClampNeg) 0 (kb_pl_r rfl (kb_pl_l (kb_gw_at (kb_in_lt g_14)))) rfl (kb_in_v g_16) kdX5_end_77 (fun H locs hP hD hS => ?_)
      unfold kWX5_end at hP; rw [kb_set_r (n := 4) (by rfl), kb_set_l (by rw [kb_gw_len]; exact (kb_in_lt g_14)), kb_gw_st (kb_in_lt g_14), kb_up_c (fun z => .inl (cB, 8192, .inl z))] at hP
      unfold kWX5_end at hD; rw [kb_set_r (n := 4) (by rfl), kb_set_l (by rw [kb_gw_len]; exact (kb_in_lt g_14)), kb_gw_st (kb_in_lt g_14), kb_up_c (fun z => .inl (cB, 8192, .inl z))] at hD
      obtain ⟨m_17, em_17⟩ : ∃ y, y = va_up m_this_slotp59 x1j48.toNatClampNeg (upd (m_this_slotp59 x1j48.toNatClampNeg) x3p59.toNatClampNeg (vp_nar .byte (f_this_tape x3p59.toNatClampNeg))) := ⟨_, rfl⟩
      have h := kb_n_s em_17 h
      have hP : va_P D kCl (kWX5_end cB cI cL cBB cII cSh h_this a_this r_this_slot this_tapedj48 w_10 this_kind this_rate this_filled this_total this_bitAt this_k this_e1 this_du this_dv f_this_tape f_this_lengthj48 m_17) H := by rw [em_17]; exact hP
      have hD : va_D A (kWX5_end cB cI cL cBB cII cSh h_this a_this r_this_slot this_tapedj48 w_10 this_kind this_rate this_filled this_total this_bitAt this_k this_e1 this_du this_dv f_this_tape f_this_lengthj48 m_17) := by rw [em_17]; exact hD
      obtain ⟨x3_18, ex3_18⟩ : ∃ y : Int32, y = x3p59 + Int32.ofInt 1 := ⟨_, rfl⟩
      have h := kb_n_s ex3_18 h
      refine lv_iinc (v := x3_18) (lv' := [(3, .int x3_18), (0, .ref h_this), (1, .int x1j48), (2, .int x2j48)]) hx hb kdX5_end_78 hl (k := 3) rfl ex3_18.symm (by decide) rfl (fun ls hl => ?_)
      refine lv_goto (tgt := 59) hx hb kdX5_end_81 (by decide) ?_
      obtain rfl := Option.some.inj h
      exact ih x3_18 m_17 r ho _ _ _ hP hD hS (lv_sub hl [1, 2, 3, 0] rfl) hk0
set_option maxHeartbeats 4000000 in
set_option maxRecDepth 100000 in
theorem kjX5_end_48 {p : Program} {l : Launch} {e : Env} {s : State} {m : MethodId} {args : Array Value} {below : List Frame} {meth : Method} {c : Code} {D : va_G} {cB cI cL cBB cII cSh : ClassId} {A : Nat → Prop} (C0 : CallFix p m c prog_8_method_7_code 4 s args kwA kRX5) (hlocks : meth.locks = false) (hr : meth.sig.returnType = (some .int)) (hK : va_K D kCl (kb_T cB cI cL cBB cII cSh) s) (hN : kb_N s) (hA : ∀ q, s.heap.size ≤ q → A q) (h_this : Nat) (a_this r_this_slot : Nat → Nat) (x1j48 : Int32) (x2j48 : Int32) (this_tapedj48 : Int32) (this_codej48 : Int32) (this_kind : Int32) (this_rate : Int32) (this_filled : Int32) (this_total : Int64) (this_bitAt : Int32) (this_k : Int32) (this_e1 : Int32) (this_du : Int32) (this_dv : Int32) (f_this_tape : Nat → Int32) (f_this_lengthj48 : Nat → Int32) (m_this_slotj48 : Nat → Nat → Int32) (y0j48 : Int32) (out : Int32 × Int32 × Int32 × (Nat → Int32) × (Nat → Nat → Int32)) (h : kJX5_end_48 x1j48 x2j48 this_tapedj48 f_this_tape f_this_lengthj48 m_this_slotj48 y0j48 = some out) (H : Heap) (locs : List Loc) (ls : Array Slot) (hP : va_P D kCl (kWX5_end cB cI cL cBB cII cSh h_this a_this r_this_slot this_tapedj48 this_codej48 this_kind this_rate this_filled this_total this_bitAt this_k this_e1 this_du this_dv f_this_tape f_this_lengthj48 m_this_slotj48) H) (hD : va_D A (kWX5_end cB cI cL cBB cII cSh h_this a_this r_this_slot this_tapedj48 this_codej48 this_kind this_rate this_filled this_total this_bitAt this_k this_e1 this_du this_dv f_this_tape f_this_lengthj48 m_this_slotj48)) (hS : va_S A s.heap H locs) (hl : lv_has ls 4 [(0, .ref h_this), (1, .int x1j48), (2, .int x2j48)]) : W p l e krX5_end s m args below meth c H locs 0 0 (MQ below (kb_Q D kCl (kb_T cB cI cL cBB cII cSh) A (some (.int out.1)) (kWX5_end cB cI cL cBB cII cSh h_this a_this r_this_slot out.2.2.1 out.2.1 this_kind this_rate this_filled this_total this_bitAt this_k this_e1 this_du this_dv f_this_tape out.2.2.2.1 out.2.2.2.2)) args s 0 0 A) (F0 m 48 ls [.int y0j48, .ref h_this]) := by
  obtain ⟨hx, hb, hml, hown, hts⟩ := id C0
  unfold kJX5_end_48 at h
  refine lv_iconst (v := 2) hx hb kdX5_end_48 (by decide) ?_
  obtain ⟨u_11, hu_11, h⟩ := kb_o_s h
  obtain ⟨r_9, w_10⟩ := u_11
  have hC := (show ([0] : List Nat).map (fun i : Nat => (kWX5_end cB cI cL cBB cII cSh h_this a_this r_this_slot this_tapedj48 this_codej48 this_kind this_rate this_filled this_total this_bitAt this_k this_e1 this_du this_dv f_this_tape f_this_lengthj48 m_this_slotj48)[i]?) = List.map some (kWX5_good cB cI cL cBB cII cSh h_this a_this this_tapedj48 this_codej48 this_kind this_rate this_filled this_total this_bitAt this_k this_e1 this_du this_dv) from rfl)
  have hPc := kb_Psub hP ([0] : List Nat) hC
  have hDc := kb_Dsub hD ([0] : List Nat) hC (by simp [kb_nd])
  refine kb_call0 (va_runV (As := [.int y0j48, .int (2 : Int32)]) (rest := []) C0 (kcX5_good l D cB cI cL cBB cII cSh h_this a_this _ y0j48 (2 : Int32) this_tapedj48 this_codej48 this_kind this_rate this_filled this_total this_bitAt this_k this_e1 this_du this_dv (r_9, w_10) hu_11) (cwV 2 hts (kb_gV km_795 km_797 kp_0 km_6 km_798) rfl rfl rfl (by decide +kernel) ⟨Nat.le_of_ble_eq_true rfl, Nat.le_of_ble_eq_true rfl⟩) ⟨kb_P_bl, va_recv hK hP (ci := 5) (q0 := 0) rfl rfl, (fun U hU hW => ⟨rfl, by rw [hU], by rw [hU]; exact hPc, va_K.moved hW.alike hK, kb_N_to hW hN, hDc.weaken (fun _ _ _ _ => trivial)⟩)⟩ rfl rfl hl.1 rfl (lv_room (Nat.le_of_ble_eq_true rfl)) kdX5_end_49 ⟨Nat.le_of_ble_eq_true rfl, Nat.le_of_ble_eq_true rfl⟩) hP hD hS hA ([0] : List Nat) hC rfl (fun H locs hP hD hS => ?_)
  have hP : va_P D kCl (kWX5_end cB cI cL cBB cII cSh h_this a_this r_this_slot this_tapedj48 w_10 this_kind this_rate this_filled this_total this_bitAt this_k this_e1 this_du this_dv f_this_tape f_this_lengthj48 m_this_slotj48) H := hP
  have hD : va_D A (kWX5_end cB cI cL cBB cII cSh h_this a_this r_this_slot this_tapedj48 w_10 this_kind this_rate this_filled this_total this_bitAt this_k this_e1 this_du this_dv f_this_tape f_this_lengthj48 m_this_slotj48) := hD
  refine lv_if_ne (tgt := 57) hx hb kdX5_end_52 (by decide) (fun c_12 => ?_) (fun c_12 => ?_)
  · have h := kb_b_f c_12 h
    refine lv_iconst (v := 0) hx hb kdX5_end_57 (by decide) ?_
    refine lv_istore_n (lv' := [(3, .int (0 : Int32)), (0, .ref h_this), (1, .int x1j48), (2, .int x2j48)]) hx hb kdX5_end_58 rfl hl (by decide) rfl (fun ls hl => ?_)
    obtain ⟨r_23, hr_23, h⟩ := kb_o_s h
    refine klX5_end_59 C0 hlocks hK hN hA (by decide) (by decide) h_this a_this r_this_slot x1j48 x2j48 this_tapedj48 w_10 this_kind this_rate this_filled this_total this_bitAt this_k this_e1 this_du this_dv f_this_tape f_this_lengthj48 100000 (0 : Int32) m_this_slotj48 r_23 hr_23 _ _ _ hP hD hS (lv_sub hl [1, 2, 3, 0] rfl) (fun x3p59_19 m_this_slotp59_20 er_23 H locs ls hP hD hS hl => ?_)
    subst er_23
    refine lv_aload_n hx hb kdX5_end_84 rfl (lv_at hl 0 rfl) ?_
    refine va_get (ci := 5) (v := .ref (a_this 2)) (C := kRX5) (T := kTX5) (N := 35) hx hb hts kinX5 hown hK hP 0 rfl rfl 2 (by decide) (hts _ km_683) (fun _ h9 => h9) rfl kdX5_end_85 ?_
    refine lv_iload_n hx hb kdX5_end_88 rfl (lv_at hl 1 rfl) ?_
    refine lv_iload_n hx hb kdX5_end_89 rfl (lv_at hl 2 rfl) ?_
    obtain ⟨g_21, h⟩ := kb_g_s h
    refine va_iast hx hb hK hP hD hS 3 1 rfl rfl (kb_in_v g_21) kdX5_end_90 (fun H locs hP hD hS => ?_)
    obtain ⟨f_22, ef_22⟩ : ∃ y, y = upd f_this_lengthj48 x1j48.toNatClampNeg x2j48 := ⟨_, rfl⟩
    have h := kb_n_s ef_22 h
    have hP : va_P D kCl (kWX5_end cB cI cL cBB cII cSh h_this a_this r_this_slot this_tapedj48 w_10 this_kind this_rate this_filled this_total this_bitAt this_k this_e1 this_du this_dv f_this_tape f_22 m_this_slotp59_20) H := by rw [ef_22]; exact hP
    have hD : va_D A (kWX5_end cB cI cL cBB cII cSh h_this a_this r_this_slot this_tapedj48 w_10 this_kind this_rate this_filled this_total this_bitAt this_k this_e1 this_du this_dv f_this_tape f_22 m_this_slotp59_20) := by rw [ef_22]; exact hD
    refine lv_aload_n hx hb kdX5_end_91 rfl (lv_at hl 0 rfl) ?_
    refine lv_iconst (v := 0) hx hb kdX5_end_92 (by decide) ?_
    refine va_put (ci := 5) (v := .int (0 : Int32)) (C := kRX5) (T := kTX5) (N := 35) hx hb hts kinX5 ktyX5 ktyX5_ok knX5 hown hK hP hD hS 0 rfl rfl 3 (by decide) (hts _ km_684) (fun _ h9 => h9) rfl (ktyX5_ok 3 (by decide)) rfl rfl (Nat.le_of_ble_eq_true rfl) kdX5_end_93 (fun H locs hP hD hS => ?_)
    have hP : va_P D kCl (kWX5_end cB cI cL cBB cII cSh h_this a_this r_this_slot (0 : Int32) w_10 this_kind this_rate this_filled this_total this_bitAt this_k this_e1 this_du this_dv f_this_tape f_22 m_this_slotp59_20) H := hP
    have hD : va_D A (kWX5_end cB cI cL cBB cII cSh h_this a_this r_this_slot (0 : Int32) w_10 this_kind this_rate this_filled this_total this_bitAt this_k this_e1 this_du this_dv f_this_tape f_22 m_this_slotp59_20) := hD
    refine lv_iload_n hx hb kdX5_end_96 rfl (lv_at hl 2 rfl) ?_
    obtain rfl := Option.some.inj h
    exact W.iret (v := x2j48) hx hb hr (fun t ht hW => ⟨⟨rfl, by rw [ht]; exact hP, va_K.moved hW.alike hK, hD⟩, hS.F ht⟩) hS.2.2 kdX5_end_97
  · have h := kb_b_t c_12 h
    refine lv_iconst (v := 0) hx hb kdX5_end_55 (by decide) ?_
    obtain rfl := Option.some.inj h
    exact W.iret (v := (0 : Int32)) hx hb hr (fun t ht hW => ⟨⟨rfl, by rw [ht]; exact hP, va_K.moved hW.alike hK, hD⟩, hS.F ht⟩) hS.2.2 kdX5_end_56
set_option maxHeartbeats 4000000 in
set_option maxRecDepth 100000 in
theorem kjX5_end_27 {p : Program} {l : Launch} {e : Env} {s : State} {m : MethodId} {args : Array Value} {below : List Frame} {meth : Method} {c : Code} {D : va_G} {cB cI cL cBB cII cSh : ClassId} {A : Nat → Prop} (C0 : CallFix p m c prog_8_method_7_code 4 s args kwA kRX5) (hlocks : meth.locks = false) (hr : meth.sig.returnType = (some .int)) (hK : va_K D kCl (kb_T cB cI cL cBB cII cSh) s) (hN : kb_N s) (hA : ∀ q, s.heap.size ≤ q → A q) (h_this : Nat) (a_this r_this_slot : Nat → Nat) (x1j27 : Int32) (x2j27 : Int32) (this_tapedj27 : Int32) (this_codej27 : Int32) (this_kind : Int32) (this_rate : Int32) (this_filled : Int32) (this_total : Int64) (this_bitAt : Int32) (this_k : Int32) (this_e1 : Int32) (this_du : Int32) (this_dv : Int32) (f_this_tape : Nat → Int32) (f_this_lengthj27 : Nat → Int32) (m_this_slotj27 : Nat → Nat → Int32) (y0j27 : Int32) (out : Int32 × Int32 × Int32 × (Nat → Int32) × (Nat → Nat → Int32)) (h : kJX5_end_27 x1j27 x2j27 this_tapedj27 f_this_tape f_this_lengthj27 m_this_slotj27 y0j27 = some out) (H : Heap) (locs : List Loc) (ls : Array Slot) (hP : va_P D kCl (kWX5_end cB cI cL cBB cII cSh h_this a_this r_this_slot this_tapedj27 this_codej27 this_kind this_rate this_filled this_total this_bitAt this_k this_e1 this_du this_dv f_this_tape f_this_lengthj27 m_this_slotj27) H) (hD : va_D A (kWX5_end cB cI cL cBB cII cSh h_this a_this r_this_slot this_tapedj27 this_codej27 this_kind this_rate this_filled this_total this_bitAt this_k this_e1 this_du this_dv f_this_tape f_this_lengthj27 m_this_slotj27)) (hS : va_S A s.heap H locs) (hl : lv_has ls 4 [(0, .ref h_this), (1, .int x1j27), (2, .int x2j27)]) : W p l e krX5_end s m args below meth c H locs 0 0 (MQ below (kb_Q D kCl (kb_T cB cI cL cBB cII cSh) A (some (.int out.1)) (kWX5_end cB cI cL cBB cII cSh h_this a_this r_this_slot out.2.2.1 out.2.1 this_kind this_rate this_filled this_total this_bitAt this_k this_e1 this_du this_dv f_this_tape out.2.2.2.1 out.2.2.2.2)) args s 0 0 A) (F0 m 27 ls [.int y0j27, .ref h_this]) := by
  obtain ⟨hx, hb, hml, hown, hts⟩ := id C0
  unfold kJX5_end_27 at h
  refine lv_iconst (v := 1) hx hb kdX5_end_27 (by decide) ?_
  obtain ⟨u_6, hu_6, h⟩ := kb_o_s h
  obtain ⟨r_4, w_5⟩ := u_6
  have hC := (show ([0] : List Nat).map (fun i : Nat => (kWX5_end cB cI cL cBB cII cSh h_this a_this r_this_slot this_tapedj27 this_codej27 this_kind this_rate this_filled this_total this_bitAt this_k this_e1 this_du this_dv f_this_tape f_this_lengthj27 m_this_slotj27)[i]?) = List.map some (kWX5_good cB cI cL cBB cII cSh h_this a_this this_tapedj27 this_codej27 this_kind this_rate this_filled this_total this_bitAt this_k this_e1 this_du this_dv) from rfl)
  have hPc := kb_Psub hP ([0] : List Nat) hC
  have hDc := kb_Dsub hD ([0] : List Nat) hC (by simp [kb_nd])
  refine kb_call0 (va_runV (As := [.int y0j27, .int (1 : Int32)]) (rest := []) C0 (kcX5_good l D cB cI cL cBB cII cSh h_this a_this _ y0j27 (1 : Int32) this_tapedj27 this_codej27 this_kind this_rate this_filled this_total this_bitAt this_k this_e1 this_du this_dv (r_4, w_5) hu_6) (cwV 2 hts (kb_gV km_795 km_797 kp_0 km_6 km_798) rfl rfl rfl (by decide +kernel) ⟨Nat.le_of_ble_eq_true rfl, Nat.le_of_ble_eq_true rfl⟩) ⟨kb_P_bl, va_recv hK hP (ci := 5) (q0 := 0) rfl rfl, (fun U hU hW => ⟨rfl, by rw [hU], by rw [hU]; exact hPc, va_K.moved hW.alike hK, kb_N_to hW hN, hDc.weaken (fun _ _ _ _ => trivial)⟩)⟩ rfl rfl hl.1 rfl (lv_room (Nat.le_of_ble_eq_true rfl)) kdX5_end_28 ⟨Nat.le_of_ble_eq_true rfl, Nat.le_of_ble_eq_true rfl⟩) hP hD hS hA ([0] : List Nat) hC rfl (fun H locs hP hD hS => ?_)
  have hP : va_P D kCl (kWX5_end cB cI cL cBB cII cSh h_this a_this r_this_slot this_tapedj27 w_5 this_kind this_rate this_filled this_total this_bitAt this_k this_e1 this_du this_dv f_this_tape f_this_lengthj27 m_this_slotj27) H := hP
  have hD : va_D A (kWX5_end cB cI cL cBB cII cSh h_this a_this r_this_slot this_tapedj27 w_5 this_kind this_rate this_filled this_total this_bitAt this_k this_e1 this_du this_dv f_this_tape f_this_lengthj27 m_this_slotj27) := hD
  refine lv_if_eq (tgt := 55) hx hb kdX5_end_31 (by decide) (fun c_7 => ?_) (fun c_7 => ?_)
  · have h := kb_b_t c_7 h
    refine lv_iconst (v := 0) hx hb kdX5_end_55 (by decide) ?_
    obtain rfl := Option.some.inj h
    exact W.iret (v := (0 : Int32)) hx hb hr (fun t ht hW => ⟨⟨rfl, by rw [ht]; exact hP, va_K.moved hW.alike hK, hD⟩, hS.F ht⟩) hS.2.2 kdX5_end_56
  · have h := kb_b_f c_7 h
    refine lv_aload_n hx hb kdX5_end_34 rfl (lv_at hl 0 rfl) ?_
    refine lv_iload_n hx hb kdX5_end_35 rfl (lv_at hl 2 rfl) ?_
    refine lv_aload_n hx hb kdX5_end_36 rfl (lv_at hl 0 rfl) ?_
    refine va_get (ci := 5) (v := .int this_tapedj27) (C := kRX5) (T := kTX5) (N := 35) hx hb hts kinX5 hown hK hP 0 rfl rfl 3 (by decide) (hts _ km_684) (fun _ h9 => h9) rfl kdX5_end_37 ?_
    refine lv_icmp_gt (tgt := 47) hx hb kdX5_end_40 (by decide) (fun c_8 => ?_) (fun c_8 => ?_)
    · have h := kb_b_t c_8 h
      refine lv_iconst (v := 0) hx hb kdX5_end_47 (by decide) ?_
      exact kjX5_end_48 C0 hlocks hr hK hN hA h_this a_this r_this_slot x1j27 x2j27 this_tapedj27 w_5 this_kind this_rate this_filled this_total this_bitAt this_k this_e1 this_du this_dv f_this_tape f_this_lengthj27 m_this_slotj27 (0 : Int32) _ h _ _ _ hP hD hS (lv_sub hl [0, 1, 2] rfl)
    · have h := kb_b_f c_8 h
      refine lv_iconst (v := 1) hx hb kdX5_end_43 (by decide) ?_
      refine lv_goto (tgt := 48) hx hb kdX5_end_44 (by decide) ?_
      exact kjX5_end_48 C0 hlocks hr hK hN hA h_this a_this r_this_slot x1j27 x2j27 this_tapedj27 w_5 this_kind this_rate this_filled this_total this_bitAt this_k this_e1 this_du this_dv f_this_tape f_this_lengthj27 m_this_slotj27 (1 : Int32) _ h _ _ _ hP hD hS (lv_sub hl [0, 1, 2] rfl)
set_option maxHeartbeats 4000000 in
set_option maxRecDepth 100000 in
theorem kjX5_end_26 {p : Program} {l : Launch} {e : Env} {s : State} {m : MethodId} {args : Array Value} {below : List Frame} {meth : Method} {c : Code} {D : va_G} {cB cI cL cBB cII cSh : ClassId} {A : Nat → Prop} (C0 : CallFix p m c prog_8_method_7_code 4 s args kwA kRX5) (hlocks : meth.locks = false) (hr : meth.sig.returnType = (some .int)) (hK : va_K D kCl (kb_T cB cI cL cBB cII cSh) s) (hN : kb_N s) (hA : ∀ q, s.heap.size ≤ q → A q) (h_this : Nat) (a_this r_this_slot : Nat → Nat) (x1j26 : Int32) (x2j26 : Int32) (this_tapedj26 : Int32) (this_codej26 : Int32) (this_kind : Int32) (this_rate : Int32) (this_filled : Int32) (this_total : Int64) (this_bitAt : Int32) (this_k : Int32) (this_e1 : Int32) (this_du : Int32) (this_dv : Int32) (f_this_tape : Nat → Int32) (f_this_lengthj26 : Nat → Int32) (m_this_slotj26 : Nat → Nat → Int32) (out : Int32 × Int32 × Int32 × (Nat → Int32) × (Nat → Nat → Int32)) (h : kJX5_end_26 x1j26 x2j26 this_tapedj26 f_this_tape f_this_lengthj26 m_this_slotj26 = some out) (H : Heap) (locs : List Loc) (ls : Array Slot) (hP : va_P D kCl (kWX5_end cB cI cL cBB cII cSh h_this a_this r_this_slot this_tapedj26 this_codej26 this_kind this_rate this_filled this_total this_bitAt this_k this_e1 this_du this_dv f_this_tape f_this_lengthj26 m_this_slotj26) H) (hD : va_D A (kWX5_end cB cI cL cBB cII cSh h_this a_this r_this_slot this_tapedj26 this_codej26 this_kind this_rate this_filled this_total this_bitAt this_k this_e1 this_du this_dv f_this_tape f_this_lengthj26 m_this_slotj26)) (hS : va_S A s.heap H locs) (hl : lv_has ls 4 [(0, .ref h_this), (1, .int x1j26), (2, .int x2j26)]) : W p l e krX5_end s m args below meth c H locs 0 0 (MQ below (kb_Q D kCl (kb_T cB cI cL cBB cII cSh) A (some (.int out.1)) (kWX5_end cB cI cL cBB cII cSh h_this a_this r_this_slot out.2.2.1 out.2.1 this_kind this_rate this_filled this_total this_bitAt this_k this_e1 this_du this_dv f_this_tape out.2.2.2.1 out.2.2.2.2)) args s 0 0 A) (F0 m 26 ls [.ref h_this]) := by
  obtain ⟨hx, hb, hml, hown, hts⟩ := id C0
  unfold kJX5_end_26 at h
  refine lv_iconst (v := 0) hx hb kdX5_end_26 (by decide) ?_
  exact kjX5_end_27 C0 hlocks hr hK hN hA h_this a_this r_this_slot x1j26 x2j26 this_tapedj26 this_codej26 this_kind this_rate this_filled this_total this_bitAt this_k this_e1 this_du this_dv f_this_tape f_this_lengthj26 m_this_slotj26 (0 : Int32) _ h _ _ _ hP hD hS (lv_sub hl [0, 1, 2] rfl)
set_option maxHeartbeats 4000000 in
set_option maxRecDepth 100000 in
theorem kcX5_end (l : Launch) (D : va_G) (cB cI cL cBB cII cSh : ClassId) (h_this : Nat) (a_this r_this_slot : Nat → Nat) (sz : Nat) (p1 : Int32) (p2 : Int32) (this_taped : Int32) (this_code : Int32) (this_kind : Int32) (this_rate : Int32) (this_filled : Int32) (this_total : Int64) (this_bitAt : Int32) (this_k : Int32) (this_e1 : Int32) (this_du : Int32) (this_dv : Int32) (f_this_tape : Nat → Int32) (f_this_length : Nat → Int32) (m_this_slot : Nat → Nat → Int32) (out : Int32 × Int32 × Int32 × (Nat → Int32) × (Nat → Nat → Int32)) (h : kFX5_end p1 p2 this_taped f_this_tape f_this_length m_this_slot = some out) : Met l kyX5_end kwX5_end krX5_end (kb_P D kCl (kb_T cB cI cL cBB cII cSh) [.ref h_this, .int p1, .int p2] (kWX5_end cB cI cL cBB cII cSh h_this a_this r_this_slot this_taped this_code this_kind this_rate this_filled this_total this_bitAt this_k this_e1 this_du this_dv f_this_tape f_this_length m_this_slot) sz) (kb_Q D kCl (kb_T cB cI cL cBB cII cSh) (va_A (kWX5_end cB cI cL cBB cII cSh h_this a_this r_this_slot this_taped this_code this_kind this_rate this_filled this_total this_bitAt this_k this_e1 this_du this_dv f_this_tape f_this_length m_this_slot) sz) (some (.int out.1)) (kWX5_end cB cI cL cBB cII cSh h_this a_this r_this_slot out.2.2.1 out.2.1 this_kind this_rate this_filled this_total this_bitAt this_k this_e1 this_du this_dv f_this_tape out.2.2.2.1 out.2.2.2.2)) 0 0 (va_A (kWX5_end cB cI cL cBB cII cSh h_this a_this r_this_slot this_taped this_code this_kind this_rate this_filled this_total this_bitAt this_k this_e1 this_du this_dv f_this_tape f_this_length m_this_slot) sz) := by
  refine Met.ofW (cc := prog_8_method_7_code) (maxL := 4) (ret := (some .int)) (by decide) rfl ?_
  intro p e s m args below meth c s₁ B hml hv
  obtain ⟨rfl, hsz, hP, hK, hN, hD0⟩ := hv
  have hx := B.exec
  have hb := B.bytes
  have hr := B.returns
  have hts0 := atoms_spec (ws := kwX5_end) B.pre
  have hts : ∀ w ∈ kwA, w.before _ s = true := fun w h => hts0 w (List.mem_cons_of_mem _ h)
  have hown : s.vm.findClass kRX5 = some m.cls := findClass_of_methodNamed B.named
  have hlocks := B.notSynchronized
  subst hsz
  have hD := hD0.self (sz := s.heap.size)
  generalize hAe : va_A (kWX5_end cB cI cL cBB cII cSh h_this a_this r_this_slot this_taped this_code this_kind this_rate this_filled this_total this_bitAt this_k this_e1 this_du this_dv f_this_tape f_this_length m_this_slot) s.heap.size = A at hD ⊢
  have hA : ∀ q : Nat, s.heap.size ≤ q → A q := fun q h => by rw [← hAe]; exact Or.inr h
  have hS : va_S A s.heap s.heap [] := va_S.rf
  have C0 : CallFix p m c prog_8_method_7_code 4 s _ kwA kRX5 := ⟨hx, hb, hml, hown, hts⟩
  have hl := lv_entry ([.ref h_this, .int p1, .int p2]) (n := 4) (Nat.le_of_ble_eq_true rfl)
  rw [lg_entry_eq]
  generalize (lg_sl ([.ref h_this, .int p1, .int p2]) ++ List.replicate (4 - (lg_sl ([.ref h_this, .int p1, .int p2])).length) Slot.unset).toArray = ls at hl ⊢
  have hl : lv_has ls 4 [(0, .ref h_this), (1, .int p1), (2, .int p2)] := hl
  unfold kFX5_end at h
  refine lv_aload_n hx hb kdX5_end_0 rfl (lv_at hl 0 rfl) ?_
  refine lv_iload_n hx hb kdX5_end_1 rfl (lv_at hl 1 rfl) ?_
  refine lv_iconst (v := 0) hx hb kdX5_end_2 (by decide) ?_
  refine lv_bipush (v := 7) hx hb kdX5_end_3 (by decide) ?_
  obtain ⟨u_2, hu_2, h⟩ := kb_o_s h
  obtain ⟨r_1, rfl⟩ : ∃ z, z = u_2 := ⟨_, rfl⟩
  have hC := (show ([] : List Nat).map (fun i : Nat => (kWX5_end cB cI cL cBB cII cSh h_this a_this r_this_slot this_taped this_code this_kind this_rate this_filled this_total this_bitAt this_k this_e1 this_du this_dv f_this_tape f_this_length m_this_slot)[i]?) = List.map some (kWX5_in cB cI cL cBB cII cSh) from rfl)
  have hPc := kb_Psub hP ([] : List Nat) hC
  have hDc := kb_Dsub hD ([] : List Nat) hC (by simp [kb_nd])
  refine kb_call0 (va_runS (As := [.int p1, .int (0 : Int32), .int (7 : Int32)]) (rest := [.ref h_this]) C0 (kcX5_in l D cB cI cL cBB cII cSh  _ p1 (0 : Int32) (7 : Int32) r_1 hu_2) (va_cwS 3 hts (kb_gS km_807 km_808 km_6 km_809) rfl rfl rfl (by decide +kernel) ⟨Nat.le_of_ble_eq_true rfl, Nat.le_of_ble_eq_true rfl⟩) ⟨kb_P_bl, (fun U hU hW => ⟨rfl, by rw [hU], by rw [hU]; exact hPc, va_K.moved hW.alike hK, kb_N_to hW hN, hDc.weaken (fun _ _ _ _ => trivial)⟩)⟩ rfl rfl hl.1 rfl (lv_room (Nat.le_of_ble_eq_true rfl)) kdX5_end_5 ⟨Nat.le_of_ble_eq_true rfl, Nat.le_of_ble_eq_true rfl⟩) hP hD hS hA ([] : List Nat) hC rfl (fun H locs hP hD hS => ?_)
  have hP : va_P D kCl (kWX5_end cB cI cL cBB cII cSh h_this a_this r_this_slot this_taped this_code this_kind this_rate this_filled this_total this_bitAt this_k this_e1 this_du this_dv f_this_tape f_this_length m_this_slot) H := hP
  have hD : va_D A (kWX5_end cB cI cL cBB cII cSh h_this a_this r_this_slot this_taped this_code this_kind this_rate this_filled this_total this_bitAt this_k this_e1 this_du this_dv f_this_tape f_this_length m_this_slot) := hD
  refine lv_if_eq (tgt := 26) hx hb kdX5_end_8 (by decide) (fun c_3 => ?_) (fun c_3 => ?_)
  · have h := kb_b_t c_3 h
    exact kjX5_end_26 C0 hlocks hr hK hN hA h_this a_this r_this_slot p1 p2 this_taped this_code this_kind this_rate this_filled this_total this_bitAt this_k this_e1 this_du this_dv f_this_tape f_this_length m_this_slot _ h _ _ _ hP hD hS (lv_sub hl [0, 1, 2] rfl)
  · have h := kb_b_f c_3 h
    refine lv_iload_n hx hb kdX5_end_11 rfl (lv_at hl 2 rfl) ?_
    refine lv_iconst (v := 0) hx hb kdX5_end_12 (by decide) ?_
    refine lv_sipush (v := 8192) hx hb kdX5_end_13 (by decide) ?_
    obtain ⟨u_25, hu_25, h⟩ := kb_o_s h
    obtain ⟨r_24, rfl⟩ : ∃ z, z = u_25 := ⟨_, rfl⟩
    have hC := (show ([] : List Nat).map (fun i : Nat => (kWX5_end cB cI cL cBB cII cSh h_this a_this r_this_slot this_taped this_code this_kind this_rate this_filled this_total this_bitAt this_k this_e1 this_du this_dv f_this_tape f_this_length m_this_slot)[i]?) = List.map some (kWX5_in cB cI cL cBB cII cSh) from rfl)
    have hPc := kb_Psub hP ([] : List Nat) hC
    have hDc := kb_Dsub hD ([] : List Nat) hC (by simp [kb_nd])
    refine kb_call0 (va_runS (As := [.int p2, .int (0 : Int32), .int (8192 : Int32)]) (rest := [.ref h_this]) C0 (kcX5_in l D cB cI cL cBB cII cSh  _ p2 (0 : Int32) (8192 : Int32) r_24 hu_25) (va_cwS 3 hts (kb_gS km_807 km_808 km_6 km_809) rfl rfl rfl (by decide +kernel) ⟨Nat.le_of_ble_eq_true rfl, Nat.le_of_ble_eq_true rfl⟩) ⟨kb_P_bl, (fun U hU hW => ⟨rfl, by rw [hU], by rw [hU]; exact hPc, va_K.moved hW.alike hK, kb_N_to hW hN, hDc.weaken (fun _ _ _ _ => trivial)⟩)⟩ rfl rfl hl.1 rfl (lv_room (Nat.le_of_ble_eq_true rfl)) kdX5_end_16 ⟨Nat.le_of_ble_eq_true rfl, Nat.le_of_ble_eq_true rfl⟩) hP hD hS hA ([] : List Nat) hC rfl (fun H locs hP hD hS => ?_)
    have hP : va_P D kCl (kWX5_end cB cI cL cBB cII cSh h_this a_this r_this_slot this_taped this_code this_kind this_rate this_filled this_total this_bitAt this_k this_e1 this_du this_dv f_this_tape f_this_length m_this_slot) H := hP
    have hD : va_D A (kWX5_end cB cI cL cBB cII cSh h_this a_this r_this_slot this_taped this_code this_kind this_rate this_filled this_total this_bitAt this_k this_e1 this_du this_dv f_this_tape f_this_length m_this_slot) := hD
    refine lv_if_eq (tgt := 26) hx hb kdX5_end_19 (by decide) (fun c_26 => ?_) (fun c_26 => ?_)
    · have h := kb_b_t c_26 h
      exact kjX5_end_26 C0 hlocks hr hK hN hA h_this a_this r_this_slot p1 p2 this_taped this_code this_kind this_rate this_filled this_total this_bitAt this_k this_e1 this_du this_dv f_this_tape f_this_length m_this_slot _ h _ _ _ hP hD hS (lv_sub hl [0, 1, 2] rfl)
    · have h := kb_b_f c_26 h
      refine lv_iconst (v := 1) hx hb kdX5_end_22 (by decide) ?_
      refine lv_goto (tgt := 27) hx hb kdX5_end_23 (by decide) ?_
      exact kjX5_end_27 C0 hlocks hr hK hN hA h_this a_this r_this_slot p1 p2 this_taped this_code this_kind this_rate this_filled this_total this_bitAt this_k this_e1 this_du this_dv f_this_tape f_this_length m_this_slot (1 : Int32) _ h _ _ _ hP hD hS (lv_sub hl [0, 1, 2] rfl)

-- 413.ModuleKemModel.copy.lean.txt
abbrev kWX5_copy (cB cI cL cBB cII cSh : ClassId) (h_this : Nat) (a_this : Nat → Nat) (r_this_slot : Nat → Nat) (this_taped : Int32) (this_code : Int32) (this_kind : Int32) (this_rate : Int32) (this_filled : Int32) (this_total : Int64) (this_bitAt : Int32) (this_k : Int32) (this_e1 : Int32) (this_du : Int32) (this_dv : Int32) (f_this_length : Nat → Int32) (m_this_slot : Nat → Nat → Int32) : va_W := ([(h_this, koX5 a_this this_taped this_code this_kind this_rate this_filled this_total this_bitAt this_k this_e1 this_du this_dv), ((a_this 1), .inl (cBB, 8, .inr (.inr (.inr (.inr (kb_rf r_this_slot 8)))))), ((a_this 2), .inl (cI, 8, .inl f_this_length))] ++ (kb_gw r_this_slot 8 (fun i => .inl (cB, 8192, .inl (m_this_slot i))) ++ []))
def krX5_copy : Room := { frames := 1, cells := 0, slots := 0, locals := 22 }
set_option maxHeartbeats 4000000 in
set_option maxRecDepth 100000 in
theorem klX5_copy_37 {p : Program} {l : Launch} {e : Env} {s : State} {m : MethodId} {args : Array Value} {below : List Frame} {meth : Method} {c : Code} {cells slots : Nat} {Q : State → Prop} {D : va_G} {cB cI cL cBB cII cSh : ClassId} {A : Nat → Prop} (C0 : CallFix p m c prog_8_method_8_code 4 s args kwA kRX5) (hlocks : meth.locks = false) (hK : va_K D kCl (kb_T cB cI cL cBB cII cSh) s) (hN : kb_N s) (hA : ∀ q, s.heap.size ≤ q → A q) (hcR : cells ≤ krX5_copy.cells) (hsR : slots ≤ krX5_copy.slots) (h_this : Nat) (a_this r_this_slot : Nat → Nat) (x1j26 : Int32) (x2j26 : Int32) (this_taped : Int32) (w_5 : Int32) (this_kind : Int32) (this_rate : Int32) (this_filled : Int32) (this_total : Int64) (this_bitAt : Int32) (this_k : Int32) (this_e1 : Int32) (this_du : Int32) (this_dv : Int32) (f_this_lengthj26 : Nat → Int32) :
    ∀ (fuel : Nat) (x3p37 : Int32) (m_this_slotp37 : Nat → Nat → Int32) (r : Int32 × (Nat → Nat → Int32)), kb_w (fun u : Int32 × (Nat → Nat → Int32) => kSX5_copy_37 x1j26 x2j26 f_this_lengthj26 u.1 u.2) fuel (x3p37, m_this_slotp37) = some r → ∀ (H : Heap) (locs : List Loc) (ls : Array Slot), va_P D kCl (kWX5_copy cB cI cL cBB cII cSh h_this a_this r_this_slot this_taped w_5 this_kind this_rate this_filled this_total this_bitAt this_k this_e1 this_du this_dv f_this_lengthj26 m_this_slotp37) H → va_D A (kWX5_copy cB cI cL cBB cII cSh h_this a_this r_this_slot this_taped w_5 this_kind this_rate this_filled this_total this_bitAt this_k this_e1 this_du this_dv f_this_lengthj26 m_this_slotp37) → va_S A s.heap H locs → lv_has ls 4 [(0, .ref h_this), (1, .int x1j26), (2, .int x2j26), (3, .int x3p37)] → (∀ (x3p37' : Int32) (m_this_slotp37' : Nat → Nat → Int32), r = (x3p37', m_this_slotp37') → ∀ (H : Heap) (locs : List Loc) (ls : Array Slot), va_P D kCl (kWX5_copy cB cI cL cBB cII cSh h_this a_this r_this_slot this_taped w_5 this_kind this_rate this_filled this_total this_bitAt this_k this_e1 this_du this_dv f_this_lengthj26 m_this_slotp37') H → va_D A (kWX5_copy cB cI cL cBB cII cSh h_this a_this r_this_slot this_taped w_5 this_kind this_rate this_filled this_total this_bitAt this_k this_e1 this_du this_dv f_this_lengthj26 m_this_slotp37') → va_S A s.heap H locs → lv_has ls 4 [(0, .ref h_this), (1, .int x1j26), (2, .int x2j26), (3, .int x3p37')] → W p l e krX5_copy s m args below meth c H locs cells slots Q (F0 m 69 ls [])) → W p l e krX5_copy s m args below meth c H locs cells slots Q (F0 m 37 ls []) := by
  obtain ⟨hx, hb, hml, hown, hts⟩ := id C0
  intro fuel
  induction fuel with
  | zero =>
    intro x3p37 m_this_slotp37 r h
    exact absurd h (kb_w_z _ _ _)
  | succ fuel ih =>
    intro x3p37 m_this_slotp37 r h H locs ls hP hD hS hl hk0
    obtain ⟨o, h, ho⟩ := kb_w_s h
    have h : kSX5_copy_37 x1j26 x2j26 f_this_lengthj26 x3p37 m_this_slotp37 = some o := h
    unfold kSX5_copy_37 at h
    refine lv_iload_n hx hb kdX5_copy_37 rfl (lv_at hl 3 rfl) ?_
    refine lv_aload_n hx hb kdX5_copy_38 rfl (lv_at hl 0 rfl) ?_
    refine va_get (ci := 5) (v := .ref (a_this 2)) (C := kRX5) (T := kTX5) (N := 35) hx hb hts kinX5 hown hK hP 0 rfl rfl 2 (by decide) (hts _ km_683) (fun _ h9 => h9) rfl kdX5_copy_39 ?_
    refine lv_iload_n hx hb kdX5_copy_42 rfl (lv_at hl 1 rfl) ?_
    obtain ⟨g_8, h⟩ := kb_g_s h
    refine va_iald hx hb hK hP 2 1 rfl rfl (kb_in_v g_8) kdX5_copy_43 ?_
    refine lv_icmp_ge (tgt := 69) hx hb kdX5_copy_44 (by decide) (fun c_9 => ?_) (fun c_9 => ?_)
    · have h := kb_b_t c_9 h
      obtain rfl := Option.some.inj h
      exact hk0 x3p37 m_this_slotp37 ho.symm _ _ _ hP hD hS (lv_sub hl [0, 1, 2, 3] rfl)
    · have h := kb_b_f c_9 h
      refine lv_aload_n hx hb kdX5_copy_47 rfl (lv_at hl 0 rfl) ?_
      refine va_get (ci := 5) (v := .ref (a_this 1)) (C := kRX5) (T := kTX5) (N := 35) hx hb hts kinX5 hown hK hP 0 rfl rfl 1 (by decide) (hts _ km_682) (fun _ h9 => h9) rfl kdX5_copy_48 ?_
      refine lv_iload_n hx hb kdX5_copy_51 rfl (lv_at hl 2 rfl) ?_
      obtain ⟨g_10, h⟩ := kb_g_s h
      refine kb_aald (j := x2j26.toNatClampNeg) hx hb hK hP 1 3 rfl rfl rfl rfl (kb_in_v g_10) kdX5_copy_52 ?_
      refine lv_iload_n hx hb kdX5_copy_53 rfl (lv_at hl 3 rfl) ?_
      refine lv_aload_n hx hb kdX5_copy_54 rfl (lv_at hl 0 rfl) ?_
      refine va_get (ci := 5) (v := .ref (a_this 1)) (C := kRX5) (T := kTX5) (N := 35) hx hb hts kinX5 hown hK hP 0 rfl rfl 1 (by decide) (hts _ km_682) (fun _ h9 => h9) rfl kdX5_copy_55 ?_
      refine lv_iload_n hx hb kdX5_copy_58 rfl (lv_at hl 1 rfl) ?_
      obtain ⟨g_11, h⟩ := kb_g_s h
      refine kb_aald (j := x1j26.toNatClampNeg) hx hb hK hP 1 3 rfl rfl rfl rfl (kb_in_v g_11) kdX5_copy_59 ?_
      refine lv_iload_n hx hb kdX5_copy_60 rfl (lv_at hl 3 rfl) ?_
      obtain ⟨g_12, h⟩ := kb_g_s h
      refine va_bald hx hb hK hP (3 + x1j26.toNatClampNeg) 0 (kb_pl_r rfl (kb_pl_l (kb_gw_at (kb_in_lt g_11)))) rfl (kb_in_v g_12) kdX5_copy_61 ?_
      obtain ⟨g_13, h⟩ := kb_g_s h
      refine va_bast hx hb hK hP hD hS (3 + x2j26.toNatClampNeg) 0 (kb_pl_r rfl (kb_pl_l (kb_gw_at (kb_in_lt g_10)))) rfl (kb_in_v g_13) kdX5_copy_62 (fun H locs hP hD hS => ?_)
      unfold kWX5_copy at hP; rw [kb_set_r (n := 3) (by rfl), kb_set_l (by rw [kb_gw_len]; exact (kb_in_lt g_10)), kb_gw_st (kb_in_lt g_10), kb_up_c (fun z => .inl (cB, 8192, .inl z))] at hP
      unfold kWX5_copy at hD; rw [kb_set_r (n := 3) (by rfl), kb_set_l (by rw [kb_gw_len]; exact (kb_in_lt g_10)), kb_gw_st (kb_in_lt g_10), kb_up_c (fun z => .inl (cB, 8192, .inl z))] at hD
      obtain ⟨m_14, em_14⟩ : ∃ y, y = va_up m_this_slotp37 x2j26.toNatClampNeg (upd (m_this_slotp37 x2j26.toNatClampNeg) x3p37.toNatClampNeg (vp_nar .byte ((m_this_slotp37 x1j26.toNatClampNeg) x3p37.toNatClampNeg))) := ⟨_, rfl⟩
      have h := kb_n_s em_14 h
      have hP : va_P D kCl (kWX5_copy cB cI cL cBB cII cSh h_this a_this r_this_slot this_taped w_5 this_kind this_rate this_filled this_total this_bitAt this_k this_e1 this_du this_dv f_this_lengthj26 m_14) H := by rw [em_14]; exact hP
      have hD : va_D A (kWX5_copy cB cI cL cBB cII cSh h_this a_this r_this_slot this_taped w_5 this_kind this_rate this_filled this_total this_bitAt this_k this_e1 this_du this_dv f_this_lengthj26 m_14) := by rw [em_14]; exact hD
      obtain ⟨x3_15, ex3_15⟩ : ∃ y : Int32, y = x3p37 + Int32.ofInt 1 := ⟨_, rfl⟩
      have h := kb_n_s ex3_15 h
      refine lv_iinc (v := x3_15) (lv' := [(3, .int x3_15), (0, .ref h_this), (1, .int x1j26), (2, .int x2j26)]) hx hb kdX5_copy_63 hl (k := 3) rfl ex3_15.symm (by decide) rfl (fun ls hl => ?_)
      refine lv_goto (tgt := 37) hx hb kdX5_copy_66 (by decide) ?_
      obtain rfl := Option.some.inj h
      exact ih x3_15 m_14 r ho _ _ _ hP hD hS (lv_sub hl [1, 2, 3, 0] rfl) hk0
set_option maxHeartbeats 4000000 in
set_option maxRecDepth 100000 in
theorem kjX5_copy_26 {p : Program} {l : Launch} {e : Env} {s : State} {m : MethodId} {args : Array Value} {below : List Frame} {meth : Method} {c : Code} {D : va_G} {cB cI cL cBB cII cSh : ClassId} {A : Nat → Prop} (C0 : CallFix p m c prog_8_method_8_code 4 s args kwA kRX5) (hlocks : meth.locks = false) (hr : meth.sig.returnType = (some .int)) (hK : va_K D kCl (kb_T cB cI cL cBB cII cSh) s) (hN : kb_N s) (hA : ∀ q, s.heap.size ≤ q → A q) (h_this : Nat) (a_this r_this_slot : Nat → Nat) (x1j26 : Int32) (x2j26 : Int32) (this_taped : Int32) (this_codej26 : Int32) (this_kind : Int32) (this_rate : Int32) (this_filled : Int32) (this_total : Int64) (this_bitAt : Int32) (this_k : Int32) (this_e1 : Int32) (this_du : Int32) (this_dv : Int32) (f_this_lengthj26 : Nat → Int32) (m_this_slotj26 : Nat → Nat → Int32) (y0j26 : Int32) (out : Int32 × Int32 × (Nat → Int32) × (Nat → Nat → Int32)) (h : kJX5_copy_26 x1j26 x2j26 f_this_lengthj26 m_this_slotj26 y0j26 = some out) (H : Heap) (locs : List Loc) (ls : Array Slot) (hP : va_P D kCl (kWX5_copy cB cI cL cBB cII cSh h_this a_this r_this_slot this_taped this_codej26 this_kind this_rate this_filled this_total this_bitAt this_k this_e1 this_du this_dv f_this_lengthj26 m_this_slotj26) H) (hD : va_D A (kWX5_copy cB cI cL cBB cII cSh h_this a_this r_this_slot this_taped this_codej26 this_kind this_rate this_filled this_total this_bitAt this_k this_e1 this_du this_dv f_this_lengthj26 m_this_slotj26)) (hS : va_S A s.heap H locs) (hl : lv_has ls 4 [(0, .ref h_this), (1, .int x1j26), (2, .int x2j26)]) : W p l e krX5_copy s m args below meth c H locs 0 0 (MQ below (kb_Q D kCl (kb_T cB cI cL cBB cII cSh) A (some (.int out.1)) (kWX5_copy cB cI cL cBB cII cSh h_this a_this r_this_slot this_taped out.2.1 this_kind this_rate this_filled this_total this_bitAt this_k this_e1 this_du this_dv out.2.2.1 out.2.2.2)) args s 0 0 A) (F0 m 26 ls [.int y0j26, .ref h_this]) := by
  obtain ⟨hx, hb, hml, hown, hts⟩ := id C0
  unfold kJX5_copy_26 at h
  refine lv_iconst (v := 1) hx hb kdX5_copy_26 (by decide) ?_
  obtain ⟨u_6, hu_6, h⟩ := kb_o_s h
  obtain ⟨r_4, w_5⟩ := u_6
  have hC := (show ([0] : List Nat).map (fun i : Nat => (kWX5_copy cB cI cL cBB cII cSh h_this a_this r_this_slot this_taped this_codej26 this_kind this_rate this_filled this_total this_bitAt this_k this_e1 this_du this_dv f_this_lengthj26 m_this_slotj26)[i]?) = List.map some (kWX5_good cB cI cL cBB cII cSh h_this a_this this_taped this_codej26 this_kind this_rate this_filled this_total this_bitAt this_k this_e1 this_du this_dv) from rfl)
  have hPc := kb_Psub hP ([0] : List Nat) hC
  have hDc := kb_Dsub hD ([0] : List Nat) hC (by simp [kb_nd])
  refine kb_call0 (va_runV (As := [.int y0j26, .int (1 : Int32)]) (rest := []) C0 (kcX5_good l D cB cI cL cBB cII cSh h_this a_this _ y0j26 (1 : Int32) this_taped this_codej26 this_kind this_rate this_filled this_total this_bitAt this_k this_e1 this_du this_dv (r_4, w_5) hu_6) (cwV 2 hts (kb_gV km_795 km_797 kp_0 km_6 km_798) rfl rfl rfl (by decide +kernel) ⟨Nat.le_of_ble_eq_true rfl, Nat.le_of_ble_eq_true rfl⟩) ⟨kb_P_bl, va_recv hK hP (ci := 5) (q0 := 0) rfl rfl, (fun U hU hW => ⟨rfl, by rw [hU], by rw [hU]; exact hPc, va_K.moved hW.alike hK, kb_N_to hW hN, hDc.weaken (fun _ _ _ _ => trivial)⟩)⟩ rfl rfl hl.1 rfl (lv_room (Nat.le_of_ble_eq_true rfl)) kdX5_copy_27 ⟨Nat.le_of_ble_eq_true rfl, Nat.le_of_ble_eq_true rfl⟩) hP hD hS hA ([0] : List Nat) hC rfl (fun H locs hP hD hS => ?_)
  have hP : va_P D kCl (kWX5_copy cB cI cL cBB cII cSh h_this a_this r_this_slot this_taped w_5 this_kind this_rate this_filled this_total this_bitAt this_k this_e1 this_du this_dv f_this_lengthj26 m_this_slotj26) H := hP
  have hD : va_D A (kWX5_copy cB cI cL cBB cII cSh h_this a_this r_this_slot this_taped w_5 this_kind this_rate this_filled this_total this_bitAt this_k this_e1 this_du this_dv f_this_lengthj26 m_this_slotj26) := hD
  refine lv_if_ne (tgt := 35) hx hb kdX5_copy_30 (by decide) (fun c_7 => ?_) (fun c_7 => ?_)
  · have h := kb_b_f c_7 h
    refine lv_iconst (v := 0) hx hb kdX5_copy_35 (by decide) ?_
    refine lv_istore_n (lv' := [(3, .int (0 : Int32)), (0, .ref h_this), (1, .int x1j26), (2, .int x2j26)]) hx hb kdX5_copy_36 rfl hl (by decide) rfl (fun ls hl => ?_)
    obtain ⟨r_22, hr_22, h⟩ := kb_o_s h
    refine klX5_copy_37 C0 hlocks hK hN hA (by decide) (by decide) h_this a_this r_this_slot x1j26 x2j26 this_taped w_5 this_kind this_rate this_filled this_total this_bitAt this_k this_e1 this_du this_dv f_this_lengthj26 100000 (0 : Int32) m_this_slotj26 r_22 hr_22 _ _ _ hP hD hS (lv_sub hl [1, 2, 3, 0] rfl) (fun x3p37_16 m_this_slotp37_17 er_22 H locs ls hP hD hS hl => ?_)
    subst er_22
    refine lv_aload_n hx hb kdX5_copy_69 rfl (lv_at hl 0 rfl) ?_
    refine va_get (ci := 5) (v := .ref (a_this 2)) (C := kRX5) (T := kTX5) (N := 35) hx hb hts kinX5 hown hK hP 0 rfl rfl 2 (by decide) (hts _ km_683) (fun _ h9 => h9) rfl kdX5_copy_70 ?_
    refine lv_iload_n hx hb kdX5_copy_73 rfl (lv_at hl 2 rfl) ?_
    refine lv_aload_n hx hb kdX5_copy_74 rfl (lv_at hl 0 rfl) ?_
    refine va_get (ci := 5) (v := .ref (a_this 2)) (C := kRX5) (T := kTX5) (N := 35) hx hb hts kinX5 hown hK hP 0 rfl rfl 2 (by decide) (hts _ km_683) (fun _ h9 => h9) rfl kdX5_copy_75 ?_
    refine lv_iload_n hx hb kdX5_copy_78 rfl (lv_at hl 1 rfl) ?_
    obtain ⟨g_18, h⟩ := kb_g_s h
    refine va_iald hx hb hK hP 2 1 rfl rfl (kb_in_v g_18) kdX5_copy_79 ?_
    obtain ⟨g_19, h⟩ := kb_g_s h
    refine va_iast hx hb hK hP hD hS 2 1 rfl rfl (kb_in_v g_19) kdX5_copy_80 (fun H locs hP hD hS => ?_)
    obtain ⟨f_20, ef_20⟩ : ∃ y, y = upd f_this_lengthj26 x2j26.toNatClampNeg (f_this_lengthj26 x1j26.toNatClampNeg) := ⟨_, rfl⟩
    have h := kb_n_s ef_20 h
    have hP : va_P D kCl (kWX5_copy cB cI cL cBB cII cSh h_this a_this r_this_slot this_taped w_5 this_kind this_rate this_filled this_total this_bitAt this_k this_e1 this_du this_dv f_20 m_this_slotp37_17) H := by rw [ef_20]; exact hP
    have hD : va_D A (kWX5_copy cB cI cL cBB cII cSh h_this a_this r_this_slot this_taped w_5 this_kind this_rate this_filled this_total this_bitAt this_k this_e1 this_du this_dv f_20 m_this_slotp37_17) := by rw [ef_20]; exact hD
    refine lv_aload_n hx hb kdX5_copy_81 rfl (lv_at hl 0 rfl) ?_
    refine va_get (ci := 5) (v := .ref (a_this 2)) (C := kRX5) (T := kTX5) (N := 35) hx hb hts kinX5 hown hK hP 0 rfl rfl 2 (by decide) (hts _ km_683) (fun _ h9 => h9) rfl kdX5_copy_82 ?_
    refine lv_iload_n hx hb kdX5_copy_85 rfl (lv_at hl 2 rfl) ?_
    obtain ⟨g_21, h⟩ := kb_g_s h
    refine va_iald hx hb hK hP 2 1 rfl rfl (kb_in_v g_21) kdX5_copy_86 ?_
    obtain rfl := Option.some.inj h
    exact W.iret (v := (f_20 x2j26.toNatClampNeg)) hx hb hr (fun t ht hW => ⟨⟨rfl, by rw [ht]; exact hP, va_K.moved hW.alike hK, hD⟩, hS.F ht⟩) hS.2.2 kdX5_copy_87
  · have h := kb_b_t c_7 h
    refine lv_iconst (v := 0) hx hb kdX5_copy_33 (by decide) ?_
    obtain rfl := Option.some.inj h
    exact W.iret (v := (0 : Int32)) hx hb hr (fun t ht hW => ⟨⟨rfl, by rw [ht]; exact hP, va_K.moved hW.alike hK, hD⟩, hS.F ht⟩) hS.2.2 kdX5_copy_34
set_option maxHeartbeats 4000000 in
set_option maxRecDepth 100000 in
theorem kjX5_copy_25 {p : Program} {l : Launch} {e : Env} {s : State} {m : MethodId} {args : Array Value} {below : List Frame} {meth : Method} {c : Code} {D : va_G} {cB cI cL cBB cII cSh : ClassId} {A : Nat → Prop} (C0 : CallFix p m c prog_8_method_8_code 4 s args kwA kRX5) (hlocks : meth.locks = false) (hr : meth.sig.returnType = (some .int)) (hK : va_K D kCl (kb_T cB cI cL cBB cII cSh) s) (hN : kb_N s) (hA : ∀ q, s.heap.size ≤ q → A q) (h_this : Nat) (a_this r_this_slot : Nat → Nat) (x1j25 : Int32) (x2j25 : Int32) (this_taped : Int32) (this_codej25 : Int32) (this_kind : Int32) (this_rate : Int32) (this_filled : Int32) (this_total : Int64) (this_bitAt : Int32) (this_k : Int32) (this_e1 : Int32) (this_du : Int32) (this_dv : Int32) (f_this_lengthj25 : Nat → Int32) (m_this_slotj25 : Nat → Nat → Int32) (out : Int32 × Int32 × (Nat → Int32) × (Nat → Nat → Int32)) (h : kJX5_copy_25 x1j25 x2j25 f_this_lengthj25 m_this_slotj25 = some out) (H : Heap) (locs : List Loc) (ls : Array Slot) (hP : va_P D kCl (kWX5_copy cB cI cL cBB cII cSh h_this a_this r_this_slot this_taped this_codej25 this_kind this_rate this_filled this_total this_bitAt this_k this_e1 this_du this_dv f_this_lengthj25 m_this_slotj25) H) (hD : va_D A (kWX5_copy cB cI cL cBB cII cSh h_this a_this r_this_slot this_taped this_codej25 this_kind this_rate this_filled this_total this_bitAt this_k this_e1 this_du this_dv f_this_lengthj25 m_this_slotj25)) (hS : va_S A s.heap H locs) (hl : lv_has ls 4 [(0, .ref h_this), (1, .int x1j25), (2, .int x2j25)]) : W p l e krX5_copy s m args below meth c H locs 0 0 (MQ below (kb_Q D kCl (kb_T cB cI cL cBB cII cSh) A (some (.int out.1)) (kWX5_copy cB cI cL cBB cII cSh h_this a_this r_this_slot this_taped out.2.1 this_kind this_rate this_filled this_total this_bitAt this_k this_e1 this_du this_dv out.2.2.1 out.2.2.2)) args s 0 0 A) (F0 m 25 ls [.ref h_this]) := by
  obtain ⟨hx, hb, hml, hown, hts⟩ := id C0
  unfold kJX5_copy_25 at h
  refine lv_iconst (v := 0) hx hb kdX5_copy_25 (by decide) ?_
  exact kjX5_copy_26 C0 hlocks hr hK hN hA h_this a_this r_this_slot x1j25 x2j25 this_taped this_codej25 this_kind this_rate this_filled this_total this_bitAt this_k this_e1 this_du this_dv f_this_lengthj25 m_this_slotj25 (0 : Int32) _ h _ _ _ hP hD hS (lv_sub hl [0, 1, 2] rfl)
set_option maxHeartbeats 4000000 in
set_option maxRecDepth 100000 in
theorem kcX5_copy (l : Launch) (D : va_G) (cB cI cL cBB cII cSh : ClassId) (h_this : Nat) (a_this r_this_slot : Nat → Nat) (sz : Nat) (p1 : Int32) (p2 : Int32) (this_taped : Int32) (this_code : Int32) (this_kind : Int32) (this_rate : Int32) (this_filled : Int32) (this_total : Int64) (this_bitAt : Int32) (this_k : Int32) (this_e1 : Int32) (this_du : Int32) (this_dv : Int32) (f_this_length : Nat → Int32) (m_this_slot : Nat → Nat → Int32) (out : Int32 × Int32 × (Nat → Int32) × (Nat → Nat → Int32)) (h : kFX5_copy p1 p2 f_this_length m_this_slot = some out) : Met l kyX5_copy kwX5_copy krX5_copy (kb_P D kCl (kb_T cB cI cL cBB cII cSh) [.ref h_this, .int p1, .int p2] (kWX5_copy cB cI cL cBB cII cSh h_this a_this r_this_slot this_taped this_code this_kind this_rate this_filled this_total this_bitAt this_k this_e1 this_du this_dv f_this_length m_this_slot) sz) (kb_Q D kCl (kb_T cB cI cL cBB cII cSh) (va_A (kWX5_copy cB cI cL cBB cII cSh h_this a_this r_this_slot this_taped this_code this_kind this_rate this_filled this_total this_bitAt this_k this_e1 this_du this_dv f_this_length m_this_slot) sz) (some (.int out.1)) (kWX5_copy cB cI cL cBB cII cSh h_this a_this r_this_slot this_taped out.2.1 this_kind this_rate this_filled this_total this_bitAt this_k this_e1 this_du this_dv out.2.2.1 out.2.2.2)) 0 0 (va_A (kWX5_copy cB cI cL cBB cII cSh h_this a_this r_this_slot this_taped this_code this_kind this_rate this_filled this_total this_bitAt this_k this_e1 this_du this_dv f_this_length m_this_slot) sz) := by
  refine Met.ofW (cc := prog_8_method_8_code) (maxL := 4) (ret := (some .int)) (by decide) rfl ?_
  intro p e s m args below meth c s₁ B hml hv
  obtain ⟨rfl, hsz, hP, hK, hN, hD0⟩ := hv
  have hx := B.exec
  have hb := B.bytes
  have hr := B.returns
  have hts0 := atoms_spec (ws := kwX5_copy) B.pre
  have hts : ∀ w ∈ kwA, w.before _ s = true := fun w h => hts0 w (List.mem_cons_of_mem _ h)
  have hown : s.vm.findClass kRX5 = some m.cls := findClass_of_methodNamed B.named
  have hlocks := B.notSynchronized
  subst hsz
  have hD := hD0.self (sz := s.heap.size)
  generalize hAe : va_A (kWX5_copy cB cI cL cBB cII cSh h_this a_this r_this_slot this_taped this_code this_kind this_rate this_filled this_total this_bitAt this_k this_e1 this_du this_dv f_this_length m_this_slot) s.heap.size = A at hD ⊢
  have hA : ∀ q : Nat, s.heap.size ≤ q → A q := fun q h => by rw [← hAe]; exact Or.inr h
  have hS : va_S A s.heap s.heap [] := va_S.rf
  have C0 : CallFix p m c prog_8_method_8_code 4 s _ kwA kRX5 := ⟨hx, hb, hml, hown, hts⟩
  have hl := lv_entry ([.ref h_this, .int p1, .int p2]) (n := 4) (Nat.le_of_ble_eq_true rfl)
  rw [lg_entry_eq]
  generalize (lg_sl ([.ref h_this, .int p1, .int p2]) ++ List.replicate (4 - (lg_sl ([.ref h_this, .int p1, .int p2])).length) Slot.unset).toArray = ls at hl ⊢
  have hl : lv_has ls 4 [(0, .ref h_this), (1, .int p1), (2, .int p2)] := hl
  unfold kFX5_copy at h
  refine lv_aload_n hx hb kdX5_copy_0 rfl (lv_at hl 0 rfl) ?_
  refine lv_iload_n hx hb kdX5_copy_1 rfl (lv_at hl 1 rfl) ?_
  refine lv_iconst (v := 0) hx hb kdX5_copy_2 (by decide) ?_
  refine lv_bipush (v := 7) hx hb kdX5_copy_3 (by decide) ?_
  obtain ⟨u_2, hu_2, h⟩ := kb_o_s h
  obtain ⟨r_1, rfl⟩ : ∃ z, z = u_2 := ⟨_, rfl⟩
  have hC := (show ([] : List Nat).map (fun i : Nat => (kWX5_copy cB cI cL cBB cII cSh h_this a_this r_this_slot this_taped this_code this_kind this_rate this_filled this_total this_bitAt this_k this_e1 this_du this_dv f_this_length m_this_slot)[i]?) = List.map some (kWX5_in cB cI cL cBB cII cSh) from rfl)
  have hPc := kb_Psub hP ([] : List Nat) hC
  have hDc := kb_Dsub hD ([] : List Nat) hC (by simp [kb_nd])
  refine kb_call0 (va_runS (As := [.int p1, .int (0 : Int32), .int (7 : Int32)]) (rest := [.ref h_this]) C0 (kcX5_in l D cB cI cL cBB cII cSh  _ p1 (0 : Int32) (7 : Int32) r_1 hu_2) (va_cwS 3 hts (kb_gS km_807 km_808 km_6 km_809) rfl rfl rfl (by decide +kernel) ⟨Nat.le_of_ble_eq_true rfl, Nat.le_of_ble_eq_true rfl⟩) ⟨kb_P_bl, (fun U hU hW => ⟨rfl, by rw [hU], by rw [hU]; exact hPc, va_K.moved hW.alike hK, kb_N_to hW hN, hDc.weaken (fun _ _ _ _ => trivial)⟩)⟩ rfl rfl hl.1 rfl (lv_room (Nat.le_of_ble_eq_true rfl)) kdX5_copy_5 ⟨Nat.le_of_ble_eq_true rfl, Nat.le_of_ble_eq_true rfl⟩) hP hD hS hA ([] : List Nat) hC rfl (fun H locs hP hD hS => ?_)
  have hP : va_P D kCl (kWX5_copy cB cI cL cBB cII cSh h_this a_this r_this_slot this_taped this_code this_kind this_rate this_filled this_total this_bitAt this_k this_e1 this_du this_dv f_this_length m_this_slot) H := hP
  have hD : va_D A (kWX5_copy cB cI cL cBB cII cSh h_this a_this r_this_slot this_taped this_code this_kind this_rate this_filled this_total this_bitAt this_k this_e1 this_du this_dv f_this_length m_this_slot) := hD
  refine lv_if_eq (tgt := 25) hx hb kdX5_copy_8 (by decide) (fun c_3 => ?_) (fun c_3 => ?_)
  · have h := kb_b_t c_3 h
    exact kjX5_copy_25 C0 hlocks hr hK hN hA h_this a_this r_this_slot p1 p2 this_taped this_code this_kind this_rate this_filled this_total this_bitAt this_k this_e1 this_du this_dv f_this_length m_this_slot _ h _ _ _ hP hD hS (lv_sub hl [0, 1, 2] rfl)
  · have h := kb_b_f c_3 h
    refine lv_iload_n hx hb kdX5_copy_11 rfl (lv_at hl 2 rfl) ?_
    refine lv_iconst (v := 0) hx hb kdX5_copy_12 (by decide) ?_
    refine lv_bipush (v := 7) hx hb kdX5_copy_13 (by decide) ?_
    obtain ⟨u_24, hu_24, h⟩ := kb_o_s h
    obtain ⟨r_23, rfl⟩ : ∃ z, z = u_24 := ⟨_, rfl⟩
    have hC := (show ([] : List Nat).map (fun i : Nat => (kWX5_copy cB cI cL cBB cII cSh h_this a_this r_this_slot this_taped this_code this_kind this_rate this_filled this_total this_bitAt this_k this_e1 this_du this_dv f_this_length m_this_slot)[i]?) = List.map some (kWX5_in cB cI cL cBB cII cSh) from rfl)
    have hPc := kb_Psub hP ([] : List Nat) hC
    have hDc := kb_Dsub hD ([] : List Nat) hC (by simp [kb_nd])
    refine kb_call0 (va_runS (As := [.int p2, .int (0 : Int32), .int (7 : Int32)]) (rest := [.ref h_this]) C0 (kcX5_in l D cB cI cL cBB cII cSh  _ p2 (0 : Int32) (7 : Int32) r_23 hu_24) (va_cwS 3 hts (kb_gS km_807 km_808 km_6 km_809) rfl rfl rfl (by decide +kernel) ⟨Nat.le_of_ble_eq_true rfl, Nat.le_of_ble_eq_true rfl⟩) ⟨kb_P_bl, (fun U hU hW => ⟨rfl, by rw [hU], by rw [hU]; exact hPc, va_K.moved hW.alike hK, kb_N_to hW hN, hDc.weaken (fun _ _ _ _ => trivial)⟩)⟩ rfl rfl hl.1 rfl (lv_room (Nat.le_of_ble_eq_true rfl)) kdX5_copy_15 ⟨Nat.le_of_ble_eq_true rfl, Nat.le_of_ble_eq_true rfl⟩) hP hD hS hA ([] : List Nat) hC rfl (fun H locs hP hD hS => ?_)
    have hP : va_P D kCl (kWX5_copy cB cI cL cBB cII cSh h_this a_this r_this_slot this_taped this_code this_kind this_rate this_filled this_total this_bitAt this_k this_e1 this_du this_dv f_this_length m_this_slot) H := hP
    have hD : va_D A (kWX5_copy cB cI cL cBB cII cSh h_this a_this r_this_slot this_taped this_code this_kind this_rate this_filled this_total this_bitAt this_k this_e1 this_du this_dv f_this_length m_this_slot) := hD
    refine lv_if_eq (tgt := 25) hx hb kdX5_copy_18 (by decide) (fun c_25 => ?_) (fun c_25 => ?_)
    · have h := kb_b_t c_25 h
      exact kjX5_copy_25 C0 hlocks hr hK hN hA h_this a_this r_this_slot p1 p2 this_taped this_code this_kind this_rate this_filled this_total this_bitAt this_k this_e1 this_du this_dv f_this_length m_this_slot _ h _ _ _ hP hD hS (lv_sub hl [0, 1, 2] rfl)
    · have h := kb_b_f c_25 h
      refine lv_iconst (v := 1) hx hb kdX5_copy_21 (by decide) ?_
      refine lv_goto (tgt := 26) hx hb kdX5_copy_22 (by decide) ?_
      exact kjX5_copy_26 C0 hlocks hr hK hN hA h_this a_this r_this_slot p1 p2 this_taped this_code this_kind this_rate this_filled this_total this_bitAt this_k this_e1 this_du this_dv f_this_length m_this_slot (1 : Int32) _ h _ _ _ hP hD hS (lv_sub hl [0, 1, 2] rfl)

-- 414.ModuleKemModel.resize.lean.txt
abbrev kWX5_resize (cB cI cL cBB cII cSh : ClassId) (h_this : Nat) (a_this : Nat → Nat) (r_this_slot : Nat → Nat) (this_taped : Int32) (this_code : Int32) (this_kind : Int32) (this_rate : Int32) (this_filled : Int32) (this_total : Int64) (this_bitAt : Int32) (this_k : Int32) (this_e1 : Int32) (this_du : Int32) (this_dv : Int32) (f_this_length : Nat → Int32) (m_this_slot : Nat → Nat → Int32) : va_W := ([(h_this, koX5 a_this this_taped this_code this_kind this_rate this_filled this_total this_bitAt this_k this_e1 this_du this_dv), ((a_this 1), .inl (cBB, 8, .inr (.inr (.inr (.inr (kb_rf r_this_slot 8)))))), ((a_this 2), .inl (cI, 8, .inl f_this_length))] ++ (kb_gw r_this_slot 8 (fun i => .inl (cB, 8192, .inl (m_this_slot i))) ++ []))
def krX5_resize : Room := { frames := 1, cells := 0, slots := 0, locals := 22 }
set_option maxHeartbeats 4000000 in
set_option maxRecDepth 100000 in
theorem klX5_resize_46 {p : Program} {l : Launch} {e : Env} {s : State} {m : MethodId} {args : Array Value} {below : List Frame} {meth : Method} {c : Code} {cells slots : Nat} {Q : State → Prop} {D : va_G} {cB cI cL cBB cII cSh : ClassId} {A : Nat → Prop} (C0 : CallFix p m c prog_8_method_9_code 5 s args kwA kRX5) (hlocks : meth.locks = false) (hK : va_K D kCl (kb_T cB cI cL cBB cII cSh) s) (hN : kb_N s) (hA : ∀ q, s.heap.size ≤ q → A q) (hcR : cells ≤ krX5_resize.cells) (hsR : slots ≤ krX5_resize.slots) (h_this : Nat) (a_this r_this_slot : Nat → Nat) (x1j27 : Int32) (x2j27 : Int32) (x3_9 : Int32) (this_taped : Int32) (w_5 : Int32) (this_kind : Int32) (this_rate : Int32) (this_filled : Int32) (this_total : Int64) (this_bitAt : Int32) (this_k : Int32) (this_e1 : Int32) (this_du : Int32) (this_dv : Int32) (f_this_lengthj27 : Nat → Int32) :
    ∀ (fuel : Nat) (x4p46 : Int32) (m_this_slotp46 : Nat → Nat → Int32) (r : Int32 × (Nat → Nat → Int32)), kb_w (fun u : Int32 × (Nat → Nat → Int32) => kSX5_resize_46 x1j27 x2j27 u.1 u.2) fuel (x4p46, m_this_slotp46) = some r → ∀ (H : Heap) (locs : List Loc) (ls : Array Slot), va_P D kCl (kWX5_resize cB cI cL cBB cII cSh h_this a_this r_this_slot this_taped w_5 this_kind this_rate this_filled this_total this_bitAt this_k this_e1 this_du this_dv f_this_lengthj27 m_this_slotp46) H → va_D A (kWX5_resize cB cI cL cBB cII cSh h_this a_this r_this_slot this_taped w_5 this_kind this_rate this_filled this_total this_bitAt this_k this_e1 this_du this_dv f_this_lengthj27 m_this_slotp46) → va_S A s.heap H locs → lv_has ls 5 [(0, .ref h_this), (1, .int x1j27), (2, .int x2j27), (3, .int x3_9), (4, .int x4p46)] → (∀ (x4p46' : Int32) (m_this_slotp46' : Nat → Nat → Int32), r = (x4p46', m_this_slotp46') → ∀ (H : Heap) (locs : List Loc) (ls : Array Slot), va_P D kCl (kWX5_resize cB cI cL cBB cII cSh h_this a_this r_this_slot this_taped w_5 this_kind this_rate this_filled this_total this_bitAt this_k this_e1 this_du this_dv f_this_lengthj27 m_this_slotp46') H → va_D A (kWX5_resize cB cI cL cBB cII cSh h_this a_this r_this_slot this_taped w_5 this_kind this_rate this_filled this_total this_bitAt this_k this_e1 this_du this_dv f_this_lengthj27 m_this_slotp46') → va_S A s.heap H locs → lv_has ls 5 [(0, .ref h_this), (1, .int x1j27), (2, .int x2j27), (3, .int x3_9), (4, .int x4p46')] → W p l e krX5_resize s m args below meth c H locs cells slots Q (F0 m 68 ls [])) → W p l e krX5_resize s m args below meth c H locs cells slots Q (F0 m 46 ls []) := by
  obtain ⟨hx, hb, hml, hown, hts⟩ := id C0
  intro fuel
  induction fuel with
  | zero =>
    intro x4p46 m_this_slotp46 r h
    exact absurd h (kb_w_z _ _ _)
  | succ fuel ih =>
    intro x4p46 m_this_slotp46 r h H locs ls hP hD hS hl hk0
    obtain ⟨o, h, ho⟩ := kb_w_s h
    have h : kSX5_resize_46 x1j27 x2j27 x4p46 m_this_slotp46 = some o := h
    unfold kSX5_resize_46 at h
    refine lv_iload hx hb kdX5_resize_46 (lv_at hl 4 rfl) ?_
    refine lv_iload_n hx hb kdX5_resize_48 rfl (lv_at hl 2 rfl) ?_
    refine lv_icmp_ge (tgt := 68) hx hb kdX5_resize_49 (by decide) (fun c_10 => ?_) (fun c_10 => ?_)
    · have h := kb_b_t c_10 h
      obtain rfl := Option.some.inj h
      exact hk0 x4p46 m_this_slotp46 ho.symm _ _ _ hP hD hS (lv_sub hl [0, 1, 2, 3, 4] rfl)
    · have h := kb_b_f c_10 h
      refine lv_aload_n hx hb kdX5_resize_52 rfl (lv_at hl 0 rfl) ?_
      refine va_get (ci := 5) (v := .ref (a_this 1)) (C := kRX5) (T := kTX5) (N := 35) hx hb hts kinX5 hown hK hP 0 rfl rfl 1 (by decide) (hts _ km_682) (fun _ h9 => h9) rfl kdX5_resize_53 ?_
      refine lv_iload_n hx hb kdX5_resize_56 rfl (lv_at hl 1 rfl) ?_
      obtain ⟨g_11, h⟩ := kb_g_s h
      refine kb_aald (j := x1j27.toNatClampNeg) hx hb hK hP 1 3 rfl rfl rfl rfl (kb_in_v g_11) kdX5_resize_57 ?_
      refine lv_iload hx hb kdX5_resize_58 (lv_at hl 4 rfl) ?_
      refine lv_iconst (v := 0) hx hb kdX5_resize_60 (by decide) ?_
      obtain ⟨g_12, h⟩ := kb_g_s h
      refine va_bast hx hb hK hP hD hS (3 + x1j27.toNatClampNeg) 0 (kb_pl_r rfl (kb_pl_l (kb_gw_at (kb_in_lt g_11)))) rfl (kb_in_v g_12) kdX5_resize_61 (fun H locs hP hD hS => ?_)
      unfold kWX5_resize at hP; rw [kb_set_r (n := 3) (by rfl), kb_set_l (by rw [kb_gw_len]; exact (kb_in_lt g_11)), kb_gw_st (kb_in_lt g_11), kb_up_c (fun z => .inl (cB, 8192, .inl z))] at hP
      unfold kWX5_resize at hD; rw [kb_set_r (n := 3) (by rfl), kb_set_l (by rw [kb_gw_len]; exact (kb_in_lt g_11)), kb_gw_st (kb_in_lt g_11), kb_up_c (fun z => .inl (cB, 8192, .inl z))] at hD
      obtain ⟨m_13, em_13⟩ : ∃ y, y = va_up m_this_slotp46 x1j27.toNatClampNeg (upd (m_this_slotp46 x1j27.toNatClampNeg) x4p46.toNatClampNeg (vp_nar .byte (0 : Int32))) := ⟨_, rfl⟩
      have h := kb_n_s em_13 h
      have hP : va_P D kCl (kWX5_resize cB cI cL cBB cII cSh h_this a_this r_this_slot this_taped w_5 this_kind this_rate this_filled this_total this_bitAt this_k this_e1 this_du this_dv f_this_lengthj27 m_13) H := by rw [em_13]; exact hP
      have hD : va_D A (kWX5_resize cB cI cL cBB cII cSh h_this a_this r_this_slot this_taped w_5 this_kind this_rate this_filled this_total this_bitAt this_k this_e1 this_du this_dv f_this_lengthj27 m_13) := by rw [em_13]; exact hD
      obtain ⟨x4_14, ex4_14⟩ : ∃ y : Int32, y = x4p46 + Int32.ofInt 1 := ⟨_, rfl⟩
      have h := kb_n_s ex4_14 h
      refine lv_iinc (v := x4_14) (lv' := [(4, .int x4_14), (0, .ref h_this), (1, .int x1j27), (2, .int x2j27), (3, .int x3_9)]) hx hb kdX5_resize_62 hl (k := 4) rfl ex4_14.symm (by decide) rfl (fun ls hl => ?_)
      refine lv_goto (tgt := 46) hx hb kdX5_resize_65 (by decide) ?_
      obtain rfl := Option.some.inj h
      exact ih x4_14 m_13 r ho _ _ _ hP hD hS (lv_sub hl [1, 2, 3, 4, 0] rfl) hk0
set_option maxHeartbeats 4000000 in
set_option maxRecDepth 100000 in
theorem kjX5_resize_27 {p : Program} {l : Launch} {e : Env} {s : State} {m : MethodId} {args : Array Value} {below : List Frame} {meth : Method} {c : Code} {D : va_G} {cB cI cL cBB cII cSh : ClassId} {A : Nat → Prop} (C0 : CallFix p m c prog_8_method_9_code 5 s args kwA kRX5) (hlocks : meth.locks = false) (hr : meth.sig.returnType = (some .int)) (hK : va_K D kCl (kb_T cB cI cL cBB cII cSh) s) (hN : kb_N s) (hA : ∀ q, s.heap.size ≤ q → A q) (h_this : Nat) (a_this r_this_slot : Nat → Nat) (x1j27 : Int32) (x2j27 : Int32) (this_taped : Int32) (this_codej27 : Int32) (this_kind : Int32) (this_rate : Int32) (this_filled : Int32) (this_total : Int64) (this_bitAt : Int32) (this_k : Int32) (this_e1 : Int32) (this_du : Int32) (this_dv : Int32) (f_this_lengthj27 : Nat → Int32) (m_this_slotj27 : Nat → Nat → Int32) (y0j27 : Int32) (out : Int32 × Int32 × (Nat → Int32) × (Nat → Nat → Int32)) (h : kJX5_resize_27 x1j27 x2j27 f_this_lengthj27 m_this_slotj27 y0j27 = some out) (H : Heap) (locs : List Loc) (ls : Array Slot) (hP : va_P D kCl (kWX5_resize cB cI cL cBB cII cSh h_this a_this r_this_slot this_taped this_codej27 this_kind this_rate this_filled this_total this_bitAt this_k this_e1 this_du this_dv f_this_lengthj27 m_this_slotj27) H) (hD : va_D A (kWX5_resize cB cI cL cBB cII cSh h_this a_this r_this_slot this_taped this_codej27 this_kind this_rate this_filled this_total this_bitAt this_k this_e1 this_du this_dv f_this_lengthj27 m_this_slotj27)) (hS : va_S A s.heap H locs) (hl : lv_has ls 5 [(0, .ref h_this), (1, .int x1j27), (2, .int x2j27)]) : W p l e krX5_resize s m args below meth c H locs 0 0 (MQ below (kb_Q D kCl (kb_T cB cI cL cBB cII cSh) A (some (.int out.1)) (kWX5_resize cB cI cL cBB cII cSh h_this a_this r_this_slot this_taped out.2.1 this_kind this_rate this_filled this_total this_bitAt this_k this_e1 this_du this_dv out.2.2.1 out.2.2.2)) args s 0 0 A) (F0 m 27 ls [.int y0j27, .ref h_this]) := by
  obtain ⟨hx, hb, hml, hown, hts⟩ := id C0
  unfold kJX5_resize_27 at h
  refine lv_iconst (v := 1) hx hb kdX5_resize_27 (by decide) ?_
  obtain ⟨u_6, hu_6, h⟩ := kb_o_s h
  obtain ⟨r_4, w_5⟩ := u_6
  have hC := (show ([0] : List Nat).map (fun i : Nat => (kWX5_resize cB cI cL cBB cII cSh h_this a_this r_this_slot this_taped this_codej27 this_kind this_rate this_filled this_total this_bitAt this_k this_e1 this_du this_dv f_this_lengthj27 m_this_slotj27)[i]?) = List.map some (kWX5_good cB cI cL cBB cII cSh h_this a_this this_taped this_codej27 this_kind this_rate this_filled this_total this_bitAt this_k this_e1 this_du this_dv) from rfl)
  have hPc := kb_Psub hP ([0] : List Nat) hC
  have hDc := kb_Dsub hD ([0] : List Nat) hC (by simp [kb_nd])
  refine kb_call0 (va_runV (As := [.int y0j27, .int (1 : Int32)]) (rest := []) C0 (kcX5_good l D cB cI cL cBB cII cSh h_this a_this _ y0j27 (1 : Int32) this_taped this_codej27 this_kind this_rate this_filled this_total this_bitAt this_k this_e1 this_du this_dv (r_4, w_5) hu_6) (cwV 2 hts (kb_gV km_795 km_797 kp_0 km_6 km_798) rfl rfl rfl (by decide +kernel) ⟨Nat.le_of_ble_eq_true rfl, Nat.le_of_ble_eq_true rfl⟩) ⟨kb_P_bl, va_recv hK hP (ci := 5) (q0 := 0) rfl rfl, (fun U hU hW => ⟨rfl, by rw [hU], by rw [hU]; exact hPc, va_K.moved hW.alike hK, kb_N_to hW hN, hDc.weaken (fun _ _ _ _ => trivial)⟩)⟩ rfl rfl hl.1 rfl (lv_room (Nat.le_of_ble_eq_true rfl)) kdX5_resize_28 ⟨Nat.le_of_ble_eq_true rfl, Nat.le_of_ble_eq_true rfl⟩) hP hD hS hA ([0] : List Nat) hC rfl (fun H locs hP hD hS => ?_)
  have hP : va_P D kCl (kWX5_resize cB cI cL cBB cII cSh h_this a_this r_this_slot this_taped w_5 this_kind this_rate this_filled this_total this_bitAt this_k this_e1 this_du this_dv f_this_lengthj27 m_this_slotj27) H := hP
  have hD : va_D A (kWX5_resize cB cI cL cBB cII cSh h_this a_this r_this_slot this_taped w_5 this_kind this_rate this_filled this_total this_bitAt this_k this_e1 this_du this_dv f_this_lengthj27 m_this_slotj27) := hD
  refine lv_if_ne (tgt := 36) hx hb kdX5_resize_31 (by decide) (fun c_7 => ?_) (fun c_7 => ?_)
  · have h := kb_b_f c_7 h
    refine lv_aload_n hx hb kdX5_resize_36 rfl (lv_at hl 0 rfl) ?_
    refine va_get (ci := 5) (v := .ref (a_this 2)) (C := kRX5) (T := kTX5) (N := 35) hx hb hts kinX5 hown hK hP 0 rfl rfl 2 (by decide) (hts _ km_683) (fun _ h9 => h9) rfl kdX5_resize_37 ?_
    refine lv_iload_n hx hb kdX5_resize_40 rfl (lv_at hl 1 rfl) ?_
    obtain ⟨g_8, h⟩ := kb_g_s h
    refine va_iald hx hb hK hP 2 1 rfl rfl (kb_in_v g_8) kdX5_resize_41 ?_
    refine lv_topi (fun x3_9 ex3_9 => ?_)
    have h := kb_n_s ex3_9 h
    refine lv_istore_n (lv' := [(3, .int x3_9), (0, .ref h_this), (1, .int x1j27), (2, .int x2j27)]) hx hb kdX5_resize_42 rfl hl (by decide) rfl (fun ls hl => ?_)
    refine lv_iload_n hx hb kdX5_resize_43 rfl (lv_at hl 0 rfl) ?_
    refine lv_istore (lv' := [(4, .int x3_9), (3, .int x3_9), (0, .ref h_this), (1, .int x1j27), (2, .int x2j27)]) hx hb kdX5_resize_44 hl (by decide) rfl (fun ls hl => ?_)
    obtain ⟨r_19, hr_19, h⟩ := kb_o_s h
    refine klX5_resize_46 C0 hlocks hK hN hA (by decide) (by decide) h_this a_this r_this_slot x1j27 x2j27 x3_9 this_taped w_5 this_kind this_rate this_filled this_total this_bitAt this_k this_e1 this_du this_dv f_this_lengthj27 100000 x3_9 m_this_slotj27 r_19 hr_19 _ _ _ hP hD hS (lv_sub hl [2, 3, 4, 1, 0] rfl) (fun x4p46_15 m_this_slotp46_16 er_19 H locs ls hP hD hS hl => ?_)
    subst er_19
    refine lv_aload_n hx hb kdX5_resize_68 rfl (lv_at hl 0 rfl) ?_
    refine va_get (ci := 5) (v := .ref (a_this 2)) (C := kRX5) (T := kTX5) (N := 35) hx hb hts kinX5 hown hK hP 0 rfl rfl 2 (by decide) (hts _ km_683) (fun _ h9 => h9) rfl kdX5_resize_69 ?_
    refine lv_iload_n hx hb kdX5_resize_72 rfl (lv_at hl 1 rfl) ?_
    refine lv_iload_n hx hb kdX5_resize_73 rfl (lv_at hl 2 rfl) ?_
    obtain ⟨g_17, h⟩ := kb_g_s h
    refine va_iast hx hb hK hP hD hS 2 1 rfl rfl (kb_in_v g_17) kdX5_resize_74 (fun H locs hP hD hS => ?_)
    obtain ⟨f_18, ef_18⟩ : ∃ y, y = upd f_this_lengthj27 x1j27.toNatClampNeg x2j27 := ⟨_, rfl⟩
    have h := kb_n_s ef_18 h
    have hP : va_P D kCl (kWX5_resize cB cI cL cBB cII cSh h_this a_this r_this_slot this_taped w_5 this_kind this_rate this_filled this_total this_bitAt this_k this_e1 this_du this_dv f_18 m_this_slotp46_16) H := by rw [ef_18]; exact hP
    have hD : va_D A (kWX5_resize cB cI cL cBB cII cSh h_this a_this r_this_slot this_taped w_5 this_kind this_rate this_filled this_total this_bitAt this_k this_e1 this_du this_dv f_18 m_this_slotp46_16) := by rw [ef_18]; exact hD
    refine lv_iload_n hx hb kdX5_resize_75 rfl (lv_at hl 3 rfl) ?_
    obtain rfl := Option.some.inj h
    exact W.iret (v := x3_9) hx hb hr (fun t ht hW => ⟨⟨rfl, by rw [ht]; exact hP, va_K.moved hW.alike hK, hD⟩, hS.F ht⟩) hS.2.2 kdX5_resize_76
  · have h := kb_b_t c_7 h
    refine lv_iconst (v := 0) hx hb kdX5_resize_34 (by decide) ?_
    obtain rfl := Option.some.inj h
    exact W.iret (v := (0 : Int32)) hx hb hr (fun t ht hW => ⟨⟨rfl, by rw [ht]; exact hP, va_K.moved hW.alike hK, hD⟩, hS.F ht⟩) hS.2.2 kdX5_resize_35
set_option maxHeartbeats 4000000 in
set_option maxRecDepth 100000 in
theorem kjX5_resize_26 {p : Program} {l : Launch} {e : Env} {s : State} {m : MethodId} {args : Array Value} {below : List Frame} {meth : Method} {c : Code} {D : va_G} {cB cI cL cBB cII cSh : ClassId} {A : Nat → Prop} (C0 : CallFix p m c prog_8_method_9_code 5 s args kwA kRX5) (hlocks : meth.locks = false) (hr : meth.sig.returnType = (some .int)) (hK : va_K D kCl (kb_T cB cI cL cBB cII cSh) s) (hN : kb_N s) (hA : ∀ q, s.heap.size ≤ q → A q) (h_this : Nat) (a_this r_this_slot : Nat → Nat) (x1j26 : Int32) (x2j26 : Int32) (this_taped : Int32) (this_codej26 : Int32) (this_kind : Int32) (this_rate : Int32) (this_filled : Int32) (this_total : Int64) (this_bitAt : Int32) (this_k : Int32) (this_e1 : Int32) (this_du : Int32) (this_dv : Int32) (f_this_lengthj26 : Nat → Int32) (m_this_slotj26 : Nat → Nat → Int32) (out : Int32 × Int32 × (Nat → Int32) × (Nat → Nat → Int32)) (h : kJX5_resize_26 x1j26 x2j26 f_this_lengthj26 m_this_slotj26 = some out) (H : Heap) (locs : List Loc) (ls : Array Slot) (hP : va_P D kCl (kWX5_resize cB cI cL cBB cII cSh h_this a_this r_this_slot this_taped this_codej26 this_kind this_rate this_filled this_total this_bitAt this_k this_e1 this_du this_dv f_this_lengthj26 m_this_slotj26) H) (hD : va_D A (kWX5_resize cB cI cL cBB cII cSh h_this a_this r_this_slot this_taped this_codej26 this_kind this_rate this_filled this_total this_bitAt this_k this_e1 this_du this_dv f_this_lengthj26 m_this_slotj26)) (hS : va_S A s.heap H locs) (hl : lv_has ls 5 [(0, .ref h_this), (1, .int x1j26), (2, .int x2j26)]) : W p l e krX5_resize s m args below meth c H locs 0 0 (MQ below (kb_Q D kCl (kb_T cB cI cL cBB cII cSh) A (some (.int out.1)) (kWX5_resize cB cI cL cBB cII cSh h_this a_this r_this_slot this_taped out.2.1 this_kind this_rate this_filled this_total this_bitAt this_k this_e1 this_du this_dv out.2.2.1 out.2.2.2)) args s 0 0 A) (F0 m 26 ls [.ref h_this]) := by
  obtain ⟨hx, hb, hml, hown, hts⟩ := id C0
  unfold kJX5_resize_26 at h
  refine lv_iconst (v := 0) hx hb kdX5_resize_26 (by decide) ?_
  exact kjX5_resize_27 C0 hlocks hr hK hN hA h_this a_this r_this_slot x1j26 x2j26 this_taped this_codej26 this_kind this_rate this_filled this_total this_bitAt this_k this_e1 this_du this_dv f_this_lengthj26 m_this_slotj26 (0 : Int32) _ h _ _ _ hP hD hS (lv_sub hl [0, 1, 2] rfl)
set_option maxHeartbeats 4000000 in
set_option maxRecDepth 100000 in
theorem kcX5_resize (l : Launch) (D : va_G) (cB cI cL cBB cII cSh : ClassId) (h_this : Nat) (a_this r_this_slot : Nat → Nat) (sz : Nat) (p1 : Int32) (p2 : Int32) (this_taped : Int32) (this_code : Int32) (this_kind : Int32) (this_rate : Int32) (this_filled : Int32) (this_total : Int64) (this_bitAt : Int32) (this_k : Int32) (this_e1 : Int32) (this_du : Int32) (this_dv : Int32) (f_this_length : Nat → Int32) (m_this_slot : Nat → Nat → Int32) (out : Int32 × Int32 × (Nat → Int32) × (Nat → Nat → Int32)) (h : kFX5_resize p1 p2 f_this_length m_this_slot = some out) : Met l kyX5_resize kwX5_resize krX5_resize (kb_P D kCl (kb_T cB cI cL cBB cII cSh) [.ref h_this, .int p1, .int p2] (kWX5_resize cB cI cL cBB cII cSh h_this a_this r_this_slot this_taped this_code this_kind this_rate this_filled this_total this_bitAt this_k this_e1 this_du this_dv f_this_length m_this_slot) sz) (kb_Q D kCl (kb_T cB cI cL cBB cII cSh) (va_A (kWX5_resize cB cI cL cBB cII cSh h_this a_this r_this_slot this_taped this_code this_kind this_rate this_filled this_total this_bitAt this_k this_e1 this_du this_dv f_this_length m_this_slot) sz) (some (.int out.1)) (kWX5_resize cB cI cL cBB cII cSh h_this a_this r_this_slot this_taped out.2.1 this_kind this_rate this_filled this_total this_bitAt this_k this_e1 this_du this_dv out.2.2.1 out.2.2.2)) 0 0 (va_A (kWX5_resize cB cI cL cBB cII cSh h_this a_this r_this_slot this_taped this_code this_kind this_rate this_filled this_total this_bitAt this_k this_e1 this_du this_dv f_this_length m_this_slot) sz) := by
  refine Met.ofW (cc := prog_8_method_9_code) (maxL := 5) (ret := (some .int)) (by decide) rfl ?_
  intro p e s m args below meth c s₁ B hml hv
  obtain ⟨rfl, hsz, hP, hK, hN, hD0⟩ := hv
  have hx := B.exec
  have hb := B.bytes
  have hr := B.returns
  have hts0 := atoms_spec (ws := kwX5_resize) B.pre
  have hts : ∀ w ∈ kwA, w.before _ s = true := fun w h => hts0 w (List.mem_cons_of_mem _ h)
  have hown : s.vm.findClass kRX5 = some m.cls := findClass_of_methodNamed B.named
  have hlocks := B.notSynchronized
  subst hsz
  have hD := hD0.self (sz := s.heap.size)
  generalize hAe : va_A (kWX5_resize cB cI cL cBB cII cSh h_this a_this r_this_slot this_taped this_code this_kind this_rate this_filled this_total this_bitAt this_k this_e1 this_du this_dv f_this_length m_this_slot) s.heap.size = A at hD ⊢
  have hA : ∀ q : Nat, s.heap.size ≤ q → A q := fun q h => by rw [← hAe]; exact Or.inr h
  have hS : va_S A s.heap s.heap [] := va_S.rf
  have C0 : CallFix p m c prog_8_method_9_code 5 s _ kwA kRX5 := ⟨hx, hb, hml, hown, hts⟩
  have hl := lv_entry ([.ref h_this, .int p1, .int p2]) (n := 5) (Nat.le_of_ble_eq_true rfl)
  rw [lg_entry_eq]
  generalize (lg_sl ([.ref h_this, .int p1, .int p2]) ++ List.replicate (5 - (lg_sl ([.ref h_this, .int p1, .int p2])).length) Slot.unset).toArray = ls at hl ⊢
  have hl : lv_has ls 5 [(0, .ref h_this), (1, .int p1), (2, .int p2)] := hl
  unfold kFX5_resize at h
  refine lv_aload_n hx hb kdX5_resize_0 rfl (lv_at hl 0 rfl) ?_
  refine lv_iload_n hx hb kdX5_resize_1 rfl (lv_at hl 1 rfl) ?_
  refine lv_iconst (v := 0) hx hb kdX5_resize_2 (by decide) ?_
  refine lv_bipush (v := 7) hx hb kdX5_resize_3 (by decide) ?_
  obtain ⟨u_2, hu_2, h⟩ := kb_o_s h
  obtain ⟨r_1, rfl⟩ : ∃ z, z = u_2 := ⟨_, rfl⟩
  have hC := (show ([] : List Nat).map (fun i : Nat => (kWX5_resize cB cI cL cBB cII cSh h_this a_this r_this_slot this_taped this_code this_kind this_rate this_filled this_total this_bitAt this_k this_e1 this_du this_dv f_this_length m_this_slot)[i]?) = List.map some (kWX5_in cB cI cL cBB cII cSh) from rfl)
  have hPc := kb_Psub hP ([] : List Nat) hC
  have hDc := kb_Dsub hD ([] : List Nat) hC (by simp [kb_nd])
  refine kb_call0 (va_runS (As := [.int p1, .int (0 : Int32), .int (7 : Int32)]) (rest := [.ref h_this]) C0 (kcX5_in l D cB cI cL cBB cII cSh  _ p1 (0 : Int32) (7 : Int32) r_1 hu_2) (va_cwS 3 hts (kb_gS km_807 km_808 km_6 km_809) rfl rfl rfl (by decide +kernel) ⟨Nat.le_of_ble_eq_true rfl, Nat.le_of_ble_eq_true rfl⟩) ⟨kb_P_bl, (fun U hU hW => ⟨rfl, by rw [hU], by rw [hU]; exact hPc, va_K.moved hW.alike hK, kb_N_to hW hN, hDc.weaken (fun _ _ _ _ => trivial)⟩)⟩ rfl rfl hl.1 rfl (lv_room (Nat.le_of_ble_eq_true rfl)) kdX5_resize_5 ⟨Nat.le_of_ble_eq_true rfl, Nat.le_of_ble_eq_true rfl⟩) hP hD hS hA ([] : List Nat) hC rfl (fun H locs hP hD hS => ?_)
  have hP : va_P D kCl (kWX5_resize cB cI cL cBB cII cSh h_this a_this r_this_slot this_taped this_code this_kind this_rate this_filled this_total this_bitAt this_k this_e1 this_du this_dv f_this_length m_this_slot) H := hP
  have hD : va_D A (kWX5_resize cB cI cL cBB cII cSh h_this a_this r_this_slot this_taped this_code this_kind this_rate this_filled this_total this_bitAt this_k this_e1 this_du this_dv f_this_length m_this_slot) := hD
  refine lv_if_eq (tgt := 26) hx hb kdX5_resize_8 (by decide) (fun c_3 => ?_) (fun c_3 => ?_)
  · have h := kb_b_t c_3 h
    exact kjX5_resize_26 C0 hlocks hr hK hN hA h_this a_this r_this_slot p1 p2 this_taped this_code this_kind this_rate this_filled this_total this_bitAt this_k this_e1 this_du this_dv f_this_length m_this_slot _ h _ _ _ hP hD hS (lv_sub hl [0, 1, 2] rfl)
  · have h := kb_b_f c_3 h
    refine lv_iload_n hx hb kdX5_resize_11 rfl (lv_at hl 2 rfl) ?_
    refine lv_iconst (v := 0) hx hb kdX5_resize_12 (by decide) ?_
    refine lv_sipush (v := 8192) hx hb kdX5_resize_13 (by decide) ?_
    obtain ⟨u_21, hu_21, h⟩ := kb_o_s h
    obtain ⟨r_20, rfl⟩ : ∃ z, z = u_21 := ⟨_, rfl⟩
    have hC := (show ([] : List Nat).map (fun i : Nat => (kWX5_resize cB cI cL cBB cII cSh h_this a_this r_this_slot this_taped this_code this_kind this_rate this_filled this_total this_bitAt this_k this_e1 this_du this_dv f_this_length m_this_slot)[i]?) = List.map some (kWX5_in cB cI cL cBB cII cSh) from rfl)
    have hPc := kb_Psub hP ([] : List Nat) hC
    have hDc := kb_Dsub hD ([] : List Nat) hC (by simp [kb_nd])
    refine kb_call0 (va_runS (As := [.int p2, .int (0 : Int32), .int (8192 : Int32)]) (rest := [.ref h_this]) C0 (kcX5_in l D cB cI cL cBB cII cSh  _ p2 (0 : Int32) (8192 : Int32) r_20 hu_21) (va_cwS 3 hts (kb_gS km_807 km_808 km_6 km_809) rfl rfl rfl (by decide +kernel) ⟨Nat.le_of_ble_eq_true rfl, Nat.le_of_ble_eq_true rfl⟩) ⟨kb_P_bl, (fun U hU hW => ⟨rfl, by rw [hU], by rw [hU]; exact hPc, va_K.moved hW.alike hK, kb_N_to hW hN, hDc.weaken (fun _ _ _ _ => trivial)⟩)⟩ rfl rfl hl.1 rfl (lv_room (Nat.le_of_ble_eq_true rfl)) kdX5_resize_16 ⟨Nat.le_of_ble_eq_true rfl, Nat.le_of_ble_eq_true rfl⟩) hP hD hS hA ([] : List Nat) hC rfl (fun H locs hP hD hS => ?_)
    have hP : va_P D kCl (kWX5_resize cB cI cL cBB cII cSh h_this a_this r_this_slot this_taped this_code this_kind this_rate this_filled this_total this_bitAt this_k this_e1 this_du this_dv f_this_length m_this_slot) H := hP
    have hD : va_D A (kWX5_resize cB cI cL cBB cII cSh h_this a_this r_this_slot this_taped this_code this_kind this_rate this_filled this_total this_bitAt this_k this_e1 this_du this_dv f_this_length m_this_slot) := hD
    refine lv_if_eq (tgt := 26) hx hb kdX5_resize_19 (by decide) (fun c_22 => ?_) (fun c_22 => ?_)
    · have h := kb_b_t c_22 h
      exact kjX5_resize_26 C0 hlocks hr hK hN hA h_this a_this r_this_slot p1 p2 this_taped this_code this_kind this_rate this_filled this_total this_bitAt this_k this_e1 this_du this_dv f_this_length m_this_slot _ h _ _ _ hP hD hS (lv_sub hl [0, 1, 2] rfl)
    · have h := kb_b_f c_22 h
      refine lv_iconst (v := 1) hx hb kdX5_resize_22 (by decide) ?_
      refine lv_goto (tgt := 27) hx hb kdX5_resize_23 (by decide) ?_
      exact kjX5_resize_27 C0 hlocks hr hK hN hA h_this a_this r_this_slot p1 p2 this_taped this_code this_kind this_rate this_filled this_total this_bitAt this_k this_e1 this_du this_dv f_this_length m_this_slot (1 : Int32) _ h _ _ _ hP hD hS (lv_sub hl [0, 1, 2] rfl)

-- 415.ModuleKemModel.alter.lean.txt
abbrev kWX5_alter (cB cI cL cBB cII cSh : ClassId) (h_this : Nat) (a_this : Nat → Nat) (r_this_slot : Nat → Nat) (this_taped : Int32) (this_code : Int32) (this_kind : Int32) (this_rate : Int32) (this_filled : Int32) (this_total : Int64) (this_bitAt : Int32) (this_k : Int32) (this_e1 : Int32) (this_du : Int32) (this_dv : Int32) (f_this_length : Nat → Int32) (m_this_slot : Nat → Nat → Int32) : va_W := ([(h_this, koX5 a_this this_taped this_code this_kind this_rate this_filled this_total this_bitAt this_k this_e1 this_du this_dv), ((a_this 1), .inl (cBB, 8, .inr (.inr (.inr (.inr (kb_rf r_this_slot 8)))))), ((a_this 2), .inl (cI, 8, .inl f_this_length))] ++ (kb_gw r_this_slot 8 (fun i => .inl (cB, 8192, .inl (m_this_slot i))) ++ []))
def krX5_alter : Room := { frames := 1, cells := 0, slots := 0, locals := 22 }
set_option maxHeartbeats 4000000 in
set_option maxRecDepth 100000 in
theorem kjX5_alter_27 {p : Program} {l : Launch} {e : Env} {s : State} {m : MethodId} {args : Array Value} {below : List Frame} {meth : Method} {c : Code} {D : va_G} {cB cI cL cBB cII cSh : ClassId} {A : Nat → Prop} (C0 : CallFix p m c prog_8_method_10_code 4 s args kwA kRX5) (hlocks : meth.locks = false) (hr : meth.sig.returnType = (some .int)) (hK : va_K D kCl (kb_T cB cI cL cBB cII cSh) s) (hN : kb_N s) (hA : ∀ q, s.heap.size ≤ q → A q) (h_this : Nat) (a_this r_this_slot : Nat → Nat) (x1j27 : Int32) (x2j27 : Int32) (x3j27 : Int32) (this_taped : Int32) (this_codej27 : Int32) (this_kind : Int32) (this_rate : Int32) (this_filled : Int32) (this_total : Int64) (this_bitAt : Int32) (this_k : Int32) (this_e1 : Int32) (this_du : Int32) (this_dv : Int32) (f_this_length : Nat → Int32) (m_this_slotj27 : Nat → Nat → Int32) (y0j27 : Int32) (out : Int32 × Int32 × (Nat → Nat → Int32)) (h : kJX5_alter_27 x1j27 x2j27 x3j27 f_this_length m_this_slotj27 y0j27 = some out) (H : Heap) (locs : List Loc) (ls : Array Slot) (hP : va_P D kCl (kWX5_alter cB cI cL cBB cII cSh h_this a_this r_this_slot this_taped this_codej27 this_kind this_rate this_filled this_total this_bitAt this_k this_e1 this_du this_dv f_this_length m_this_slotj27) H) (hD : va_D A (kWX5_alter cB cI cL cBB cII cSh h_this a_this r_this_slot this_taped this_codej27 this_kind this_rate this_filled this_total this_bitAt this_k this_e1 this_du this_dv f_this_length m_this_slotj27)) (hS : va_S A s.heap H locs) (hl : lv_has ls 4 [(0, .ref h_this), (1, .int x1j27), (2, .int x2j27), (3, .int x3j27)]) : W p l e krX5_alter s m args below meth c H locs 0 0 (MQ below (kb_Q D kCl (kb_T cB cI cL cBB cII cSh) A (some (.int out.1)) (kWX5_alter cB cI cL cBB cII cSh h_this a_this r_this_slot this_taped out.2.1 this_kind this_rate this_filled this_total this_bitAt this_k this_e1 this_du this_dv f_this_length out.2.2)) args s 0 0 A) (F0 m 27 ls [.int y0j27, .ref h_this]) := by
  obtain ⟨hx, hb, hml, hown, hts⟩ := id C0
  unfold kJX5_alter_27 at h
  refine lv_iconst (v := 1) hx hb kdX5_alter_27 (by decide) ?_
  obtain ⟨u_6, hu_6, h⟩ := kb_o_s h
  obtain ⟨r_4, w_5⟩ := u_6
  have hC := (show ([0] : List Nat).map (fun i : Nat => (kWX5_alter cB cI cL cBB cII cSh h_this a_this r_this_slot this_taped this_codej27 this_kind this_rate this_filled this_total this_bitAt this_k this_e1 this_du this_dv f_this_length m_this_slotj27)[i]?) = List.map some (kWX5_good cB cI cL cBB cII cSh h_this a_this this_taped this_codej27 this_kind this_rate this_filled this_total this_bitAt this_k this_e1 this_du this_dv) from rfl)
  have hPc := kb_Psub hP ([0] : List Nat) hC
  have hDc := kb_Dsub hD ([0] : List Nat) hC (by simp [kb_nd])
  refine kb_call0 (va_runV (As := [.int y0j27, .int (1 : Int32)]) (rest := []) C0 (kcX5_good l D cB cI cL cBB cII cSh h_this a_this _ y0j27 (1 : Int32) this_taped this_codej27 this_kind this_rate this_filled this_total this_bitAt this_k this_e1 this_du this_dv (r_4, w_5) hu_6) (cwV 2 hts (kb_gV km_795 km_797 kp_0 km_6 km_798) rfl rfl rfl (by decide +kernel) ⟨Nat.le_of_ble_eq_true rfl, Nat.le_of_ble_eq_true rfl⟩) ⟨kb_P_bl, va_recv hK hP (ci := 5) (q0 := 0) rfl rfl, (fun U hU hW => ⟨rfl, by rw [hU], by rw [hU]; exact hPc, va_K.moved hW.alike hK, kb_N_to hW hN, hDc.weaken (fun _ _ _ _ => trivial)⟩)⟩ rfl rfl hl.1 rfl (lv_room (Nat.le_of_ble_eq_true rfl)) kdX5_alter_28 ⟨Nat.le_of_ble_eq_true rfl, Nat.le_of_ble_eq_true rfl⟩) hP hD hS hA ([0] : List Nat) hC rfl (fun H locs hP hD hS => ?_)
  have hP : va_P D kCl (kWX5_alter cB cI cL cBB cII cSh h_this a_this r_this_slot this_taped w_5 this_kind this_rate this_filled this_total this_bitAt this_k this_e1 this_du this_dv f_this_length m_this_slotj27) H := hP
  have hD : va_D A (kWX5_alter cB cI cL cBB cII cSh h_this a_this r_this_slot this_taped w_5 this_kind this_rate this_filled this_total this_bitAt this_k this_e1 this_du this_dv f_this_length m_this_slotj27) := hD
  refine lv_if_eq (tgt := 55) hx hb kdX5_alter_31 (by decide) (fun c_7 => ?_) (fun c_7 => ?_)
  · have h := kb_b_t c_7 h
    refine lv_iconst (v := 0) hx hb kdX5_alter_55 (by decide) ?_
    obtain rfl := Option.some.inj h
    exact W.iret (v := (0 : Int32)) hx hb hr (fun t ht hW => ⟨⟨rfl, by rw [ht]; exact hP, va_K.moved hW.alike hK, hD⟩, hS.F ht⟩) hS.2.2 kdX5_alter_56
  · have h := kb_b_f c_7 h
    refine lv_aload_n hx hb kdX5_alter_34 rfl (lv_at hl 0 rfl) ?_
    refine lv_iload_n hx hb kdX5_alter_35 rfl (lv_at hl 2 rfl) ?_
    refine lv_iconst (v := 0) hx hb kdX5_alter_36 (by decide) ?_
    refine lv_aload_n hx hb kdX5_alter_37 rfl (lv_at hl 0 rfl) ?_
    refine va_get (ci := 5) (v := .ref (a_this 2)) (C := kRX5) (T := kTX5) (N := 35) hx hb hts kinX5 hown hK hP 0 rfl rfl 2 (by decide) (hts _ km_683) (fun _ h9 => h9) rfl kdX5_alter_38 ?_
    refine lv_iload_n hx hb kdX5_alter_41 rfl (lv_at hl 1 rfl) ?_
    obtain ⟨g_8, h⟩ := kb_g_s h
    refine va_iald hx hb hK hP 2 1 rfl rfl (kb_in_v g_8) kdX5_alter_42 ?_
    refine lv_iconst (v := 1) hx hb kdX5_alter_43 (by decide) ?_
    refine lv_isub hx hb kdX5_alter_44 ?_
    obtain ⟨u_10, hu_10, h⟩ := kb_o_s h
    obtain ⟨r_9, rfl⟩ : ∃ z, z = u_10 := ⟨_, rfl⟩
    have hC := (show ([] : List Nat).map (fun i : Nat => (kWX5_alter cB cI cL cBB cII cSh h_this a_this r_this_slot this_taped w_5 this_kind this_rate this_filled this_total this_bitAt this_k this_e1 this_du this_dv f_this_length m_this_slotj27)[i]?) = List.map some (kWX5_in cB cI cL cBB cII cSh) from rfl)
    have hPc := kb_Psub hP ([] : List Nat) hC
    have hDc := kb_Dsub hD ([] : List Nat) hC (by simp [kb_nd])
    refine kb_call0 (va_runS (As := [.int x2j27, .int (0 : Int32), .int ((f_this_length x1j27.toNatClampNeg) - (1 : Int32))]) (rest := [.ref h_this]) C0 (kcX5_in l D cB cI cL cBB cII cSh  _ x2j27 (0 : Int32) ((f_this_length x1j27.toNatClampNeg) - (1 : Int32)) r_9 hu_10) (va_cwS 3 hts (kb_gS km_807 km_808 km_6 km_809) rfl rfl rfl (by decide +kernel) ⟨Nat.le_of_ble_eq_true rfl, Nat.le_of_ble_eq_true rfl⟩) ⟨kb_P_bl, (fun U hU hW => ⟨rfl, by rw [hU], by rw [hU]; exact hPc, va_K.moved hW.alike hK, kb_N_to hW hN, hDc.weaken (fun _ _ _ _ => trivial)⟩)⟩ rfl rfl hl.1 rfl (lv_room (Nat.le_of_ble_eq_true rfl)) kdX5_alter_45 ⟨Nat.le_of_ble_eq_true rfl, Nat.le_of_ble_eq_true rfl⟩) hP hD hS hA ([] : List Nat) hC rfl (fun H locs hP hD hS => ?_)
    have hP : va_P D kCl (kWX5_alter cB cI cL cBB cII cSh h_this a_this r_this_slot this_taped w_5 this_kind this_rate this_filled this_total this_bitAt this_k this_e1 this_du this_dv f_this_length m_this_slotj27) H := hP
    have hD : va_D A (kWX5_alter cB cI cL cBB cII cSh h_this a_this r_this_slot this_taped w_5 this_kind this_rate this_filled this_total this_bitAt this_k this_e1 this_du this_dv f_this_length m_this_slotj27) := hD
    refine lv_iconst (v := 2) hx hb kdX5_alter_48 (by decide) ?_
    obtain ⟨u_13, hu_13, h⟩ := kb_o_s h
    obtain ⟨r_11, w_12⟩ := u_13
    have hC := (show ([0] : List Nat).map (fun i : Nat => (kWX5_alter cB cI cL cBB cII cSh h_this a_this r_this_slot this_taped w_5 this_kind this_rate this_filled this_total this_bitAt this_k this_e1 this_du this_dv f_this_length m_this_slotj27)[i]?) = List.map some (kWX5_good cB cI cL cBB cII cSh h_this a_this this_taped w_5 this_kind this_rate this_filled this_total this_bitAt this_k this_e1 this_du this_dv) from rfl)
    have hPc := kb_Psub hP ([0] : List Nat) hC
    have hDc := kb_Dsub hD ([0] : List Nat) hC (by simp [kb_nd])
    refine kb_call0 (va_runV (As := [.int r_9, .int (2 : Int32)]) (rest := []) C0 (kcX5_good l D cB cI cL cBB cII cSh h_this a_this _ r_9 (2 : Int32) this_taped w_5 this_kind this_rate this_filled this_total this_bitAt this_k this_e1 this_du this_dv (r_11, w_12) hu_13) (cwV 2 hts (kb_gV km_795 km_797 kp_0 km_6 km_798) rfl rfl rfl (by decide +kernel) ⟨Nat.le_of_ble_eq_true rfl, Nat.le_of_ble_eq_true rfl⟩) ⟨kb_P_bl, va_recv hK hP (ci := 5) (q0 := 0) rfl rfl, (fun U hU hW => ⟨rfl, by rw [hU], by rw [hU]; exact hPc, va_K.moved hW.alike hK, kb_N_to hW hN, hDc.weaken (fun _ _ _ _ => trivial)⟩)⟩ rfl rfl hl.1 rfl (lv_room (Nat.le_of_ble_eq_true rfl)) kdX5_alter_49 ⟨Nat.le_of_ble_eq_true rfl, Nat.le_of_ble_eq_true rfl⟩) hP hD hS hA ([0] : List Nat) hC rfl (fun H locs hP hD hS => ?_)
    have hP : va_P D kCl (kWX5_alter cB cI cL cBB cII cSh h_this a_this r_this_slot this_taped w_12 this_kind this_rate this_filled this_total this_bitAt this_k this_e1 this_du this_dv f_this_length m_this_slotj27) H := hP
    have hD : va_D A (kWX5_alter cB cI cL cBB cII cSh h_this a_this r_this_slot this_taped w_12 this_kind this_rate this_filled this_total this_bitAt this_k this_e1 this_du this_dv f_this_length m_this_slotj27) := hD
    refine lv_if_ne (tgt := 57) hx hb kdX5_alter_52 (by decide) (fun c_14 => ?_) (fun c_14 => ?_)
    · have h := kb_b_f c_14 h
      refine lv_aload_n hx hb kdX5_alter_57 rfl (lv_at hl 0 rfl) ?_
      refine va_get (ci := 5) (v := .ref (a_this 1)) (C := kRX5) (T := kTX5) (N := 35) hx hb hts kinX5 hown hK hP 0 rfl rfl 1 (by decide) (hts _ km_682) (fun _ h9 => h9) rfl kdX5_alter_58 ?_
      refine lv_iload_n hx hb kdX5_alter_61 rfl (lv_at hl 1 rfl) ?_
      obtain ⟨g_15, h⟩ := kb_g_s h
      refine kb_aald (j := x1j27.toNatClampNeg) hx hb hK hP 1 3 rfl rfl rfl rfl (kb_in_v g_15) kdX5_alter_62 ?_
      refine lv_iload_n hx hb kdX5_alter_63 rfl (lv_at hl 2 rfl) ?_
      refine lv_dup2_11 hx hb kdX5_alter_64 rfl rfl ?_
      obtain ⟨g_16, h⟩ := kb_g_s h
      refine va_bald hx hb hK hP (3 + x1j27.toNatClampNeg) 0 (kb_pl_r rfl (kb_pl_l (kb_gw_at (kb_in_lt g_15)))) rfl (kb_in_v g_16) kdX5_alter_65 ?_
      refine lv_iload_n hx hb kdX5_alter_66 rfl (lv_at hl 3 rfl) ?_
      refine lv_i2b (v := (x3j27.toInt8.toInt32)) hx hb kdX5_alter_67 rfl ?_
      refine lv_ixor hx hb kdX5_alter_68 ?_
      refine lv_i2b (v := ((((m_this_slotj27 x1j27.toNatClampNeg) x2j27.toNatClampNeg) ^^^ (x3j27.toInt8.toInt32)).toInt8.toInt32)) hx hb kdX5_alter_69 rfl ?_
      obtain ⟨g_17, h⟩ := kb_g_s h
      refine va_bast hx hb hK hP hD hS (3 + x1j27.toNatClampNeg) 0 (kb_pl_r rfl (kb_pl_l (kb_gw_at (kb_in_lt g_15)))) rfl (kb_in_v g_17) kdX5_alter_70 (fun H locs hP hD hS => ?_)
      unfold kWX5_alter at hP; rw [kb_set_r (n := 3) (by rfl), kb_set_l (by rw [kb_gw_len]; exact (kb_in_lt g_15)), kb_gw_st (kb_in_lt g_15), kb_up_c (fun z => .inl (cB, 8192, .inl z))] at hP
      unfold kWX5_alter at hD; rw [kb_set_r (n := 3) (by rfl), kb_set_l (by rw [kb_gw_len]; exact (kb_in_lt g_15)), kb_gw_st (kb_in_lt g_15), kb_up_c (fun z => .inl (cB, 8192, .inl z))] at hD
      obtain ⟨m_18, em_18⟩ : ∃ y, y = va_up m_this_slotj27 x1j27.toNatClampNeg (upd (m_this_slotj27 x1j27.toNatClampNeg) x2j27.toNatClampNeg (vp_nar .byte ((((m_this_slotj27 x1j27.toNatClampNeg) x2j27.toNatClampNeg) ^^^ (x3j27.toInt8.toInt32)).toInt8.toInt32))) := ⟨_, rfl⟩
      have h := kb_n_s em_18 h
      have hP : va_P D kCl (kWX5_alter cB cI cL cBB cII cSh h_this a_this r_this_slot this_taped w_12 this_kind this_rate this_filled this_total this_bitAt this_k this_e1 this_du this_dv f_this_length m_18) H := by rw [em_18]; exact hP
      have hD : va_D A (kWX5_alter cB cI cL cBB cII cSh h_this a_this r_this_slot this_taped w_12 this_kind this_rate this_filled this_total this_bitAt this_k this_e1 this_du this_dv f_this_length m_18) := by rw [em_18]; exact hD
      refine lv_aload_n hx hb kdX5_alter_71 rfl (lv_at hl 0 rfl) ?_
      refine va_get (ci := 5) (v := .ref (a_this 1)) (C := kRX5) (T := kTX5) (N := 35) hx hb hts kinX5 hown hK hP 0 rfl rfl 1 (by decide) (hts _ km_682) (fun _ h9 => h9) rfl kdX5_alter_72 ?_
      refine lv_iload_n hx hb kdX5_alter_75 rfl (lv_at hl 1 rfl) ?_
      obtain ⟨g_19, h⟩ := kb_g_s h
      refine kb_aald (j := x1j27.toNatClampNeg) hx hb hK hP 1 3 rfl rfl rfl rfl (kb_in_v g_19) kdX5_alter_76 ?_
      refine lv_iload_n hx hb kdX5_alter_77 rfl (lv_at hl 2 rfl) ?_
      obtain ⟨g_20, h⟩ := kb_g_s h
      refine va_bald hx hb hK hP (3 + x1j27.toNatClampNeg) 0 (kb_pl_r rfl (kb_pl_l (kb_gw_at (kb_in_lt g_19)))) rfl (kb_in_v g_20) kdX5_alter_78 ?_
      refine lv_sipush (v := 255) hx hb kdX5_alter_79 (by decide) ?_
      refine lv_iand hx hb kdX5_alter_82 ?_
      obtain rfl := Option.some.inj h
      exact W.iret (v := (((m_18 x1j27.toNatClampNeg) x2j27.toNatClampNeg) &&& (255 : Int32))) hx hb hr (fun t ht hW => ⟨⟨rfl, by rw [ht]; exact hP, va_K.moved hW.alike hK, hD⟩, hS.F ht⟩) hS.2.2 kdX5_alter_83
    · have h := kb_b_t c_14 h
      refine lv_iconst (v := 0) hx hb kdX5_alter_55 (by decide) ?_
      obtain rfl := Option.some.inj h
      exact W.iret (v := (0 : Int32)) hx hb hr (fun t ht hW => ⟨⟨rfl, by rw [ht]; exact hP, va_K.moved hW.alike hK, hD⟩, hS.F ht⟩) hS.2.2 kdX5_alter_56
set_option maxHeartbeats 4000000 in
set_option maxRecDepth 100000 in
theorem kjX5_alter_26 {p : Program} {l : Launch} {e : Env} {s : State} {m : MethodId} {args : Array Value} {below : List Frame} {meth : Method} {c : Code} {D : va_G} {cB cI cL cBB cII cSh : ClassId} {A : Nat → Prop} (C0 : CallFix p m c prog_8_method_10_code 4 s args kwA kRX5) (hlocks : meth.locks = false) (hr : meth.sig.returnType = (some .int)) (hK : va_K D kCl (kb_T cB cI cL cBB cII cSh) s) (hN : kb_N s) (hA : ∀ q, s.heap.size ≤ q → A q) (h_this : Nat) (a_this r_this_slot : Nat → Nat) (x1j26 : Int32) (x2j26 : Int32) (x3j26 : Int32) (this_taped : Int32) (this_codej26 : Int32) (this_kind : Int32) (this_rate : Int32) (this_filled : Int32) (this_total : Int64) (this_bitAt : Int32) (this_k : Int32) (this_e1 : Int32) (this_du : Int32) (this_dv : Int32) (f_this_length : Nat → Int32) (m_this_slotj26 : Nat → Nat → Int32) (out : Int32 × Int32 × (Nat → Nat → Int32)) (h : kJX5_alter_26 x1j26 x2j26 x3j26 f_this_length m_this_slotj26 = some out) (H : Heap) (locs : List Loc) (ls : Array Slot) (hP : va_P D kCl (kWX5_alter cB cI cL cBB cII cSh h_this a_this r_this_slot this_taped this_codej26 this_kind this_rate this_filled this_total this_bitAt this_k this_e1 this_du this_dv f_this_length m_this_slotj26) H) (hD : va_D A (kWX5_alter cB cI cL cBB cII cSh h_this a_this r_this_slot this_taped this_codej26 this_kind this_rate this_filled this_total this_bitAt this_k this_e1 this_du this_dv f_this_length m_this_slotj26)) (hS : va_S A s.heap H locs) (hl : lv_has ls 4 [(0, .ref h_this), (1, .int x1j26), (2, .int x2j26), (3, .int x3j26)]) : W p l e krX5_alter s m args below meth c H locs 0 0 (MQ below (kb_Q D kCl (kb_T cB cI cL cBB cII cSh) A (some (.int out.1)) (kWX5_alter cB cI cL cBB cII cSh h_this a_this r_this_slot this_taped out.2.1 this_kind this_rate this_filled this_total this_bitAt this_k this_e1 this_du this_dv f_this_length out.2.2)) args s 0 0 A) (F0 m 26 ls [.ref h_this]) := by
  obtain ⟨hx, hb, hml, hown, hts⟩ := id C0
  unfold kJX5_alter_26 at h
  refine lv_iconst (v := 0) hx hb kdX5_alter_26 (by decide) ?_
  exact kjX5_alter_27 C0 hlocks hr hK hN hA h_this a_this r_this_slot x1j26 x2j26 x3j26 this_taped this_codej26 this_kind this_rate this_filled this_total this_bitAt this_k this_e1 this_du this_dv f_this_length m_this_slotj26 (0 : Int32) _ h _ _ _ hP hD hS (lv_sub hl [0, 1, 2, 3] rfl)
set_option maxHeartbeats 4000000 in
set_option maxRecDepth 100000 in
theorem kcX5_alter (l : Launch) (D : va_G) (cB cI cL cBB cII cSh : ClassId) (h_this : Nat) (a_this r_this_slot : Nat → Nat) (sz : Nat) (p1 : Int32) (p2 : Int32) (p3 : Int32) (this_taped : Int32) (this_code : Int32) (this_kind : Int32) (this_rate : Int32) (this_filled : Int32) (this_total : Int64) (this_bitAt : Int32) (this_k : Int32) (this_e1 : Int32) (this_du : Int32) (this_dv : Int32) (f_this_length : Nat → Int32) (m_this_slot : Nat → Nat → Int32) (out : Int32 × Int32 × (Nat → Nat → Int32)) (h : kFX5_alter p1 p2 p3 f_this_length m_this_slot = some out) : Met l kyX5_alter kwX5_alter krX5_alter (kb_P D kCl (kb_T cB cI cL cBB cII cSh) [.ref h_this, .int p1, .int p2, .int p3] (kWX5_alter cB cI cL cBB cII cSh h_this a_this r_this_slot this_taped this_code this_kind this_rate this_filled this_total this_bitAt this_k this_e1 this_du this_dv f_this_length m_this_slot) sz) (kb_Q D kCl (kb_T cB cI cL cBB cII cSh) (va_A (kWX5_alter cB cI cL cBB cII cSh h_this a_this r_this_slot this_taped this_code this_kind this_rate this_filled this_total this_bitAt this_k this_e1 this_du this_dv f_this_length m_this_slot) sz) (some (.int out.1)) (kWX5_alter cB cI cL cBB cII cSh h_this a_this r_this_slot this_taped out.2.1 this_kind this_rate this_filled this_total this_bitAt this_k this_e1 this_du this_dv f_this_length out.2.2)) 0 0 (va_A (kWX5_alter cB cI cL cBB cII cSh h_this a_this r_this_slot this_taped this_code this_kind this_rate this_filled this_total this_bitAt this_k this_e1 this_du this_dv f_this_length m_this_slot) sz) := by
  refine Met.ofW (cc := prog_8_method_10_code) (maxL := 4) (ret := (some .int)) (by decide) rfl ?_
  intro p e s m args below meth c s₁ B hml hv
  obtain ⟨rfl, hsz, hP, hK, hN, hD0⟩ := hv
  have hx := B.exec
  have hb := B.bytes
  have hr := B.returns
  have hts0 := atoms_spec (ws := kwX5_alter) B.pre
  have hts : ∀ w ∈ kwA, w.before _ s = true := fun w h => hts0 w (List.mem_cons_of_mem _ h)
  have hown : s.vm.findClass kRX5 = some m.cls := findClass_of_methodNamed B.named
  have hlocks := B.notSynchronized
  subst hsz
  have hD := hD0.self (sz := s.heap.size)
  generalize hAe : va_A (kWX5_alter cB cI cL cBB cII cSh h_this a_this r_this_slot this_taped this_code this_kind this_rate this_filled this_total this_bitAt this_k this_e1 this_du this_dv f_this_length m_this_slot) s.heap.size = A at hD ⊢
  have hA : ∀ q : Nat, s.heap.size ≤ q → A q := fun q h => by rw [← hAe]; exact Or.inr h
  have hS : va_S A s.heap s.heap [] := va_S.rf
  have C0 : CallFix p m c prog_8_method_10_code 4 s _ kwA kRX5 := ⟨hx, hb, hml, hown, hts⟩
  have hl := lv_entry ([.ref h_this, .int p1, .int p2, .int p3]) (n := 4) (Nat.le_of_ble_eq_true rfl)
  rw [lg_entry_eq]
  generalize (lg_sl ([.ref h_this, .int p1, .int p2, .int p3]) ++ List.replicate (4 - (lg_sl ([.ref h_this, .int p1, .int p2, .int p3])).length) Slot.unset).toArray = ls at hl ⊢
  have hl : lv_has ls 4 [(0, .ref h_this), (1, .int p1), (2, .int p2), (3, .int p3)] := hl
  unfold kFX5_alter at h
  refine lv_aload_n hx hb kdX5_alter_0 rfl (lv_at hl 0 rfl) ?_
  refine lv_iload_n hx hb kdX5_alter_1 rfl (lv_at hl 1 rfl) ?_
  refine lv_iconst (v := 0) hx hb kdX5_alter_2 (by decide) ?_
  refine lv_bipush (v := 7) hx hb kdX5_alter_3 (by decide) ?_
  obtain ⟨u_2, hu_2, h⟩ := kb_o_s h
  obtain ⟨r_1, rfl⟩ : ∃ z, z = u_2 := ⟨_, rfl⟩
  have hC := (show ([] : List Nat).map (fun i : Nat => (kWX5_alter cB cI cL cBB cII cSh h_this a_this r_this_slot this_taped this_code this_kind this_rate this_filled this_total this_bitAt this_k this_e1 this_du this_dv f_this_length m_this_slot)[i]?) = List.map some (kWX5_in cB cI cL cBB cII cSh) from rfl)
  have hPc := kb_Psub hP ([] : List Nat) hC
  have hDc := kb_Dsub hD ([] : List Nat) hC (by simp [kb_nd])
  refine kb_call0 (va_runS (As := [.int p1, .int (0 : Int32), .int (7 : Int32)]) (rest := [.ref h_this]) C0 (kcX5_in l D cB cI cL cBB cII cSh  _ p1 (0 : Int32) (7 : Int32) r_1 hu_2) (va_cwS 3 hts (kb_gS km_807 km_808 km_6 km_809) rfl rfl rfl (by decide +kernel) ⟨Nat.le_of_ble_eq_true rfl, Nat.le_of_ble_eq_true rfl⟩) ⟨kb_P_bl, (fun U hU hW => ⟨rfl, by rw [hU], by rw [hU]; exact hPc, va_K.moved hW.alike hK, kb_N_to hW hN, hDc.weaken (fun _ _ _ _ => trivial)⟩)⟩ rfl rfl hl.1 rfl (lv_room (Nat.le_of_ble_eq_true rfl)) kdX5_alter_5 ⟨Nat.le_of_ble_eq_true rfl, Nat.le_of_ble_eq_true rfl⟩) hP hD hS hA ([] : List Nat) hC rfl (fun H locs hP hD hS => ?_)
  have hP : va_P D kCl (kWX5_alter cB cI cL cBB cII cSh h_this a_this r_this_slot this_taped this_code this_kind this_rate this_filled this_total this_bitAt this_k this_e1 this_du this_dv f_this_length m_this_slot) H := hP
  have hD : va_D A (kWX5_alter cB cI cL cBB cII cSh h_this a_this r_this_slot this_taped this_code this_kind this_rate this_filled this_total this_bitAt this_k this_e1 this_du this_dv f_this_length m_this_slot) := hD
  refine lv_if_eq (tgt := 26) hx hb kdX5_alter_8 (by decide) (fun c_3 => ?_) (fun c_3 => ?_)
  · have h := kb_b_t c_3 h
    exact kjX5_alter_26 C0 hlocks hr hK hN hA h_this a_this r_this_slot p1 p2 p3 this_taped this_code this_kind this_rate this_filled this_total this_bitAt this_k this_e1 this_du this_dv f_this_length m_this_slot _ h _ _ _ hP hD hS (lv_sub hl [0, 1, 2, 3] rfl)
  · have h := kb_b_f c_3 h
    refine lv_iload_n hx hb kdX5_alter_11 rfl (lv_at hl 3 rfl) ?_
    refine lv_iconst (v := 0) hx hb kdX5_alter_12 (by decide) ?_
    refine lv_sipush (v := 255) hx hb kdX5_alter_13 (by decide) ?_
    obtain ⟨u_22, hu_22, h⟩ := kb_o_s h
    obtain ⟨r_21, rfl⟩ : ∃ z, z = u_22 := ⟨_, rfl⟩
    have hC := (show ([] : List Nat).map (fun i : Nat => (kWX5_alter cB cI cL cBB cII cSh h_this a_this r_this_slot this_taped this_code this_kind this_rate this_filled this_total this_bitAt this_k this_e1 this_du this_dv f_this_length m_this_slot)[i]?) = List.map some (kWX5_in cB cI cL cBB cII cSh) from rfl)
    have hPc := kb_Psub hP ([] : List Nat) hC
    have hDc := kb_Dsub hD ([] : List Nat) hC (by simp [kb_nd])
    refine kb_call0 (va_runS (As := [.int p3, .int (0 : Int32), .int (255 : Int32)]) (rest := [.ref h_this]) C0 (kcX5_in l D cB cI cL cBB cII cSh  _ p3 (0 : Int32) (255 : Int32) r_21 hu_22) (va_cwS 3 hts (kb_gS km_807 km_808 km_6 km_809) rfl rfl rfl (by decide +kernel) ⟨Nat.le_of_ble_eq_true rfl, Nat.le_of_ble_eq_true rfl⟩) ⟨kb_P_bl, (fun U hU hW => ⟨rfl, by rw [hU], by rw [hU]; exact hPc, va_K.moved hW.alike hK, kb_N_to hW hN, hDc.weaken (fun _ _ _ _ => trivial)⟩)⟩ rfl rfl hl.1 rfl (lv_room (Nat.le_of_ble_eq_true rfl)) kdX5_alter_16 ⟨Nat.le_of_ble_eq_true rfl, Nat.le_of_ble_eq_true rfl⟩) hP hD hS hA ([] : List Nat) hC rfl (fun H locs hP hD hS => ?_)
    have hP : va_P D kCl (kWX5_alter cB cI cL cBB cII cSh h_this a_this r_this_slot this_taped this_code this_kind this_rate this_filled this_total this_bitAt this_k this_e1 this_du this_dv f_this_length m_this_slot) H := hP
    have hD : va_D A (kWX5_alter cB cI cL cBB cII cSh h_this a_this r_this_slot this_taped this_code this_kind this_rate this_filled this_total this_bitAt this_k this_e1 this_du this_dv f_this_length m_this_slot) := hD
    refine lv_if_eq (tgt := 26) hx hb kdX5_alter_19 (by decide) (fun c_23 => ?_) (fun c_23 => ?_)
    · have h := kb_b_t c_23 h
      exact kjX5_alter_26 C0 hlocks hr hK hN hA h_this a_this r_this_slot p1 p2 p3 this_taped this_code this_kind this_rate this_filled this_total this_bitAt this_k this_e1 this_du this_dv f_this_length m_this_slot _ h _ _ _ hP hD hS (lv_sub hl [0, 1, 2, 3] rfl)
    · have h := kb_b_f c_23 h
      refine lv_iconst (v := 1) hx hb kdX5_alter_22 (by decide) ?_
      refine lv_goto (tgt := 27) hx hb kdX5_alter_23 (by decide) ?_
      exact kjX5_alter_27 C0 hlocks hr hK hN hA h_this a_this r_this_slot p1 p2 p3 this_taped this_code this_kind this_rate this_filled this_total this_bitAt this_k this_e1 this_du this_dv f_this_length m_this_slot (1 : Int32) _ h _ _ _ hP hD hS (lv_sub hl [0, 1, 2, 3] rfl)

-- 416.ModuleKemModel.length.lean.txt
abbrev kWX5_length (cB cI cL cBB cII cSh : ClassId) (h_this : Nat) (a_this : Nat → Nat) (this_taped : Int32) (this_code : Int32) (this_kind : Int32) (this_rate : Int32) (this_filled : Int32) (this_total : Int64) (this_bitAt : Int32) (this_k : Int32) (this_e1 : Int32) (this_du : Int32) (this_dv : Int32) (f_this_length : Nat → Int32) : va_W := [(h_this, koX5 a_this this_taped this_code this_kind this_rate this_filled this_total this_bitAt this_k this_e1 this_du this_dv), ((a_this 2), .inl (cI, 8, .inl f_this_length))]
def krX5_length : Room := { frames := 1, cells := 0, slots := 0, locals := 22 }
set_option maxHeartbeats 4000000 in
set_option maxRecDepth 100000 in
theorem kcX5_length (l : Launch) (D : va_G) (cB cI cL cBB cII cSh : ClassId) (h_this : Nat) (a_this : Nat → Nat) (sz : Nat) (p1 : Int32) (this_taped : Int32) (this_code : Int32) (this_kind : Int32) (this_rate : Int32) (this_filled : Int32) (this_total : Int64) (this_bitAt : Int32) (this_k : Int32) (this_e1 : Int32) (this_du : Int32) (this_dv : Int32) (f_this_length : Nat → Int32) (out : Int32 × Int32) (h : kFX5_length p1 f_this_length = some out) : Met l kyX5_length kwX5_length krX5_length (kb_P D kCl (kb_T cB cI cL cBB cII cSh) [.ref h_this, .int p1] (kWX5_length cB cI cL cBB cII cSh h_this a_this this_taped this_code this_kind this_rate this_filled this_total this_bitAt this_k this_e1 this_du this_dv f_this_length) sz) (kb_Q D kCl (kb_T cB cI cL cBB cII cSh) (va_A (kWX5_length cB cI cL cBB cII cSh h_this a_this this_taped this_code this_kind this_rate this_filled this_total this_bitAt this_k this_e1 this_du this_dv f_this_length) sz) (some (.int out.1)) (kWX5_length cB cI cL cBB cII cSh h_this a_this this_taped out.2 this_kind this_rate this_filled this_total this_bitAt this_k this_e1 this_du this_dv f_this_length)) 0 0 (va_A (kWX5_length cB cI cL cBB cII cSh h_this a_this this_taped this_code this_kind this_rate this_filled this_total this_bitAt this_k this_e1 this_du this_dv f_this_length) sz) := by
  refine Met.ofW (cc := prog_8_method_11_code) (maxL := 2) (ret := (some .int)) (by decide) rfl ?_
  intro p e s m args below meth c s₁ B hml hv
  obtain ⟨rfl, hsz, hP, hK, hN, hD0⟩ := hv
  have hx := B.exec
  have hb := B.bytes
  have hr := B.returns
  have hts0 := atoms_spec (ws := kwX5_length) B.pre
  have hts : ∀ w ∈ kwA, w.before _ s = true := fun w h => hts0 w (List.mem_cons_of_mem _ h)
  have hown : s.vm.findClass kRX5 = some m.cls := findClass_of_methodNamed B.named
  have hlocks := B.notSynchronized
  subst hsz
  have hD := hD0.self (sz := s.heap.size)
  generalize hAe : va_A (kWX5_length cB cI cL cBB cII cSh h_this a_this this_taped this_code this_kind this_rate this_filled this_total this_bitAt this_k this_e1 this_du this_dv f_this_length) s.heap.size = A at hD ⊢
  have hA : ∀ q : Nat, s.heap.size ≤ q → A q := fun q h => by rw [← hAe]; exact Or.inr h
  have hS : va_S A s.heap s.heap [] := va_S.rf
  have C0 : CallFix p m c prog_8_method_11_code 2 s _ kwA kRX5 := ⟨hx, hb, hml, hown, hts⟩
  have hl := lv_entry ([.ref h_this, .int p1]) (n := 2) (Nat.le_of_ble_eq_true rfl)
  rw [lg_entry_eq]
  generalize (lg_sl ([.ref h_this, .int p1]) ++ List.replicate (2 - (lg_sl ([.ref h_this, .int p1])).length) Slot.unset).toArray = ls at hl ⊢
  have hl : lv_has ls 2 [(0, .ref h_this), (1, .int p1)] := hl
  unfold kFX5_length at h
  refine lv_aload_n hx hb kdX5_length_0 rfl (lv_at hl 0 rfl) ?_
  refine lv_iload_n hx hb kdX5_length_1 rfl (lv_at hl 1 rfl) ?_
  refine lv_iconst (v := 0) hx hb kdX5_length_2 (by decide) ?_
  refine lv_bipush (v := 7) hx hb kdX5_length_3 (by decide) ?_
  obtain ⟨u_2, hu_2, h⟩ := kb_o_s h
  obtain ⟨r_1, rfl⟩ : ∃ z, z = u_2 := ⟨_, rfl⟩
  have hC := (show ([] : List Nat).map (fun i : Nat => (kWX5_length cB cI cL cBB cII cSh h_this a_this this_taped this_code this_kind this_rate this_filled this_total this_bitAt this_k this_e1 this_du this_dv f_this_length)[i]?) = List.map some (kWX5_in cB cI cL cBB cII cSh) from rfl)
  have hPc := kb_Psub hP ([] : List Nat) hC
  have hDc := kb_Dsub hD ([] : List Nat) hC (by simp [kb_nd])
  refine kb_call0 (va_runS (As := [.int p1, .int (0 : Int32), .int (7 : Int32)]) (rest := [.ref h_this]) C0 (kcX5_in l D cB cI cL cBB cII cSh  _ p1 (0 : Int32) (7 : Int32) r_1 hu_2) (va_cwS 3 hts (kb_gS km_807 km_808 km_6 km_809) rfl rfl rfl (by decide +kernel) ⟨Nat.le_of_ble_eq_true rfl, Nat.le_of_ble_eq_true rfl⟩) ⟨kb_P_bl, (fun U hU hW => ⟨rfl, by rw [hU], by rw [hU]; exact hPc, va_K.moved hW.alike hK, kb_N_to hW hN, hDc.weaken (fun _ _ _ _ => trivial)⟩)⟩ rfl rfl hl.1 rfl (lv_room (Nat.le_of_ble_eq_true rfl)) kdX5_length_5 ⟨Nat.le_of_ble_eq_true rfl, Nat.le_of_ble_eq_true rfl⟩) hP hD hS hA ([] : List Nat) hC rfl (fun H locs hP hD hS => ?_)
  have hP : va_P D kCl (kWX5_length cB cI cL cBB cII cSh h_this a_this this_taped this_code this_kind this_rate this_filled this_total this_bitAt this_k this_e1 this_du this_dv f_this_length) H := hP
  have hD : va_D A (kWX5_length cB cI cL cBB cII cSh h_this a_this this_taped this_code this_kind this_rate this_filled this_total this_bitAt this_k this_e1 this_du this_dv f_this_length) := hD
  refine lv_iconst (v := 1) hx hb kdX5_length_8 (by decide) ?_
  obtain ⟨u_5, hu_5, h⟩ := kb_o_s h
  obtain ⟨r_3, w_4⟩ := u_5
  have hC := (show ([0] : List Nat).map (fun i : Nat => (kWX5_length cB cI cL cBB cII cSh h_this a_this this_taped this_code this_kind this_rate this_filled this_total this_bitAt this_k this_e1 this_du this_dv f_this_length)[i]?) = List.map some (kWX5_good cB cI cL cBB cII cSh h_this a_this this_taped this_code this_kind this_rate this_filled this_total this_bitAt this_k this_e1 this_du this_dv) from rfl)
  have hPc := kb_Psub hP ([0] : List Nat) hC
  have hDc := kb_Dsub hD ([0] : List Nat) hC (by simp [kb_nd])
  refine kb_call0 (va_runV (As := [.int r_1, .int (1 : Int32)]) (rest := []) C0 (kcX5_good l D cB cI cL cBB cII cSh h_this a_this _ r_1 (1 : Int32) this_taped this_code this_kind this_rate this_filled this_total this_bitAt this_k this_e1 this_du this_dv (r_3, w_4) hu_5) (cwV 2 hts (kb_gV km_795 km_797 kp_0 km_6 km_798) rfl rfl rfl (by decide +kernel) ⟨Nat.le_of_ble_eq_true rfl, Nat.le_of_ble_eq_true rfl⟩) ⟨kb_P_bl, va_recv hK hP (ci := 5) (q0 := 0) rfl rfl, (fun U hU hW => ⟨rfl, by rw [hU], by rw [hU]; exact hPc, va_K.moved hW.alike hK, kb_N_to hW hN, hDc.weaken (fun _ _ _ _ => trivial)⟩)⟩ rfl rfl hl.1 rfl (lv_room (Nat.le_of_ble_eq_true rfl)) kdX5_length_9 ⟨Nat.le_of_ble_eq_true rfl, Nat.le_of_ble_eq_true rfl⟩) hP hD hS hA ([0] : List Nat) hC rfl (fun H locs hP hD hS => ?_)
  have hP : va_P D kCl (kWX5_length cB cI cL cBB cII cSh h_this a_this this_taped w_4 this_kind this_rate this_filled this_total this_bitAt this_k this_e1 this_du this_dv f_this_length) H := hP
  have hD : va_D A (kWX5_length cB cI cL cBB cII cSh h_this a_this this_taped w_4 this_kind this_rate this_filled this_total this_bitAt this_k this_e1 this_du this_dv f_this_length) := hD
  refine lv_if_ne (tgt := 17) hx hb kdX5_length_12 (by decide) (fun c_6 => ?_) (fun c_6 => ?_)
  · have h := kb_b_f c_6 h
    refine lv_aload_n hx hb kdX5_length_17 rfl (lv_at hl 0 rfl) ?_
    refine va_get (ci := 5) (v := .ref (a_this 2)) (C := kRX5) (T := kTX5) (N := 35) hx hb hts kinX5 hown hK hP 0 rfl rfl 2 (by decide) (hts _ km_683) (fun _ h9 => h9) rfl kdX5_length_18 ?_
    refine lv_iload_n hx hb kdX5_length_21 rfl (lv_at hl 1 rfl) ?_
    obtain ⟨g_7, h⟩ := kb_g_s h
    refine va_iald hx hb hK hP 1 1 rfl rfl (kb_in_v g_7) kdX5_length_22 ?_
    obtain rfl := Option.some.inj h
    exact W.iret (v := (f_this_length p1.toNatClampNeg)) hx hb hr (fun t ht hW => ⟨⟨rfl, by rw [ht]; exact hP, va_K.moved hW.alike hK, hD⟩, hS.F ht⟩) hS.2.2 kdX5_length_23
  · have h := kb_b_t c_6 h
    refine lv_iconst (v := 0) hx hb kdX5_length_15 (by decide) ?_
    obtain rfl := Option.some.inj h
    exact W.iret (v := (0 : Int32)) hx hb hr (fun t ht hW => ⟨⟨rfl, by rw [ht]; exact hP, va_K.moved hW.alike hK, hD⟩, hS.F ht⟩) hS.2.2 kdX5_length_16

-- 417.ModuleKemModel.word2.lean.txt
abbrev kWX5_word2 (cB cI cL cBB cII cSh : ClassId) (h_this : Nat) (a_this : Nat → Nat) (r_this_slot : Nat → Nat) (this_taped : Int32) (this_code : Int32) (this_kind : Int32) (this_rate : Int32) (this_filled : Int32) (this_total : Int64) (this_bitAt : Int32) (this_k : Int32) (this_e1 : Int32) (this_du : Int32) (this_dv : Int32) (f_this_length : Nat → Int32) (m_this_slot : Nat → Nat → Int32) : va_W := ([(h_this, koX5 a_this this_taped this_code this_kind this_rate this_filled this_total this_bitAt this_k this_e1 this_du this_dv), ((a_this 1), .inl (cBB, 8, .inr (.inr (.inr (.inr (kb_rf r_this_slot 8)))))), ((a_this 2), .inl (cI, 8, .inl f_this_length))] ++ (kb_gw r_this_slot 8 (fun i => .inl (cB, 8192, .inl (m_this_slot i))) ++ []))
def krX5_word2 : Room := { frames := 1, cells := 0, slots := 0, locals := 22 }
set_option maxHeartbeats 4000000 in
set_option maxRecDepth 100000 in
theorem klX5_word2_43 {p : Program} {l : Launch} {e : Env} {s : State} {m : MethodId} {args : Array Value} {below : List Frame} {meth : Method} {c : Code} {cells slots : Nat} {Q : State → Prop} {D : va_G} {cB cI cL cBB cII cSh : ClassId} {A : Nat → Prop} (C0 : CallFix p m c prog_8_method_12_code 6 s args kwA kRX5) (hlocks : meth.locks = false) (hK : va_K D kCl (kb_T cB cI cL cBB cII cSh) s) (hN : kb_N s) (hA : ∀ q, s.heap.size ≤ q → A q) (hcR : cells ≤ krX5_word2.cells) (hsR : slots ≤ krX5_word2.slots) (h_this : Nat) (a_this r_this_slot : Nat → Nat) (p1 : Int32) (p2 : Int32) (this_taped : Int32) (w_11 : Int32) (this_kind : Int32) (this_rate : Int32) (this_filled : Int32) (this_total : Int64) (this_bitAt : Int32) (this_k : Int32) (this_e1 : Int32) (this_du : Int32) (this_dv : Int32) (f_this_length : Nat → Int32) (m_this_slot : Nat → Nat → Int32) :
    ∀ (fuel : Nat) (x3p43 : Int64) (x5p43 : Int32) (r : Int64 × Int32), kb_w (fun u : Int64 × Int32 => kSX5_word2_43 p1 p2 f_this_length m_this_slot u.1 u.2) fuel (x3p43, x5p43) = some r → ∀ (H : Heap) (locs : List Loc) (ls : Array Slot), va_P D kCl (kWX5_word2 cB cI cL cBB cII cSh h_this a_this r_this_slot this_taped w_11 this_kind this_rate this_filled this_total this_bitAt this_k this_e1 this_du this_dv f_this_length m_this_slot) H → va_D A (kWX5_word2 cB cI cL cBB cII cSh h_this a_this r_this_slot this_taped w_11 this_kind this_rate this_filled this_total this_bitAt this_k this_e1 this_du this_dv f_this_length m_this_slot) → va_S A s.heap H locs → lv_has ls 6 [(0, .ref h_this), (1, .int p1), (2, .int p2), (3, .long x3p43), (5, .int x5p43)] → (∀ (x3p43' : Int64) (x5p43' : Int32), r = (x3p43', x5p43') → ∀ (H : Heap) (locs : List Loc) (ls : Array Slot), va_P D kCl (kWX5_word2 cB cI cL cBB cII cSh h_this a_this r_this_slot this_taped w_11 this_kind this_rate this_filled this_total this_bitAt this_k this_e1 this_du this_dv f_this_length m_this_slot) H → va_D A (kWX5_word2 cB cI cL cBB cII cSh h_this a_this r_this_slot this_taped w_11 this_kind this_rate this_filled this_total this_bitAt this_k this_e1 this_du this_dv f_this_length m_this_slot) → va_S A s.heap H locs → lv_has ls 6 [(0, .ref h_this), (1, .int p1), (2, .int p2), (3, .long x3p43'), (5, .int x5p43')] → W p l e krX5_word2 s m args below meth c H locs cells slots Q (F0 m 93 ls [])) → W p l e krX5_word2 s m args below meth c H locs cells slots Q (F0 m 43 ls []) := by
  obtain ⟨hx, hb, hml, hown, hts⟩ := id C0
  intro fuel
  induction fuel with
  | zero =>
    intro x3p43 x5p43 r h
    exact absurd h (kb_w_z _ _ _)
  | succ fuel ih =>
    intro x3p43 x5p43 r h H locs ls hP hD hS hl hk0
    obtain ⟨o, h, ho⟩ := kb_w_s h
    have h : kSX5_word2_43 p1 p2 f_this_length m_this_slot x3p43 x5p43 = some o := h
    unfold kSX5_word2_43 at h
    refine lv_iload hx hb kdX5_word2_43 (lv_at hl 4 rfl) ?_
    refine lv_iload_n hx hb kdX5_word2_45 rfl (lv_at hl 2 rfl) ?_
    refine lv_bipush (v := 8) hx hb kdX5_word2_46 (by decide) ?_
    refine lv_iadd hx hb kdX5_word2_48 ?_
    refine lv_icmp_ge (tgt := 93) hx hb kdX5_word2_49 (by decide) (fun c_14 => ?_) (fun c_14 => ?_)
    · have h := kb_b_t c_14 h
      obtain rfl := Option.some.inj h
      exact hk0 x3p43 x5p43 ho.symm _ _ _ hP hD hS (lv_sub hl [0, 1, 2, 3, 4] rfl)
    · have h := kb_b_f c_14 h
      refine lv_lload_n hx hb kdX5_word2_52 rfl (lv_at hl 3 rfl) ?_
      refine lv_bipush (v := 8) hx hb kdX5_word2_53 (by decide) ?_
      refine lv_lshl (v := (x3p43 <<< ((8 : Int32).toInt64 &&& 63))) hx hb kdX5_word2_55 rfl ?_
      refine lv_iload hx hb kdX5_word2_56 (lv_at hl 4 rfl) ?_
      refine lv_aload_n hx hb kdX5_word2_58 rfl (lv_at hl 0 rfl) ?_
      refine va_get (ci := 5) (v := .ref (a_this 2)) (C := kRX5) (T := kTX5) (N := 35) hx hb hts kinX5 hown hK hP 0 rfl rfl 2 (by decide) (hts _ km_683) (fun _ h9 => h9) rfl kdX5_word2_59 ?_
      refine lv_iload_n hx hb kdX5_word2_62 rfl (lv_at hl 1 rfl) ?_
      obtain ⟨g_15, h⟩ := kb_g_s h
      refine va_iald hx hb hK hP 2 1 rfl rfl (kb_in_v g_15) kdX5_word2_63 ?_
      refine lv_icmp_ge (tgt := 84) hx hb kdX5_word2_64 (by decide) (fun c_16 => ?_) (fun c_16 => ?_)
      · have h := kb_b_t c_16 h
        refine lv_lconst (v := 0) hx hb kdX5_word2_84 (by decide) ?_
        refine lv_lor hx hb kdX5_word2_85 ?_
        refine lv_topl (fun x3_17 ex3_17 => ?_)
        have h := kb_n_s ex3_17 h
        refine lv_lstore_n (lv' := [(3, .long x3_17), (0, .ref h_this), (1, .int p1), (2, .int p2), (5, .int x5p43)]) hx hb kdX5_word2_86 rfl hl (by decide) rfl (fun ls hl => ?_)
        obtain ⟨x5_18, ex5_18⟩ : ∃ y : Int32, y = x5p43 + Int32.ofInt 1 := ⟨_, rfl⟩
        have h := kb_n_s ex5_18 h
        refine lv_iinc (v := x5_18) (lv' := [(5, .int x5_18), (3, .long x3_17), (0, .ref h_this), (1, .int p1), (2, .int p2)]) hx hb kdX5_word2_87 hl (k := 4) rfl ex5_18.symm (by decide) rfl (fun ls hl => ?_)
        refine lv_goto (tgt := 43) hx hb kdX5_word2_90 (by decide) ?_
        obtain rfl := Option.some.inj h
        exact ih x3_17 x5_18 r ho _ _ _ hP hD hS (lv_sub hl [2, 3, 4, 1, 0] rfl) hk0
      · have h := kb_b_f c_16 h
        refine lv_aload_n hx hb kdX5_word2_67 rfl (lv_at hl 0 rfl) ?_
        refine va_get (ci := 5) (v := .ref (a_this 1)) (C := kRX5) (T := kTX5) (N := 35) hx hb hts kinX5 hown hK hP 0 rfl rfl 1 (by decide) (hts _ km_682) (fun _ h9 => h9) rfl kdX5_word2_68 ?_
        refine lv_iload_n hx hb kdX5_word2_71 rfl (lv_at hl 1 rfl) ?_
        obtain ⟨g_19, h⟩ := kb_g_s h
        refine kb_aald (j := p1.toNatClampNeg) hx hb hK hP 1 3 rfl rfl rfl rfl (kb_in_v g_19) kdX5_word2_72 ?_
        refine lv_iload hx hb kdX5_word2_73 (lv_at hl 4 rfl) ?_
        obtain ⟨g_20, h⟩ := kb_g_s h
        refine va_bald hx hb hK hP (3 + p1.toNatClampNeg) 0 (kb_pl_r rfl (kb_pl_l (kb_gw_at (kb_in_lt g_19)))) rfl (kb_in_v g_20) kdX5_word2_75 ?_
        refine lv_i2l (v := (((m_this_slot p1.toNatClampNeg) x5p43.toNatClampNeg).toInt64)) hx hb kdX5_word2_76 rfl ?_
        refine lv_ldc2 (v := 255) hx hb hown (hts _ km_653) kdX5_word2_77 ?_
        refine lv_land hx hb kdX5_word2_80 ?_
        refine lv_goto (tgt := 85) hx hb kdX5_word2_81 (by decide) ?_
        refine lv_lor hx hb kdX5_word2_85 ?_
        refine lv_topl (fun x3_21 ex3_21 => ?_)
        have h := kb_n_s ex3_21 h
        refine lv_lstore_n (lv' := [(3, .long x3_21), (0, .ref h_this), (1, .int p1), (2, .int p2), (5, .int x5p43)]) hx hb kdX5_word2_86 rfl hl (by decide) rfl (fun ls hl => ?_)
        obtain ⟨x5_22, ex5_22⟩ : ∃ y : Int32, y = x5p43 + Int32.ofInt 1 := ⟨_, rfl⟩
        have h := kb_n_s ex5_22 h
        refine lv_iinc (v := x5_22) (lv' := [(5, .int x5_22), (3, .long x3_21), (0, .ref h_this), (1, .int p1), (2, .int p2)]) hx hb kdX5_word2_87 hl (k := 4) rfl ex5_22.symm (by decide) rfl (fun ls hl => ?_)
        refine lv_goto (tgt := 43) hx hb kdX5_word2_90 (by decide) ?_
        obtain rfl := Option.some.inj h
        exact ih x3_21 x5_22 r ho _ _ _ hP hD hS (lv_sub hl [2, 3, 4, 1, 0] rfl) hk0
set_option maxHeartbeats 4000000 in
set_option maxRecDepth 100000 in
theorem kcX5_word2 (l : Launch) (D : va_G) (cB cI cL cBB cII cSh : ClassId) (h_this : Nat) (a_this r_this_slot : Nat → Nat) (sz : Nat) (p1 : Int32) (p2 : Int32) (this_taped : Int32) (this_code : Int32) (this_kind : Int32) (this_rate : Int32) (this_filled : Int32) (this_total : Int64) (this_bitAt : Int32) (this_k : Int32) (this_e1 : Int32) (this_du : Int32) (this_dv : Int32) (f_this_length : Nat → Int32) (m_this_slot : Nat → Nat → Int32) (out : Int64 × Int32) (h : kFX5_word2 p1 p2 f_this_length m_this_slot = some out) : Met l kyX5_word2 kwX5_word2 krX5_word2 (kb_P D kCl (kb_T cB cI cL cBB cII cSh) [.ref h_this, .int p1, .int p2] (kWX5_word2 cB cI cL cBB cII cSh h_this a_this r_this_slot this_taped this_code this_kind this_rate this_filled this_total this_bitAt this_k this_e1 this_du this_dv f_this_length m_this_slot) sz) (kb_Q D kCl (kb_T cB cI cL cBB cII cSh) (va_A (kWX5_word2 cB cI cL cBB cII cSh h_this a_this r_this_slot this_taped this_code this_kind this_rate this_filled this_total this_bitAt this_k this_e1 this_du this_dv f_this_length m_this_slot) sz) (some (.long out.1)) (kWX5_word2 cB cI cL cBB cII cSh h_this a_this r_this_slot this_taped out.2 this_kind this_rate this_filled this_total this_bitAt this_k this_e1 this_du this_dv f_this_length m_this_slot)) 0 0 (va_A (kWX5_word2 cB cI cL cBB cII cSh h_this a_this r_this_slot this_taped this_code this_kind this_rate this_filled this_total this_bitAt this_k this_e1 this_du this_dv f_this_length m_this_slot) sz) := by
  refine Met.ofW (cc := prog_8_method_12_code) (maxL := 6) (ret := (some .long)) (by decide) rfl ?_
  intro p e s m args below meth c s₁ B hml hv
  obtain ⟨rfl, hsz, hP, hK, hN, hD0⟩ := hv
  have hx := B.exec
  have hb := B.bytes
  have hr := B.returns
  have hts0 := atoms_spec (ws := kwX5_word2) B.pre
  have hts : ∀ w ∈ kwA, w.before _ s = true := fun w h => hts0 w (List.mem_cons_of_mem _ h)
  have hown : s.vm.findClass kRX5 = some m.cls := findClass_of_methodNamed B.named
  have hlocks := B.notSynchronized
  subst hsz
  have hD := hD0.self (sz := s.heap.size)
  generalize hAe : va_A (kWX5_word2 cB cI cL cBB cII cSh h_this a_this r_this_slot this_taped this_code this_kind this_rate this_filled this_total this_bitAt this_k this_e1 this_du this_dv f_this_length m_this_slot) s.heap.size = A at hD ⊢
  have hA : ∀ q : Nat, s.heap.size ≤ q → A q := fun q h => by rw [← hAe]; exact Or.inr h
  have hS : va_S A s.heap s.heap [] := va_S.rf
  have C0 : CallFix p m c prog_8_method_12_code 6 s _ kwA kRX5 := ⟨hx, hb, hml, hown, hts⟩
  have hl := lv_entry ([.ref h_this, .int p1, .int p2]) (n := 6) (Nat.le_of_ble_eq_true rfl)
  rw [lg_entry_eq]
  generalize (lg_sl ([.ref h_this, .int p1, .int p2]) ++ List.replicate (6 - (lg_sl ([.ref h_this, .int p1, .int p2])).length) Slot.unset).toArray = ls at hl ⊢
  have hl : lv_has ls 6 [(0, .ref h_this), (1, .int p1), (2, .int p2)] := hl
  unfold kFX5_word2 at h
  refine lv_aload_n hx hb kdX5_word2_0 rfl (lv_at hl 0 rfl) ?_
  refine lv_iload_n hx hb kdX5_word2_1 rfl (lv_at hl 1 rfl) ?_
  refine lv_iconst (v := 0) hx hb kdX5_word2_2 (by decide) ?_
  refine lv_bipush (v := 7) hx hb kdX5_word2_3 (by decide) ?_
  obtain ⟨u_2, hu_2, h⟩ := kb_o_s h
  obtain ⟨r_1, rfl⟩ : ∃ z, z = u_2 := ⟨_, rfl⟩
  have hC := (show ([] : List Nat).map (fun i : Nat => (kWX5_word2 cB cI cL cBB cII cSh h_this a_this r_this_slot this_taped this_code this_kind this_rate this_filled this_total this_bitAt this_k this_e1 this_du this_dv f_this_length m_this_slot)[i]?) = List.map some (kWX5_in cB cI cL cBB cII cSh) from rfl)
  have hPc := kb_Psub hP ([] : List Nat) hC
  have hDc := kb_Dsub hD ([] : List Nat) hC (by simp [kb_nd])
  refine kb_call0 (va_runS (As := [.int p1, .int (0 : Int32), .int (7 : Int32)]) (rest := [.ref h_this]) C0 (kcX5_in l D cB cI cL cBB cII cSh  _ p1 (0 : Int32) (7 : Int32) r_1 hu_2) (va_cwS 3 hts (kb_gS km_807 km_808 km_6 km_809) rfl rfl rfl (by decide +kernel) ⟨Nat.le_of_ble_eq_true rfl, Nat.le_of_ble_eq_true rfl⟩) ⟨kb_P_bl, (fun U hU hW => ⟨rfl, by rw [hU], by rw [hU]; exact hPc, va_K.moved hW.alike hK, kb_N_to hW hN, hDc.weaken (fun _ _ _ _ => trivial)⟩)⟩ rfl rfl hl.1 rfl (lv_room (Nat.le_of_ble_eq_true rfl)) kdX5_word2_5 ⟨Nat.le_of_ble_eq_true rfl, Nat.le_of_ble_eq_true rfl⟩) hP hD hS hA ([] : List Nat) hC rfl (fun H locs hP hD hS => ?_)
  have hP : va_P D kCl (kWX5_word2 cB cI cL cBB cII cSh h_this a_this r_this_slot this_taped this_code this_kind this_rate this_filled this_total this_bitAt this_k this_e1 this_du this_dv f_this_length m_this_slot) H := hP
  have hD : va_D A (kWX5_word2 cB cI cL cBB cII cSh h_this a_this r_this_slot this_taped this_code this_kind this_rate this_filled this_total this_bitAt this_k this_e1 this_du this_dv f_this_length m_this_slot) := hD
  refine lv_iconst (v := 1) hx hb kdX5_word2_8 (by decide) ?_
  obtain ⟨u_5, hu_5, h⟩ := kb_o_s h
  obtain ⟨r_3, w_4⟩ := u_5
  have hC := (show ([0] : List Nat).map (fun i : Nat => (kWX5_word2 cB cI cL cBB cII cSh h_this a_this r_this_slot this_taped this_code this_kind this_rate this_filled this_total this_bitAt this_k this_e1 this_du this_dv f_this_length m_this_slot)[i]?) = List.map some (kWX5_good cB cI cL cBB cII cSh h_this a_this this_taped this_code this_kind this_rate this_filled this_total this_bitAt this_k this_e1 this_du this_dv) from rfl)
  have hPc := kb_Psub hP ([0] : List Nat) hC
  have hDc := kb_Dsub hD ([0] : List Nat) hC (by simp [kb_nd])
  refine kb_call0 (va_runV (As := [.int r_1, .int (1 : Int32)]) (rest := []) C0 (kcX5_good l D cB cI cL cBB cII cSh h_this a_this _ r_1 (1 : Int32) this_taped this_code this_kind this_rate this_filled this_total this_bitAt this_k this_e1 this_du this_dv (r_3, w_4) hu_5) (cwV 2 hts (kb_gV km_795 km_797 kp_0 km_6 km_798) rfl rfl rfl (by decide +kernel) ⟨Nat.le_of_ble_eq_true rfl, Nat.le_of_ble_eq_true rfl⟩) ⟨kb_P_bl, va_recv hK hP (ci := 5) (q0 := 0) rfl rfl, (fun U hU hW => ⟨rfl, by rw [hU], by rw [hU]; exact hPc, va_K.moved hW.alike hK, kb_N_to hW hN, hDc.weaken (fun _ _ _ _ => trivial)⟩)⟩ rfl rfl hl.1 rfl (lv_room (Nat.le_of_ble_eq_true rfl)) kdX5_word2_9 ⟨Nat.le_of_ble_eq_true rfl, Nat.le_of_ble_eq_true rfl⟩) hP hD hS hA ([0] : List Nat) hC rfl (fun H locs hP hD hS => ?_)
  have hP : va_P D kCl (kWX5_word2 cB cI cL cBB cII cSh h_this a_this r_this_slot this_taped w_4 this_kind this_rate this_filled this_total this_bitAt this_k this_e1 this_du this_dv f_this_length m_this_slot) H := hP
  have hD : va_D A (kWX5_word2 cB cI cL cBB cII cSh h_this a_this r_this_slot this_taped w_4 this_kind this_rate this_filled this_total this_bitAt this_k this_e1 this_du this_dv f_this_length m_this_slot) := hD
  refine lv_if_eq (tgt := 36) hx hb kdX5_word2_12 (by decide) (fun c_6 => ?_) (fun c_6 => ?_)
  · have h := kb_b_t c_6 h
    refine lv_lconst (v := 0) hx hb kdX5_word2_36 (by decide) ?_
    obtain rfl := Option.some.inj h
    exact W.lret (v := (0 : Int64)) hx hb hr (fun t ht hW => ⟨⟨rfl, by rw [ht]; exact hP, va_K.moved hW.alike hK, hD⟩, hS.F ht⟩) hS.2.2 kdX5_word2_37
  · have h := kb_b_f c_6 h
    refine lv_aload_n hx hb kdX5_word2_15 rfl (lv_at hl 0 rfl) ?_
    refine lv_iload_n hx hb kdX5_word2_16 rfl (lv_at hl 2 rfl) ?_
    refine lv_iconst (v := 0) hx hb kdX5_word2_17 (by decide) ?_
    refine lv_aload_n hx hb kdX5_word2_18 rfl (lv_at hl 0 rfl) ?_
    refine va_get (ci := 5) (v := .ref (a_this 2)) (C := kRX5) (T := kTX5) (N := 35) hx hb hts kinX5 hown hK hP 0 rfl rfl 2 (by decide) (hts _ km_683) (fun _ h9 => h9) rfl kdX5_word2_19 ?_
    refine lv_iload_n hx hb kdX5_word2_22 rfl (lv_at hl 1 rfl) ?_
    obtain ⟨g_7, h⟩ := kb_g_s h
    refine va_iald hx hb hK hP 2 1 rfl rfl (kb_in_v g_7) kdX5_word2_23 ?_
    refine lv_iconst (v := 1) hx hb kdX5_word2_24 (by decide) ?_
    refine lv_isub hx hb kdX5_word2_25 ?_
    obtain ⟨u_9, hu_9, h⟩ := kb_o_s h
    obtain ⟨r_8, rfl⟩ : ∃ z, z = u_9 := ⟨_, rfl⟩
    have hC := (show ([] : List Nat).map (fun i : Nat => (kWX5_word2 cB cI cL cBB cII cSh h_this a_this r_this_slot this_taped w_4 this_kind this_rate this_filled this_total this_bitAt this_k this_e1 this_du this_dv f_this_length m_this_slot)[i]?) = List.map some (kWX5_in cB cI cL cBB cII cSh) from rfl)
    have hPc := kb_Psub hP ([] : List Nat) hC
    have hDc := kb_Dsub hD ([] : List Nat) hC (by simp [kb_nd])
    refine kb_call0 (va_runS (As := [.int p2, .int (0 : Int32), .int ((f_this_length p1.toNatClampNeg) - (1 : Int32))]) (rest := [.ref h_this]) C0 (kcX5_in l D cB cI cL cBB cII cSh  _ p2 (0 : Int32) ((f_this_length p1.toNatClampNeg) - (1 : Int32)) r_8 hu_9) (va_cwS 3 hts (kb_gS km_807 km_808 km_6 km_809) rfl rfl rfl (by decide +kernel) ⟨Nat.le_of_ble_eq_true rfl, Nat.le_of_ble_eq_true rfl⟩) ⟨kb_P_bl, (fun U hU hW => ⟨rfl, by rw [hU], by rw [hU]; exact hPc, va_K.moved hW.alike hK, kb_N_to hW hN, hDc.weaken (fun _ _ _ _ => trivial)⟩)⟩ rfl rfl hl.1 rfl (lv_room (Nat.le_of_ble_eq_true rfl)) kdX5_word2_26 ⟨Nat.le_of_ble_eq_true rfl, Nat.le_of_ble_eq_true rfl⟩) hP hD hS hA ([] : List Nat) hC rfl (fun H locs hP hD hS => ?_)
    have hP : va_P D kCl (kWX5_word2 cB cI cL cBB cII cSh h_this a_this r_this_slot this_taped w_4 this_kind this_rate this_filled this_total this_bitAt this_k this_e1 this_du this_dv f_this_length m_this_slot) H := hP
    have hD : va_D A (kWX5_word2 cB cI cL cBB cII cSh h_this a_this r_this_slot this_taped w_4 this_kind this_rate this_filled this_total this_bitAt this_k this_e1 this_du this_dv f_this_length m_this_slot) := hD
    refine lv_iconst (v := 2) hx hb kdX5_word2_29 (by decide) ?_
    obtain ⟨u_12, hu_12, h⟩ := kb_o_s h
    obtain ⟨r_10, w_11⟩ := u_12
    have hC := (show ([0] : List Nat).map (fun i : Nat => (kWX5_word2 cB cI cL cBB cII cSh h_this a_this r_this_slot this_taped w_4 this_kind this_rate this_filled this_total this_bitAt this_k this_e1 this_du this_dv f_this_length m_this_slot)[i]?) = List.map some (kWX5_good cB cI cL cBB cII cSh h_this a_this this_taped w_4 this_kind this_rate this_filled this_total this_bitAt this_k this_e1 this_du this_dv) from rfl)
    have hPc := kb_Psub hP ([0] : List Nat) hC
    have hDc := kb_Dsub hD ([0] : List Nat) hC (by simp [kb_nd])
    refine kb_call0 (va_runV (As := [.int r_8, .int (2 : Int32)]) (rest := []) C0 (kcX5_good l D cB cI cL cBB cII cSh h_this a_this _ r_8 (2 : Int32) this_taped w_4 this_kind this_rate this_filled this_total this_bitAt this_k this_e1 this_du this_dv (r_10, w_11) hu_12) (cwV 2 hts (kb_gV km_795 km_797 kp_0 km_6 km_798) rfl rfl rfl (by decide +kernel) ⟨Nat.le_of_ble_eq_true rfl, Nat.le_of_ble_eq_true rfl⟩) ⟨kb_P_bl, va_recv hK hP (ci := 5) (q0 := 0) rfl rfl, (fun U hU hW => ⟨rfl, by rw [hU], by rw [hU]; exact hPc, va_K.moved hW.alike hK, kb_N_to hW hN, hDc.weaken (fun _ _ _ _ => trivial)⟩)⟩ rfl rfl hl.1 rfl (lv_room (Nat.le_of_ble_eq_true rfl)) kdX5_word2_30 ⟨Nat.le_of_ble_eq_true rfl, Nat.le_of_ble_eq_true rfl⟩) hP hD hS hA ([0] : List Nat) hC rfl (fun H locs hP hD hS => ?_)
    have hP : va_P D kCl (kWX5_word2 cB cI cL cBB cII cSh h_this a_this r_this_slot this_taped w_11 this_kind this_rate this_filled this_total this_bitAt this_k this_e1 this_du this_dv f_this_length m_this_slot) H := hP
    have hD : va_D A (kWX5_word2 cB cI cL cBB cII cSh h_this a_this r_this_slot this_taped w_11 this_kind this_rate this_filled this_total this_bitAt this_k this_e1 this_du this_dv f_this_length m_this_slot) := hD
    refine lv_if_ne (tgt := 38) hx hb kdX5_word2_33 (by decide) (fun c_13 => ?_) (fun c_13 => ?_)
    · have h := kb_b_f c_13 h
      refine lv_lconst (v := 0) hx hb kdX5_word2_38 (by decide) ?_
      refine lv_lstore_n (lv' := [(3, .long (0 : Int64)), (0, .ref h_this), (1, .int p1), (2, .int p2)]) hx hb kdX5_word2_39 rfl hl (by decide) rfl (fun ls hl => ?_)
      refine lv_iload_n hx hb kdX5_word2_40 rfl (lv_at hl 3 rfl) ?_
      refine lv_istore (lv' := [(5, .int p2), (3, .long (0 : Int64)), (0, .ref h_this), (1, .int p1), (2, .int p2)]) hx hb kdX5_word2_41 hl (by decide) rfl (fun ls hl => ?_)
      obtain ⟨r_25, hr_25, h⟩ := kb_o_s h
      refine klX5_word2_43 C0 hlocks hK hN hA (by decide) (by decide) h_this a_this r_this_slot p1 p2 this_taped w_11 this_kind this_rate this_filled this_total this_bitAt this_k this_e1 this_du this_dv f_this_length m_this_slot 100000 (0 : Int64) p2 r_25 hr_25 _ _ _ hP hD hS (lv_sub hl [2, 3, 4, 1, 0] rfl) (fun x3p43_23 x5p43_24 er_25 H locs ls hP hD hS hl => ?_)
      subst er_25
      refine lv_lload_n hx hb kdX5_word2_93 rfl (lv_at hl 3 rfl) ?_
      obtain rfl := Option.some.inj h
      exact W.lret (v := x3p43_23) hx hb hr (fun t ht hW => ⟨⟨rfl, by rw [ht]; exact hP, va_K.moved hW.alike hK, hD⟩, hS.F ht⟩) hS.2.2 kdX5_word2_94
    · have h := kb_b_t c_13 h
      refine lv_lconst (v := 0) hx hb kdX5_word2_36 (by decide) ?_
      obtain rfl := Option.some.inj h
      exact W.lret (v := (0 : Int64)) hx hb hr (fun t ht hW => ⟨⟨rfl, by rw [ht]; exact hP, va_K.moved hW.alike hK, hD⟩, hS.F ht⟩) hS.2.2 kdX5_word2_37

-- 418.ModuleKemModel.same.lean.txt
abbrev kWX5_same (cB cI cL cBB cII cSh : ClassId) (h_this : Nat) (a_this : Nat → Nat) (r_this_slot : Nat → Nat) (this_taped : Int32) (this_code : Int32) (this_kind : Int32) (this_rate : Int32) (this_filled : Int32) (this_total : Int64) (this_bitAt : Int32) (this_k : Int32) (this_e1 : Int32) (this_du : Int32) (this_dv : Int32) (f_this_length : Nat → Int32) (m_this_slot : Nat → Nat → Int32) : va_W := ([(h_this, koX5 a_this this_taped this_code this_kind this_rate this_filled this_total this_bitAt this_k this_e1 this_du this_dv), ((a_this 1), .inl (cBB, 8, .inr (.inr (.inr (.inr (kb_rf r_this_slot 8)))))), ((a_this 2), .inl (cI, 8, .inl f_this_length))] ++ (kb_gw r_this_slot 8 (fun i => .inl (cB, 8192, .inl (m_this_slot i))) ++ []))
def krX5_same : Room := { frames := 1, cells := 0, slots := 0, locals := 22 }
set_option maxHeartbeats 4000000 in
set_option maxRecDepth 100000 in
theorem klX5_same_57 {p : Program} {l : Launch} {e : Env} {s : State} {m : MethodId} {args : Array Value} {below : List Frame} {meth : Method} {c : Code} {cells slots : Nat} {Q : State → Prop} {D : va_G} {cB cI cL cBB cII cSh : ClassId} {A : Nat → Prop} (C0 : CallFix p m c prog_8_method_13_code 5 s args kwA kRX5) (hlocks : meth.locks = false) (hK : va_K D kCl (kb_T cB cI cL cBB cII cSh) s) (hN : kb_N s) (hA : ∀ q, s.heap.size ≤ q → A q) (hcR : cells ≤ krX5_same.cells) (hsR : slots ≤ krX5_same.slots) (h_this : Nat) (a_this r_this_slot : Nat → Nat) (x1j26 : Int32) (x2j26 : Int32) (this_taped : Int32) (w_5 : Int32) (this_kind : Int32) (this_rate : Int32) (this_filled : Int32) (this_total : Int64) (this_bitAt : Int32) (this_k : Int32) (this_e1 : Int32) (this_du : Int32) (this_dv : Int32) (f_this_length : Nat → Int32) (m_this_slot : Nat → Nat → Int32) :
    ∀ (fuel : Nat) (x3p57 : Int32) (x4p57 : Int32) (r : Int32 × Int32), kb_w (fun u : Int32 × Int32 => kSX5_same_57 x1j26 x2j26 f_this_length m_this_slot u.1 u.2) fuel (x3p57, x4p57) = some r → ∀ (H : Heap) (locs : List Loc) (ls : Array Slot), va_P D kCl (kWX5_same cB cI cL cBB cII cSh h_this a_this r_this_slot this_taped w_5 this_kind this_rate this_filled this_total this_bitAt this_k this_e1 this_du this_dv f_this_length m_this_slot) H → va_D A (kWX5_same cB cI cL cBB cII cSh h_this a_this r_this_slot this_taped w_5 this_kind this_rate this_filled this_total this_bitAt this_k this_e1 this_du this_dv f_this_length m_this_slot) → va_S A s.heap H locs → lv_has ls 5 [(0, .ref h_this), (1, .int x1j26), (2, .int x2j26), (3, .int x3p57), (4, .int x4p57)] → (∀ (x3p57' : Int32) (x4p57' : Int32), r = (x3p57', x4p57') → ∀ (H : Heap) (locs : List Loc) (ls : Array Slot), va_P D kCl (kWX5_same cB cI cL cBB cII cSh h_this a_this r_this_slot this_taped w_5 this_kind this_rate this_filled this_total this_bitAt this_k this_e1 this_du this_dv f_this_length m_this_slot) H → va_D A (kWX5_same cB cI cL cBB cII cSh h_this a_this r_this_slot this_taped w_5 this_kind this_rate this_filled this_total this_bitAt this_k this_e1 this_du this_dv f_this_length m_this_slot) → va_S A s.heap H locs → lv_has ls 5 [(0, .ref h_this), (1, .int x1j26), (2, .int x2j26), (3, .int x3p57'), (4, .int x4p57')] → W p l e krX5_same s m args below meth c H locs cells slots Q (F0 m 97 ls [])) → W p l e krX5_same s m args below meth c H locs cells slots Q (F0 m 57 ls []) := by
  obtain ⟨hx, hb, hml, hown, hts⟩ := id C0
  intro fuel
  induction fuel with
  | zero =>
    intro x3p57 x4p57 r h
    exact absurd h (kb_w_z _ _ _)
  | succ fuel ih =>
    intro x3p57 x4p57 r h H locs ls hP hD hS hl hk0
    obtain ⟨o, h, ho⟩ := kb_w_s h
    have h : kSX5_same_57 x1j26 x2j26 f_this_length m_this_slot x3p57 x4p57 = some o := h
    unfold kSX5_same_57 at h
    refine lv_iload hx hb kdX5_same_57 (lv_at hl 4 rfl) ?_
    refine lv_aload_n hx hb kdX5_same_59 rfl (lv_at hl 0 rfl) ?_
    refine va_get (ci := 5) (v := .ref (a_this 2)) (C := kRX5) (T := kTX5) (N := 35) hx hb hts kinX5 hown hK hP 0 rfl rfl 2 (by decide) (hts _ km_683) (fun _ h9 => h9) rfl kdX5_same_60 ?_
    refine lv_iload_n hx hb kdX5_same_63 rfl (lv_at hl 1 rfl) ?_
    obtain ⟨g_11, h⟩ := kb_g_s h
    refine va_iald hx hb hK hP 2 1 rfl rfl (kb_in_v g_11) kdX5_same_64 ?_
    refine lv_icmp_ge (tgt := 97) hx hb kdX5_same_65 (by decide) (fun c_12 => ?_) (fun c_12 => ?_)
    · have h := kb_b_t c_12 h
      obtain rfl := Option.some.inj h
      exact hk0 x3p57 x4p57 ho.symm _ _ _ hP hD hS (lv_sub hl [0, 1, 2, 3, 4] rfl)
    · have h := kb_b_f c_12 h
      refine lv_aload_n hx hb kdX5_same_68 rfl (lv_at hl 0 rfl) ?_
      refine va_get (ci := 5) (v := .ref (a_this 1)) (C := kRX5) (T := kTX5) (N := 35) hx hb hts kinX5 hown hK hP 0 rfl rfl 1 (by decide) (hts _ km_682) (fun _ h9 => h9) rfl kdX5_same_69 ?_
      refine lv_iload_n hx hb kdX5_same_72 rfl (lv_at hl 1 rfl) ?_
      obtain ⟨g_13, h⟩ := kb_g_s h
      refine kb_aald (j := x1j26.toNatClampNeg) hx hb hK hP 1 3 rfl rfl rfl rfl (kb_in_v g_13) kdX5_same_73 ?_
      refine lv_iload hx hb kdX5_same_74 (lv_at hl 4 rfl) ?_
      obtain ⟨g_14, h⟩ := kb_g_s h
      refine va_bald hx hb hK hP (3 + x1j26.toNatClampNeg) 0 (kb_pl_r rfl (kb_pl_l (kb_gw_at (kb_in_lt g_13)))) rfl (kb_in_v g_14) kdX5_same_76 ?_
      refine lv_aload_n hx hb kdX5_same_77 rfl (lv_at hl 0 rfl) ?_
      refine va_get (ci := 5) (v := .ref (a_this 1)) (C := kRX5) (T := kTX5) (N := 35) hx hb hts kinX5 hown hK hP 0 rfl rfl 1 (by decide) (hts _ km_682) (fun _ h9 => h9) rfl kdX5_same_78 ?_
      refine lv_iload_n hx hb kdX5_same_81 rfl (lv_at hl 2 rfl) ?_
      obtain ⟨g_15, h⟩ := kb_g_s h
      refine kb_aald (j := x2j26.toNatClampNeg) hx hb hK hP 1 3 rfl rfl rfl rfl (kb_in_v g_15) kdX5_same_82 ?_
      refine lv_iload hx hb kdX5_same_83 (lv_at hl 4 rfl) ?_
      obtain ⟨g_16, h⟩ := kb_g_s h
      refine va_bald hx hb hK hP (3 + x2j26.toNatClampNeg) 0 (kb_pl_r rfl (kb_pl_l (kb_gw_at (kb_in_lt g_15)))) rfl (kb_in_v g_16) kdX5_same_85 ?_
      refine lv_icmp_eq (tgt := 91) hx hb kdX5_same_86 (by decide) (fun c_17 => ?_) (fun c_17 => ?_)
      · have h := kb_b_t c_17 h
        obtain ⟨x4_18, ex4_18⟩ : ∃ y : Int32, y = x4p57 + Int32.ofInt 1 := ⟨_, rfl⟩
        have h := kb_n_s ex4_18 h
        refine lv_iinc (v := x4_18) (lv' := [(4, .int x4_18), (0, .ref h_this), (1, .int x1j26), (2, .int x2j26), (3, .int x3p57)]) hx hb kdX5_same_91 hl (k := 4) rfl ex4_18.symm (by decide) rfl (fun ls hl => ?_)
        refine lv_goto (tgt := 57) hx hb kdX5_same_94 (by decide) ?_
        obtain rfl := Option.some.inj h
        exact ih x3p57 x4_18 r ho _ _ _ hP hD hS (lv_sub hl [1, 2, 3, 4, 0] rfl) hk0
      · have h := kb_b_f c_17 h
        refine lv_iconst (v := 0) hx hb kdX5_same_89 (by decide) ?_
        refine lv_istore_n (lv' := [(3, .int (0 : Int32)), (0, .ref h_this), (1, .int x1j26), (2, .int x2j26), (4, .int x4p57)]) hx hb kdX5_same_90 rfl hl (by decide) rfl (fun ls hl => ?_)
        obtain ⟨x4_19, ex4_19⟩ : ∃ y : Int32, y = x4p57 + Int32.ofInt 1 := ⟨_, rfl⟩
        have h := kb_n_s ex4_19 h
        refine lv_iinc (v := x4_19) (lv' := [(4, .int x4_19), (3, .int (0 : Int32)), (0, .ref h_this), (1, .int x1j26), (2, .int x2j26)]) hx hb kdX5_same_91 hl (k := 4) rfl ex4_19.symm (by decide) rfl (fun ls hl => ?_)
        refine lv_goto (tgt := 57) hx hb kdX5_same_94 (by decide) ?_
        obtain rfl := Option.some.inj h
        exact ih (0 : Int32) x4_19 r ho _ _ _ hP hD hS (lv_sub hl [2, 3, 4, 1, 0] rfl) hk0
set_option maxHeartbeats 4000000 in
set_option maxRecDepth 100000 in
theorem kjX5_same_26 {p : Program} {l : Launch} {e : Env} {s : State} {m : MethodId} {args : Array Value} {below : List Frame} {meth : Method} {c : Code} {D : va_G} {cB cI cL cBB cII cSh : ClassId} {A : Nat → Prop} (C0 : CallFix p m c prog_8_method_13_code 5 s args kwA kRX5) (hlocks : meth.locks = false) (hr : meth.sig.returnType = (some .boolean)) (hK : va_K D kCl (kb_T cB cI cL cBB cII cSh) s) (hN : kb_N s) (hA : ∀ q, s.heap.size ≤ q → A q) (h_this : Nat) (a_this r_this_slot : Nat → Nat) (x1j26 : Int32) (x2j26 : Int32) (this_taped : Int32) (this_codej26 : Int32) (this_kind : Int32) (this_rate : Int32) (this_filled : Int32) (this_total : Int64) (this_bitAt : Int32) (this_k : Int32) (this_e1 : Int32) (this_du : Int32) (this_dv : Int32) (f_this_length : Nat → Int32) (m_this_slot : Nat → Nat → Int32) (y0j26 : Int32) (out : Int32 × Int32) (h : kJX5_same_26 x1j26 x2j26 f_this_length m_this_slot y0j26 = some out) (H : Heap) (locs : List Loc) (ls : Array Slot) (hP : va_P D kCl (kWX5_same cB cI cL cBB cII cSh h_this a_this r_this_slot this_taped this_codej26 this_kind this_rate this_filled this_total this_bitAt this_k this_e1 this_du this_dv f_this_length m_this_slot) H) (hD : va_D A (kWX5_same cB cI cL cBB cII cSh h_this a_this r_this_slot this_taped this_codej26 this_kind this_rate this_filled this_total this_bitAt this_k this_e1 this_du this_dv f_this_length m_this_slot)) (hS : va_S A s.heap H locs) (hl : lv_has ls 5 [(0, .ref h_this), (1, .int x1j26), (2, .int x2j26)]) : W p l e krX5_same s m args below meth c H locs 0 0 (MQ below (kb_Q D kCl (kb_T cB cI cL cBB cII cSh) A (some (.int out.1)) (kWX5_same cB cI cL cBB cII cSh h_this a_this r_this_slot this_taped out.2 this_kind this_rate this_filled this_total this_bitAt this_k this_e1 this_du this_dv f_this_length m_this_slot)) args s 0 0 A) (F0 m 26 ls [.int y0j26, .ref h_this]) := by
  obtain ⟨hx, hb, hml, hown, hts⟩ := id C0
  unfold kJX5_same_26 at h
  refine lv_iconst (v := 1) hx hb kdX5_same_26 (by decide) ?_
  obtain ⟨u_6, hu_6, h⟩ := kb_o_s h
  obtain ⟨r_4, w_5⟩ := u_6
  have hC := (show ([0] : List Nat).map (fun i : Nat => (kWX5_same cB cI cL cBB cII cSh h_this a_this r_this_slot this_taped this_codej26 this_kind this_rate this_filled this_total this_bitAt this_k this_e1 this_du this_dv f_this_length m_this_slot)[i]?) = List.map some (kWX5_good cB cI cL cBB cII cSh h_this a_this this_taped this_codej26 this_kind this_rate this_filled this_total this_bitAt this_k this_e1 this_du this_dv) from rfl)
  have hPc := kb_Psub hP ([0] : List Nat) hC
  have hDc := kb_Dsub hD ([0] : List Nat) hC (by simp [kb_nd])
  refine kb_call0 (va_runV (As := [.int y0j26, .int (1 : Int32)]) (rest := []) C0 (kcX5_good l D cB cI cL cBB cII cSh h_this a_this _ y0j26 (1 : Int32) this_taped this_codej26 this_kind this_rate this_filled this_total this_bitAt this_k this_e1 this_du this_dv (r_4, w_5) hu_6) (cwV 2 hts (kb_gV km_795 km_797 kp_0 km_6 km_798) rfl rfl rfl (by decide +kernel) ⟨Nat.le_of_ble_eq_true rfl, Nat.le_of_ble_eq_true rfl⟩) ⟨kb_P_bl, va_recv hK hP (ci := 5) (q0 := 0) rfl rfl, (fun U hU hW => ⟨rfl, by rw [hU], by rw [hU]; exact hPc, va_K.moved hW.alike hK, kb_N_to hW hN, hDc.weaken (fun _ _ _ _ => trivial)⟩)⟩ rfl rfl hl.1 rfl (lv_room (Nat.le_of_ble_eq_true rfl)) kdX5_same_27 ⟨Nat.le_of_ble_eq_true rfl, Nat.le_of_ble_eq_true rfl⟩) hP hD hS hA ([0] : List Nat) hC rfl (fun H locs hP hD hS => ?_)
  have hP : va_P D kCl (kWX5_same cB cI cL cBB cII cSh h_this a_this r_this_slot this_taped w_5 this_kind this_rate this_filled this_total this_bitAt this_k this_e1 this_du this_dv f_this_length m_this_slot) H := hP
  have hD : va_D A (kWX5_same cB cI cL cBB cII cSh h_this a_this r_this_slot this_taped w_5 this_kind this_rate this_filled this_total this_bitAt this_k this_e1 this_du this_dv f_this_length m_this_slot) := hD
  refine lv_if_ne (tgt := 35) hx hb kdX5_same_30 (by decide) (fun c_7 => ?_) (fun c_7 => ?_)
  · have h := kb_b_f c_7 h
    refine lv_aload_n hx hb kdX5_same_35 rfl (lv_at hl 0 rfl) ?_
    refine va_get (ci := 5) (v := .ref (a_this 2)) (C := kRX5) (T := kTX5) (N := 35) hx hb hts kinX5 hown hK hP 0 rfl rfl 2 (by decide) (hts _ km_683) (fun _ h9 => h9) rfl kdX5_same_36 ?_
    refine lv_iload_n hx hb kdX5_same_39 rfl (lv_at hl 1 rfl) ?_
    obtain ⟨g_8, h⟩ := kb_g_s h
    refine va_iald hx hb hK hP 2 1 rfl rfl (kb_in_v g_8) kdX5_same_40 ?_
    refine lv_aload_n hx hb kdX5_same_41 rfl (lv_at hl 0 rfl) ?_
    refine va_get (ci := 5) (v := .ref (a_this 2)) (C := kRX5) (T := kTX5) (N := 35) hx hb hts kinX5 hown hK hP 0 rfl rfl 2 (by decide) (hts _ km_683) (fun _ h9 => h9) rfl kdX5_same_42 ?_
    refine lv_iload_n hx hb kdX5_same_45 rfl (lv_at hl 2 rfl) ?_
    obtain ⟨g_9, h⟩ := kb_g_s h
    refine va_iald hx hb hK hP 2 1 rfl rfl (kb_in_v g_9) kdX5_same_46 ?_
    refine lv_icmp_eq (tgt := 52) hx hb kdX5_same_47 (by decide) (fun c_10 => ?_) (fun c_10 => ?_)
    · have h := kb_b_t c_10 h
      refine lv_iconst (v := 1) hx hb kdX5_same_52 (by decide) ?_
      refine lv_istore_n (lv' := [(3, .int (1 : Int32)), (0, .ref h_this), (1, .int x1j26), (2, .int x2j26)]) hx hb kdX5_same_53 rfl hl (by decide) rfl (fun ls hl => ?_)
      refine lv_iconst (v := 0) hx hb kdX5_same_54 (by decide) ?_
      refine lv_istore (lv' := [(4, .int (0 : Int32)), (3, .int (1 : Int32)), (0, .ref h_this), (1, .int x1j26), (2, .int x2j26)]) hx hb kdX5_same_55 hl (by decide) rfl (fun ls hl => ?_)
      obtain ⟨r_23, hr_23, h⟩ := kb_o_s h
      refine klX5_same_57 C0 hlocks hK hN hA (by decide) (by decide) h_this a_this r_this_slot x1j26 x2j26 this_taped w_5 this_kind this_rate this_filled this_total this_bitAt this_k this_e1 this_du this_dv f_this_length m_this_slot 100000 (1 : Int32) (0 : Int32) r_23 hr_23 _ _ _ hP hD hS (lv_sub hl [2, 3, 4, 1, 0] rfl) (fun x3p57_20 x4p57_21 er_23 H locs ls hP hD hS hl => ?_)
      subst er_23
      refine lv_iload_n hx hb kdX5_same_97 rfl (lv_at hl 3 rfl) ?_
      obtain ⟨g_22, h⟩ := kb_g_s h
      obtain rfl := Option.some.inj h
      exact W.zret (v := x3p57_20) (ty := .boolean) hx hb hr (kb_z_n g_22) (fun t ht hW => ⟨⟨rfl, by rw [ht]; exact hP, va_K.moved hW.alike hK, hD⟩, hS.F ht⟩) hS.2.2 kdX5_same_98
    · have h := kb_b_f c_10 h
      refine lv_iconst (v := 0) hx hb kdX5_same_50 (by decide) ?_
      obtain rfl := Option.some.inj h
      exact W.zret (v := (0 : Int32)) (ty := .boolean) hx hb hr (by decide) (fun t ht hW => ⟨⟨rfl, by rw [ht]; exact hP, va_K.moved hW.alike hK, hD⟩, hS.F ht⟩) hS.2.2 kdX5_same_51
  · have h := kb_b_t c_7 h
    refine lv_iconst (v := 0) hx hb kdX5_same_33 (by decide) ?_
    obtain rfl := Option.some.inj h
    exact W.zret (v := (0 : Int32)) (ty := .boolean) hx hb hr (by decide) (fun t ht hW => ⟨⟨rfl, by rw [ht]; exact hP, va_K.moved hW.alike hK, hD⟩, hS.F ht⟩) hS.2.2 kdX5_same_34
set_option maxHeartbeats 4000000 in
set_option maxRecDepth 100000 in
theorem kjX5_same_25 {p : Program} {l : Launch} {e : Env} {s : State} {m : MethodId} {args : Array Value} {below : List Frame} {meth : Method} {c : Code} {D : va_G} {cB cI cL cBB cII cSh : ClassId} {A : Nat → Prop} (C0 : CallFix p m c prog_8_method_13_code 5 s args kwA kRX5) (hlocks : meth.locks = false) (hr : meth.sig.returnType = (some .boolean)) (hK : va_K D kCl (kb_T cB cI cL cBB cII cSh) s) (hN : kb_N s) (hA : ∀ q, s.heap.size ≤ q → A q) (h_this : Nat) (a_this r_this_slot : Nat → Nat) (x1j25 : Int32) (x2j25 : Int32) (this_taped : Int32) (this_codej25 : Int32) (this_kind : Int32) (this_rate : Int32) (this_filled : Int32) (this_total : Int64) (this_bitAt : Int32) (this_k : Int32) (this_e1 : Int32) (this_du : Int32) (this_dv : Int32) (f_this_length : Nat → Int32) (m_this_slot : Nat → Nat → Int32) (out : Int32 × Int32) (h : kJX5_same_25 x1j25 x2j25 f_this_length m_this_slot = some out) (H : Heap) (locs : List Loc) (ls : Array Slot) (hP : va_P D kCl (kWX5_same cB cI cL cBB cII cSh h_this a_this r_this_slot this_taped this_codej25 this_kind this_rate this_filled this_total this_bitAt this_k this_e1 this_du this_dv f_this_length m_this_slot) H) (hD : va_D A (kWX5_same cB cI cL cBB cII cSh h_this a_this r_this_slot this_taped this_codej25 this_kind this_rate this_filled this_total this_bitAt this_k this_e1 this_du this_dv f_this_length m_this_slot)) (hS : va_S A s.heap H locs) (hl : lv_has ls 5 [(0, .ref h_this), (1, .int x1j25), (2, .int x2j25)]) : W p l e krX5_same s m args below meth c H locs 0 0 (MQ below (kb_Q D kCl (kb_T cB cI cL cBB cII cSh) A (some (.int out.1)) (kWX5_same cB cI cL cBB cII cSh h_this a_this r_this_slot this_taped out.2 this_kind this_rate this_filled this_total this_bitAt this_k this_e1 this_du this_dv f_this_length m_this_slot)) args s 0 0 A) (F0 m 25 ls [.ref h_this]) := by
  obtain ⟨hx, hb, hml, hown, hts⟩ := id C0
  unfold kJX5_same_25 at h
  refine lv_iconst (v := 0) hx hb kdX5_same_25 (by decide) ?_
  exact kjX5_same_26 C0 hlocks hr hK hN hA h_this a_this r_this_slot x1j25 x2j25 this_taped this_codej25 this_kind this_rate this_filled this_total this_bitAt this_k this_e1 this_du this_dv f_this_length m_this_slot (0 : Int32) _ h _ _ _ hP hD hS (lv_sub hl [0, 1, 2] rfl)
set_option maxHeartbeats 4000000 in
set_option maxRecDepth 100000 in
theorem kcX5_same (l : Launch) (D : va_G) (cB cI cL cBB cII cSh : ClassId) (h_this : Nat) (a_this r_this_slot : Nat → Nat) (sz : Nat) (p1 : Int32) (p2 : Int32) (this_taped : Int32) (this_code : Int32) (this_kind : Int32) (this_rate : Int32) (this_filled : Int32) (this_total : Int64) (this_bitAt : Int32) (this_k : Int32) (this_e1 : Int32) (this_du : Int32) (this_dv : Int32) (f_this_length : Nat → Int32) (m_this_slot : Nat → Nat → Int32) (out : Int32 × Int32) (h : kFX5_same p1 p2 f_this_length m_this_slot = some out) : Met l kyX5_same kwX5_same krX5_same (kb_P D kCl (kb_T cB cI cL cBB cII cSh) [.ref h_this, .int p1, .int p2] (kWX5_same cB cI cL cBB cII cSh h_this a_this r_this_slot this_taped this_code this_kind this_rate this_filled this_total this_bitAt this_k this_e1 this_du this_dv f_this_length m_this_slot) sz) (kb_Q D kCl (kb_T cB cI cL cBB cII cSh) (va_A (kWX5_same cB cI cL cBB cII cSh h_this a_this r_this_slot this_taped this_code this_kind this_rate this_filled this_total this_bitAt this_k this_e1 this_du this_dv f_this_length m_this_slot) sz) (some (.int out.1)) (kWX5_same cB cI cL cBB cII cSh h_this a_this r_this_slot this_taped out.2 this_kind this_rate this_filled this_total this_bitAt this_k this_e1 this_du this_dv f_this_length m_this_slot)) 0 0 (va_A (kWX5_same cB cI cL cBB cII cSh h_this a_this r_this_slot this_taped this_code this_kind this_rate this_filled this_total this_bitAt this_k this_e1 this_du this_dv f_this_length m_this_slot) sz) := by
  refine Met.ofW (cc := prog_8_method_13_code) (maxL := 5) (ret := (some .boolean)) (by decide) rfl ?_
  intro p e s m args below meth c s₁ B hml hv
  obtain ⟨rfl, hsz, hP, hK, hN, hD0⟩ := hv
  have hx := B.exec
  have hb := B.bytes
  have hr := B.returns
  have hts0 := atoms_spec (ws := kwX5_same) B.pre
  have hts : ∀ w ∈ kwA, w.before _ s = true := fun w h => hts0 w (List.mem_cons_of_mem _ h)
  have hown : s.vm.findClass kRX5 = some m.cls := findClass_of_methodNamed B.named
  have hlocks := B.notSynchronized
  subst hsz
  have hD := hD0.self (sz := s.heap.size)
  generalize hAe : va_A (kWX5_same cB cI cL cBB cII cSh h_this a_this r_this_slot this_taped this_code this_kind this_rate this_filled this_total this_bitAt this_k this_e1 this_du this_dv f_this_length m_this_slot) s.heap.size = A at hD ⊢
  have hA : ∀ q : Nat, s.heap.size ≤ q → A q := fun q h => by rw [← hAe]; exact Or.inr h
  have hS : va_S A s.heap s.heap [] := va_S.rf
  have C0 : CallFix p m c prog_8_method_13_code 5 s _ kwA kRX5 := ⟨hx, hb, hml, hown, hts⟩
  have hl := lv_entry ([.ref h_this, .int p1, .int p2]) (n := 5) (Nat.le_of_ble_eq_true rfl)
  rw [lg_entry_eq]
  generalize (lg_sl ([.ref h_this, .int p1, .int p2]) ++ List.replicate (5 - (lg_sl ([.ref h_this, .int p1, .int p2])).length) Slot.unset).toArray = ls at hl ⊢
  have hl : lv_has ls 5 [(0, .ref h_this), (1, .int p1), (2, .int p2)] := hl
  unfold kFX5_same at h
  refine lv_aload_n hx hb kdX5_same_0 rfl (lv_at hl 0 rfl) ?_
  refine lv_iload_n hx hb kdX5_same_1 rfl (lv_at hl 1 rfl) ?_
  refine lv_iconst (v := 0) hx hb kdX5_same_2 (by decide) ?_
  refine lv_bipush (v := 7) hx hb kdX5_same_3 (by decide) ?_
  obtain ⟨u_2, hu_2, h⟩ := kb_o_s h
  obtain ⟨r_1, rfl⟩ : ∃ z, z = u_2 := ⟨_, rfl⟩
  have hC := (show ([] : List Nat).map (fun i : Nat => (kWX5_same cB cI cL cBB cII cSh h_this a_this r_this_slot this_taped this_code this_kind this_rate this_filled this_total this_bitAt this_k this_e1 this_du this_dv f_this_length m_this_slot)[i]?) = List.map some (kWX5_in cB cI cL cBB cII cSh) from rfl)
  have hPc := kb_Psub hP ([] : List Nat) hC
  have hDc := kb_Dsub hD ([] : List Nat) hC (by simp [kb_nd])
  refine kb_call0 (va_runS (As := [.int p1, .int (0 : Int32), .int (7 : Int32)]) (rest := [.ref h_this]) C0 (kcX5_in l D cB cI cL cBB cII cSh  _ p1 (0 : Int32) (7 : Int32) r_1 hu_2) (va_cwS 3 hts (kb_gS km_807 km_808 km_6 km_809) rfl rfl rfl (by decide +kernel) ⟨Nat.le_of_ble_eq_true rfl, Nat.le_of_ble_eq_true rfl⟩) ⟨kb_P_bl, (fun U hU hW => ⟨rfl, by rw [hU], by rw [hU]; exact hPc, va_K.moved hW.alike hK, kb_N_to hW hN, hDc.weaken (fun _ _ _ _ => trivial)⟩)⟩ rfl rfl hl.1 rfl (lv_room (Nat.le_of_ble_eq_true rfl)) kdX5_same_5 ⟨Nat.le_of_ble_eq_true rfl, Nat.le_of_ble_eq_true rfl⟩) hP hD hS hA ([] : List Nat) hC rfl (fun H locs hP hD hS => ?_)
  have hP : va_P D kCl (kWX5_same cB cI cL cBB cII cSh h_this a_this r_this_slot this_taped this_code this_kind this_rate this_filled this_total this_bitAt this_k this_e1 this_du this_dv f_this_length m_this_slot) H := hP
  have hD : va_D A (kWX5_same cB cI cL cBB cII cSh h_this a_this r_this_slot this_taped this_code this_kind this_rate this_filled this_total this_bitAt this_k this_e1 this_du this_dv f_this_length m_this_slot) := hD
  refine lv_if_eq (tgt := 25) hx hb kdX5_same_8 (by decide) (fun c_3 => ?_) (fun c_3 => ?_)
  · have h := kb_b_t c_3 h
    exact kjX5_same_25 C0 hlocks hr hK hN hA h_this a_this r_this_slot p1 p2 this_taped this_code this_kind this_rate this_filled this_total this_bitAt this_k this_e1 this_du this_dv f_this_length m_this_slot _ h _ _ _ hP hD hS (lv_sub hl [0, 1, 2] rfl)
  · have h := kb_b_f c_3 h
    refine lv_iload_n hx hb kdX5_same_11 rfl (lv_at hl 2 rfl) ?_
    refine lv_iconst (v := 0) hx hb kdX5_same_12 (by decide) ?_
    refine lv_bipush (v := 7) hx hb kdX5_same_13 (by decide) ?_
    obtain ⟨u_25, hu_25, h⟩ := kb_o_s h
    obtain ⟨r_24, rfl⟩ : ∃ z, z = u_25 := ⟨_, rfl⟩
    have hC := (show ([] : List Nat).map (fun i : Nat => (kWX5_same cB cI cL cBB cII cSh h_this a_this r_this_slot this_taped this_code this_kind this_rate this_filled this_total this_bitAt this_k this_e1 this_du this_dv f_this_length m_this_slot)[i]?) = List.map some (kWX5_in cB cI cL cBB cII cSh) from rfl)
    have hPc := kb_Psub hP ([] : List Nat) hC
    have hDc := kb_Dsub hD ([] : List Nat) hC (by simp [kb_nd])
    refine kb_call0 (va_runS (As := [.int p2, .int (0 : Int32), .int (7 : Int32)]) (rest := [.ref h_this]) C0 (kcX5_in l D cB cI cL cBB cII cSh  _ p2 (0 : Int32) (7 : Int32) r_24 hu_25) (va_cwS 3 hts (kb_gS km_807 km_808 km_6 km_809) rfl rfl rfl (by decide +kernel) ⟨Nat.le_of_ble_eq_true rfl, Nat.le_of_ble_eq_true rfl⟩) ⟨kb_P_bl, (fun U hU hW => ⟨rfl, by rw [hU], by rw [hU]; exact hPc, va_K.moved hW.alike hK, kb_N_to hW hN, hDc.weaken (fun _ _ _ _ => trivial)⟩)⟩ rfl rfl hl.1 rfl (lv_room (Nat.le_of_ble_eq_true rfl)) kdX5_same_15 ⟨Nat.le_of_ble_eq_true rfl, Nat.le_of_ble_eq_true rfl⟩) hP hD hS hA ([] : List Nat) hC rfl (fun H locs hP hD hS => ?_)
    have hP : va_P D kCl (kWX5_same cB cI cL cBB cII cSh h_this a_this r_this_slot this_taped this_code this_kind this_rate this_filled this_total this_bitAt this_k this_e1 this_du this_dv f_this_length m_this_slot) H := hP
    have hD : va_D A (kWX5_same cB cI cL cBB cII cSh h_this a_this r_this_slot this_taped this_code this_kind this_rate this_filled this_total this_bitAt this_k this_e1 this_du this_dv f_this_length m_this_slot) := hD
    refine lv_if_eq (tgt := 25) hx hb kdX5_same_18 (by decide) (fun c_26 => ?_) (fun c_26 => ?_)
    · have h := kb_b_t c_26 h
      exact kjX5_same_25 C0 hlocks hr hK hN hA h_this a_this r_this_slot p1 p2 this_taped this_code this_kind this_rate this_filled this_total this_bitAt this_k this_e1 this_du this_dv f_this_length m_this_slot _ h _ _ _ hP hD hS (lv_sub hl [0, 1, 2] rfl)
    · have h := kb_b_f c_26 h
      refine lv_iconst (v := 1) hx hb kdX5_same_21 (by decide) ?_
      refine lv_goto (tgt := 26) hx hb kdX5_same_22 (by decide) ?_
      exact kjX5_same_26 C0 hlocks hr hK hN hA h_this a_this r_this_slot p1 p2 this_taped this_code this_kind this_rate this_filled this_total this_bitAt this_k this_e1 this_du this_dv f_this_length m_this_slot (1 : Int32) _ h _ _ _ hP hD hS (lv_sub hl [0, 1, 2] rfl)

-- 419.ModuleKemModel.move.lean.txt
abbrev kWX5_move (cB cI cL cBB cII cSh : ClassId) (h_a1 : Nat) (n_a1 : Nat) (h_a3 : Nat) (n_a3 : Nat) (f_a1 : Nat → Int32) (f_a3 : Nat → Int32) : va_W := [(h_a1, .inl (cB, n_a1, .inl f_a1)), (h_a3, .inl (cB, n_a3, .inl f_a3))]
def krX5_move : Room := { frames := 0, cells := 0, slots := 0, locals := 0 }
set_option maxHeartbeats 4000000 in
set_option maxRecDepth 100000 in
theorem klX5_move_3 {p : Program} {l : Launch} {e : Env} {s : State} {m : MethodId} {args : Array Value} {below : List Frame} {meth : Method} {c : Code} {cells slots : Nat} {Q : State → Prop} {D : va_G} {cB cI cL cBB cII cSh : ClassId} {A : Nat → Prop} (C0 : CallFix p m c prog_8_method_14_code 6 s args kwA kRX5) (hlocks : meth.locks = false) (hK : va_K D kCl (kb_T cB cI cL cBB cII cSh) s) (hN : kb_N s) (hA : ∀ q, s.heap.size ≤ q → A q) (hcR : cells ≤ krX5_move.cells) (hsR : slots ≤ krX5_move.slots) (h_a1 h_a3 : Nat) (p2 : Int32) (p4 : Int32) (p5 : Int32) (n_a1 : Nat) (n_a3 : Nat) (f_a1 : Nat → Int32) :
    ∀ (fuel : Nat) (x5p3 : Int32) (f_a3p3 : Nat → Int32) (r : Int32 × (Nat → Int32)), kb_w (fun u : Int32 × (Nat → Int32) => kSX5_move_3 p2 p4 p5 n_a1 n_a3 f_a1 u.1 u.2) fuel (x5p3, f_a3p3) = some r → ∀ (H : Heap) (locs : List Loc) (ls : Array Slot), va_P D kCl (kWX5_move cB cI cL cBB cII cSh h_a1 n_a1 h_a3 n_a3 f_a1 f_a3p3) H → va_D A (kWX5_move cB cI cL cBB cII cSh h_a1 n_a1 h_a3 n_a3 f_a1 f_a3p3) → va_S A s.heap H locs → lv_has ls 6 [(0, .ref h_a1), (1, .int p2), (2, .ref h_a3), (3, .int p4), (4, .int p5), (5, .int x5p3)] → (∀ (x5p3' : Int32) (f_a3p3' : Nat → Int32), r = (x5p3', f_a3p3') → ∀ (H : Heap) (locs : List Loc) (ls : Array Slot), va_P D kCl (kWX5_move cB cI cL cBB cII cSh h_a1 n_a1 h_a3 n_a3 f_a1 f_a3p3') H → va_D A (kWX5_move cB cI cL cBB cII cSh h_a1 n_a1 h_a3 n_a3 f_a1 f_a3p3') → va_S A s.heap H locs → lv_has ls 6 [(0, .ref h_a1), (1, .int p2), (2, .ref h_a3), (3, .int p4), (4, .int p5), (5, .int x5p3')] → W p l e krX5_move s m args below meth c H locs cells slots Q (F0 m 28 ls [])) → W p l e krX5_move s m args below meth c H locs cells slots Q (F0 m 3 ls []) := by
  obtain ⟨hx, hb, hml, hown, hts⟩ := id C0
  intro fuel
  induction fuel with
  | zero =>
    intro x5p3 f_a3p3 r h
    exact absurd h (kb_w_z _ _ _)
  | succ fuel ih =>
    intro x5p3 f_a3p3 r h H locs ls hP hD hS hl hk0
    obtain ⟨o, h, ho⟩ := kb_w_s h
    have h : kSX5_move_3 p2 p4 p5 n_a1 n_a3 f_a1 x5p3 f_a3p3 = some o := h
    unfold kSX5_move_3 at h
    refine lv_iload hx hb kdX5_move_3 (lv_at hl 5 rfl) ?_
    refine lv_iload hx hb kdX5_move_5 (lv_at hl 4 rfl) ?_
    refine lv_icmp_ge (tgt := 28) hx hb kdX5_move_7 (by decide) (fun c_1 => ?_) (fun c_1 => ?_)
    · have h := kb_b_t c_1 h
      obtain rfl := Option.some.inj h
      exact hk0 x5p3 f_a3p3 ho.symm _ _ _ hP hD hS (lv_sub hl [0, 1, 2, 3, 4, 5] rfl)
    · have h := kb_b_f c_1 h
      refine lv_aload_n hx hb kdX5_move_10 rfl (lv_at hl 2 rfl) ?_
      refine lv_iload_n hx hb kdX5_move_11 rfl (lv_at hl 3 rfl) ?_
      refine lv_iload hx hb kdX5_move_12 (lv_at hl 5 rfl) ?_
      refine lv_iadd hx hb kdX5_move_14 ?_
      refine lv_aload_n hx hb kdX5_move_15 rfl (lv_at hl 0 rfl) ?_
      refine lv_iload_n hx hb kdX5_move_16 rfl (lv_at hl 1 rfl) ?_
      refine lv_iload hx hb kdX5_move_17 (lv_at hl 5 rfl) ?_
      refine lv_iadd hx hb kdX5_move_19 ?_
      obtain ⟨g_2, h⟩ := kb_g_s h
      refine va_bald hx hb hK hP 0 0 rfl rfl (kb_in_v g_2) kdX5_move_20 ?_
      obtain ⟨g_3, h⟩ := kb_g_s h
      refine va_bast hx hb hK hP hD hS 1 0 rfl rfl (kb_in_v g_3) kdX5_move_21 (fun H locs hP hD hS => ?_)
      obtain ⟨f_4, ef_4⟩ : ∃ y, y = upd f_a3p3 (p4 + x5p3).toNatClampNeg (vp_nar .byte (f_a1 (p2 + x5p3).toNatClampNeg)) := ⟨_, rfl⟩
      have h := kb_n_s ef_4 h
      have hP : va_P D kCl (kWX5_move cB cI cL cBB cII cSh h_a1 n_a1 h_a3 n_a3 f_a1 f_4) H := by rw [ef_4]; exact hP
      have hD : va_D A (kWX5_move cB cI cL cBB cII cSh h_a1 n_a1 h_a3 n_a3 f_a1 f_4) := by rw [ef_4]; exact hD
      obtain ⟨x5_5, ex5_5⟩ : ∃ y : Int32, y = x5p3 + Int32.ofInt 1 := ⟨_, rfl⟩
      have h := kb_n_s ex5_5 h
      refine lv_iinc (v := x5_5) (lv' := [(5, .int x5_5), (0, .ref h_a1), (1, .int p2), (2, .ref h_a3), (3, .int p4), (4, .int p5)]) hx hb kdX5_move_22 hl (k := 5) rfl ex5_5.symm (by decide) rfl (fun ls hl => ?_)
      refine lv_goto (tgt := 3) hx hb kdX5_move_25 (by decide) ?_
      obtain rfl := Option.some.inj h
      exact ih x5_5 f_4 r ho _ _ _ hP hD hS (lv_sub hl [1, 2, 3, 4, 5, 0] rfl) hk0
set_option maxHeartbeats 4000000 in
set_option maxRecDepth 100000 in
theorem kcX5_move (l : Launch) (D : va_G) (cB cI cL cBB cII cSh : ClassId) (h_a1 h_a3 : Nat) (sz : Nat) (p2 : Int32) (p4 : Int32) (p5 : Int32) (n_a1 : Nat) (n_a3 : Nat) (f_a1 : Nat → Int32) (f_a3 : Nat → Int32) (out : (Nat → Int32)) (h : kFX5_move p2 p4 p5 n_a1 n_a3 f_a1 f_a3 = some out) : Met l kyX5_move kwX5_move krX5_move (kb_P D kCl (kb_T cB cI cL cBB cII cSh) [.ref h_a1, .int p2, .ref h_a3, .int p4, .int p5] (kWX5_move cB cI cL cBB cII cSh h_a1 n_a1 h_a3 n_a3 f_a1 f_a3) sz) (kb_Q D kCl (kb_T cB cI cL cBB cII cSh) (va_A (kWX5_move cB cI cL cBB cII cSh h_a1 n_a1 h_a3 n_a3 f_a1 f_a3) sz) none (kWX5_move cB cI cL cBB cII cSh h_a1 n_a1 h_a3 n_a3 f_a1 out)) 0 0 (va_A (kWX5_move cB cI cL cBB cII cSh h_a1 n_a1 h_a3 n_a3 f_a1 f_a3) sz) := by
  refine Met.ofW (cc := prog_8_method_14_code) (maxL := 6) (ret := none) (by decide) rfl ?_
  intro p e s m args below meth c s₁ B hml hv
  obtain ⟨rfl, hsz, hP, hK, hN, hD0⟩ := hv
  have hx := B.exec
  have hb := B.bytes
  have hr := B.returns
  have hts0 := atoms_spec (ws := kwX5_move) B.pre
  have hts : ∀ w ∈ kwA, w.before _ s = true := fun w h => hts0 w (List.mem_cons_of_mem _ h)
  have hown : s.vm.findClass kRX5 = some m.cls := findClass_of_methodNamed B.named
  have hlocks := B.notSynchronized
  subst hsz
  have hD := hD0.self (sz := s.heap.size)
  generalize hAe : va_A (kWX5_move cB cI cL cBB cII cSh h_a1 n_a1 h_a3 n_a3 f_a1 f_a3) s.heap.size = A at hD ⊢
  have hA : ∀ q : Nat, s.heap.size ≤ q → A q := fun q h => by rw [← hAe]; exact Or.inr h
  have hS : va_S A s.heap s.heap [] := va_S.rf
  have C0 : CallFix p m c prog_8_method_14_code 6 s _ kwA kRX5 := ⟨hx, hb, hml, hown, hts⟩
  have hl := lv_entry ([.ref h_a1, .int p2, .ref h_a3, .int p4, .int p5]) (n := 6) (Nat.le_of_ble_eq_true rfl)
  rw [lg_entry_eq]
  generalize (lg_sl ([.ref h_a1, .int p2, .ref h_a3, .int p4, .int p5]) ++ List.replicate (6 - (lg_sl ([.ref h_a1, .int p2, .ref h_a3, .int p4, .int p5])).length) Slot.unset).toArray = ls at hl ⊢
  have hl : lv_has ls 6 [(0, .ref h_a1), (1, .int p2), (2, .ref h_a3), (3, .int p4), (4, .int p5)] := hl
  unfold kFX5_move at h
  refine lv_iconst (v := 0) hx hb kdX5_move_0 (by decide) ?_
  refine lv_istore (lv' := [(5, .int (0 : Int32)), (0, .ref h_a1), (1, .int p2), (2, .ref h_a3), (3, .int p4), (4, .int p5)]) hx hb kdX5_move_1 hl (by decide) rfl (fun ls hl => ?_)
  obtain ⟨r_8, hr_8, h⟩ := kb_o_s h
  refine klX5_move_3 C0 hlocks hK hN hA (by decide) (by decide) h_a1 h_a3 p2 p4 p5 n_a1 n_a3 f_a1 100000 (0 : Int32) f_a3 r_8 hr_8 _ _ _ hP hD hS (lv_sub hl [1, 2, 3, 4, 5, 0] rfl) (fun x5p3_6 f_a3p3_7 er_8 H locs ls hP hD hS hl => ?_)
  subst er_8
  obtain rfl := Option.some.inj h
  exact W.vret hx hb hr (fun t ht hW => ⟨⟨rfl, by rw [ht]; exact hP, va_K.moved hW.alike hK, hD⟩, hS.F ht⟩) hS.2.2 kdX5_move_28

-- 420.ModuleKemModel.alike.lean.txt
abbrev kWX5_alike (cB cI cL cBB cII cSh : ClassId) (h_a1 : Nat) (n_a1 : Nat) (h_a3 : Nat) (n_a3 : Nat) (f_a1 : Nat → Int32) (f_a3 : Nat → Int32) : va_W := [(h_a1, .inl (cB, n_a1, .inl f_a1)), (h_a3, .inl (cB, n_a3, .inl f_a3))]
def krX5_alike : Room := { frames := 0, cells := 0, slots := 0, locals := 0 }
set_option maxHeartbeats 4000000 in
set_option maxRecDepth 100000 in
theorem klX5_alike_6 {p : Program} {l : Launch} {e : Env} {s : State} {m : MethodId} {args : Array Value} {below : List Frame} {meth : Method} {c : Code} {cells slots : Nat} {Q : State → Prop} {D : va_G} {cB cI cL cBB cII cSh : ClassId} {A : Nat → Prop} (C0 : CallFix p m c prog_8_method_15_code 7 s args kwA kRX5) (hlocks : meth.locks = false) (hK : va_K D kCl (kb_T cB cI cL cBB cII cSh) s) (hN : kb_N s) (hA : ∀ q, s.heap.size ≤ q → A q) (hcR : cells ≤ krX5_alike.cells) (hsR : slots ≤ krX5_alike.slots) (h_a1 h_a3 : Nat) (p2 : Int32) (p4 : Int32) (p5 : Int32) (n_a1 : Nat) (n_a3 : Nat) (f_a1 : Nat → Int32) (f_a3 : Nat → Int32) :
    ∀ (fuel : Nat) (x5p6 : Int32) (x6p6 : Int32) (r : Int32 × Int32), kb_w (fun u : Int32 × Int32 => kSX5_alike_6 p2 p4 p5 n_a1 n_a3 f_a1 f_a3 u.1 u.2) fuel (x5p6, x6p6) = some r → ∀ (H : Heap) (locs : List Loc) (ls : Array Slot), va_P D kCl (kWX5_alike cB cI cL cBB cII cSh h_a1 n_a1 h_a3 n_a3 f_a1 f_a3) H → va_D A (kWX5_alike cB cI cL cBB cII cSh h_a1 n_a1 h_a3 n_a3 f_a1 f_a3) → va_S A s.heap H locs → lv_has ls 7 [(0, .ref h_a1), (1, .int p2), (2, .ref h_a3), (3, .int p4), (4, .int p5), (5, .int x5p6), (6, .int x6p6)] → (∀ (x5p6' : Int32) (x6p6' : Int32), r = (x5p6', x6p6') → ∀ (H : Heap) (locs : List Loc) (ls : Array Slot), va_P D kCl (kWX5_alike cB cI cL cBB cII cSh h_a1 n_a1 h_a3 n_a3 f_a1 f_a3) H → va_D A (kWX5_alike cB cI cL cBB cII cSh h_a1 n_a1 h_a3 n_a3 f_a1 f_a3) → va_S A s.heap H locs → lv_has ls 7 [(0, .ref h_a1), (1, .int p2), (2, .ref h_a3), (3, .int p4), (4, .int p5), (5, .int x5p6'), (6, .int x6p6')] → W p l e krX5_alike s m args below meth c H locs cells slots Q (F0 m 37 ls [])) → W p l e krX5_alike s m args below meth c H locs cells slots Q (F0 m 6 ls []) := by
  obtain ⟨hx, hb, hml, hown, hts⟩ := id C0
  intro fuel
  induction fuel with
  | zero =>
    intro x5p6 x6p6 r h
    exact absurd h (kb_w_z _ _ _)
  | succ fuel ih =>
    intro x5p6 x6p6 r h H locs ls hP hD hS hl hk0
    obtain ⟨o, h, ho⟩ := kb_w_s h
    have h : kSX5_alike_6 p2 p4 p5 n_a1 n_a3 f_a1 f_a3 x5p6 x6p6 = some o := h
    unfold kSX5_alike_6 at h
    refine lv_iload hx hb kdX5_alike_6 (lv_at hl 6 rfl) ?_
    refine lv_iload hx hb kdX5_alike_8 (lv_at hl 4 rfl) ?_
    refine lv_icmp_ge (tgt := 37) hx hb kdX5_alike_10 (by decide) (fun c_1 => ?_) (fun c_1 => ?_)
    · have h := kb_b_t c_1 h
      obtain rfl := Option.some.inj h
      exact hk0 x5p6 x6p6 ho.symm _ _ _ hP hD hS (lv_sub hl [0, 1, 2, 3, 4, 5, 6] rfl)
    · have h := kb_b_f c_1 h
      refine lv_aload_n hx hb kdX5_alike_13 rfl (lv_at hl 0 rfl) ?_
      refine lv_iload_n hx hb kdX5_alike_14 rfl (lv_at hl 1 rfl) ?_
      refine lv_iload hx hb kdX5_alike_15 (lv_at hl 6 rfl) ?_
      refine lv_iadd hx hb kdX5_alike_17 ?_
      obtain ⟨g_2, h⟩ := kb_g_s h
      refine va_bald hx hb hK hP 0 0 rfl rfl (kb_in_v g_2) kdX5_alike_18 ?_
      refine lv_aload_n hx hb kdX5_alike_19 rfl (lv_at hl 2 rfl) ?_
      refine lv_iload_n hx hb kdX5_alike_20 rfl (lv_at hl 3 rfl) ?_
      refine lv_iload hx hb kdX5_alike_21 (lv_at hl 6 rfl) ?_
      refine lv_iadd hx hb kdX5_alike_23 ?_
      obtain ⟨g_3, h⟩ := kb_g_s h
      refine va_bald hx hb hK hP 1 0 rfl rfl (kb_in_v g_3) kdX5_alike_24 ?_
      refine lv_icmp_eq (tgt := 31) hx hb kdX5_alike_25 (by decide) (fun c_4 => ?_) (fun c_4 => ?_)
      · have h := kb_b_t c_4 h
        obtain ⟨x6_5, ex6_5⟩ : ∃ y : Int32, y = x6p6 + Int32.ofInt 1 := ⟨_, rfl⟩
        have h := kb_n_s ex6_5 h
        refine lv_iinc (v := x6_5) (lv' := [(6, .int x6_5), (0, .ref h_a1), (1, .int p2), (2, .ref h_a3), (3, .int p4), (4, .int p5), (5, .int x5p6)]) hx hb kdX5_alike_31 hl (k := 6) rfl ex6_5.symm (by decide) rfl (fun ls hl => ?_)
        refine lv_goto (tgt := 6) hx hb kdX5_alike_34 (by decide) ?_
        obtain rfl := Option.some.inj h
        exact ih x5p6 x6_5 r ho _ _ _ hP hD hS (lv_sub hl [1, 2, 3, 4, 5, 6, 0] rfl) hk0
      · have h := kb_b_f c_4 h
        refine lv_iconst (v := 0) hx hb kdX5_alike_28 (by decide) ?_
        refine lv_istore (lv' := [(5, .int (0 : Int32)), (0, .ref h_a1), (1, .int p2), (2, .ref h_a3), (3, .int p4), (4, .int p5), (6, .int x6p6)]) hx hb kdX5_alike_29 hl (by decide) rfl (fun ls hl => ?_)
        obtain ⟨x6_6, ex6_6⟩ : ∃ y : Int32, y = x6p6 + Int32.ofInt 1 := ⟨_, rfl⟩
        have h := kb_n_s ex6_6 h
        refine lv_iinc (v := x6_6) (lv' := [(6, .int x6_6), (5, .int (0 : Int32)), (0, .ref h_a1), (1, .int p2), (2, .ref h_a3), (3, .int p4), (4, .int p5)]) hx hb kdX5_alike_31 hl (k := 6) rfl ex6_6.symm (by decide) rfl (fun ls hl => ?_)
        refine lv_goto (tgt := 6) hx hb kdX5_alike_34 (by decide) ?_
        obtain rfl := Option.some.inj h
        exact ih (0 : Int32) x6_6 r ho _ _ _ hP hD hS (lv_sub hl [2, 3, 4, 5, 6, 1, 0] rfl) hk0
set_option maxHeartbeats 4000000 in
set_option maxRecDepth 100000 in
theorem kcX5_alike (l : Launch) (D : va_G) (cB cI cL cBB cII cSh : ClassId) (h_a1 h_a3 : Nat) (sz : Nat) (p2 : Int32) (p4 : Int32) (p5 : Int32) (n_a1 : Nat) (n_a3 : Nat) (f_a1 : Nat → Int32) (f_a3 : Nat → Int32) (out : Int32) (h : kFX5_alike p2 p4 p5 n_a1 n_a3 f_a1 f_a3 = some out) : Met l kyX5_alike kwX5_alike krX5_alike (kb_P D kCl (kb_T cB cI cL cBB cII cSh) [.ref h_a1, .int p2, .ref h_a3, .int p4, .int p5] (kWX5_alike cB cI cL cBB cII cSh h_a1 n_a1 h_a3 n_a3 f_a1 f_a3) sz) (kb_Q D kCl (kb_T cB cI cL cBB cII cSh) (va_A (kWX5_alike cB cI cL cBB cII cSh h_a1 n_a1 h_a3 n_a3 f_a1 f_a3) sz) (some (.int out)) (kWX5_alike cB cI cL cBB cII cSh h_a1 n_a1 h_a3 n_a3 f_a1 f_a3)) 0 0 (va_A (kWX5_alike cB cI cL cBB cII cSh h_a1 n_a1 h_a3 n_a3 f_a1 f_a3) sz) := by
  refine Met.ofW (cc := prog_8_method_15_code) (maxL := 7) (ret := (some .boolean)) (by decide) rfl ?_
  intro p e s m args below meth c s₁ B hml hv
  obtain ⟨rfl, hsz, hP, hK, hN, hD0⟩ := hv
  have hx := B.exec
  have hb := B.bytes
  have hr := B.returns
  have hts0 := atoms_spec (ws := kwX5_alike) B.pre
  have hts : ∀ w ∈ kwA, w.before _ s = true := fun w h => hts0 w (List.mem_cons_of_mem _ h)
  have hown : s.vm.findClass kRX5 = some m.cls := findClass_of_methodNamed B.named
  have hlocks := B.notSynchronized
  subst hsz
  have hD := hD0.self (sz := s.heap.size)
  generalize hAe : va_A (kWX5_alike cB cI cL cBB cII cSh h_a1 n_a1 h_a3 n_a3 f_a1 f_a3) s.heap.size = A at hD ⊢
  have hA : ∀ q : Nat, s.heap.size ≤ q → A q := fun q h => by rw [← hAe]; exact Or.inr h
  have hS : va_S A s.heap s.heap [] := va_S.rf
  have C0 : CallFix p m c prog_8_method_15_code 7 s _ kwA kRX5 := ⟨hx, hb, hml, hown, hts⟩
  have hl := lv_entry ([.ref h_a1, .int p2, .ref h_a3, .int p4, .int p5]) (n := 7) (Nat.le_of_ble_eq_true rfl)
  rw [lg_entry_eq]
  generalize (lg_sl ([.ref h_a1, .int p2, .ref h_a3, .int p4, .int p5]) ++ List.replicate (7 - (lg_sl ([.ref h_a1, .int p2, .ref h_a3, .int p4, .int p5])).length) Slot.unset).toArray = ls at hl ⊢
  have hl : lv_has ls 7 [(0, .ref h_a1), (1, .int p2), (2, .ref h_a3), (3, .int p4), (4, .int p5)] := hl
  unfold kFX5_alike at h
  refine lv_iconst (v := 1) hx hb kdX5_alike_0 (by decide) ?_
  refine lv_istore (lv' := [(5, .int (1 : Int32)), (0, .ref h_a1), (1, .int p2), (2, .ref h_a3), (3, .int p4), (4, .int p5)]) hx hb kdX5_alike_1 hl (by decide) rfl (fun ls hl => ?_)
  refine lv_iconst (v := 0) hx hb kdX5_alike_3 (by decide) ?_
  refine lv_istore (lv' := [(6, .int (0 : Int32)), (5, .int (1 : Int32)), (0, .ref h_a1), (1, .int p2), (2, .ref h_a3), (3, .int p4), (4, .int p5)]) hx hb kdX5_alike_4 hl (by decide) rfl (fun ls hl => ?_)
  obtain ⟨r_10, hr_10, h⟩ := kb_o_s h
  refine klX5_alike_6 C0 hlocks hK hN hA (by decide) (by decide) h_a1 h_a3 p2 p4 p5 n_a1 n_a3 f_a1 f_a3 100000 (1 : Int32) (0 : Int32) r_10 hr_10 _ _ _ hP hD hS (lv_sub hl [2, 3, 4, 5, 6, 1, 0] rfl) (fun x5p6_7 x6p6_8 er_10 H locs ls hP hD hS hl => ?_)
  subst er_10
  refine lv_iload hx hb kdX5_alike_37 (lv_at hl 5 rfl) ?_
  obtain ⟨g_9, h⟩ := kb_g_s h
  obtain rfl := Option.some.inj h
  exact W.zret (v := x5p6_7) (ty := .boolean) hx hb hr (kb_z_n g_9) (fun t ht hW => ⟨⟨rfl, by rw [ht]; exact hP, va_K.moved hW.alike hK, hD⟩, hS.F ht⟩) hS.2.2 kdX5_alike_39

-- 421.ModuleKemModel.prime.lean.txt
abbrev kWX5_prime (cB cI cL cBB cII cSh : ClassId)   : va_W := []
def krX5_prime : Room := { frames := 0, cells := 0, slots := 0, locals := 0 }
set_option maxHeartbeats 4000000 in
set_option maxRecDepth 100000 in
theorem klX5_prime_2 {p : Program} {l : Launch} {e : Env} {s : State} {m : MethodId} {args : Array Value} {below : List Frame} {meth : Method} {c : Code} {cells slots : Nat} {Q : State → Prop} {D : va_G} {cB cI cL cBB cII cSh : ClassId} {A : Nat → Prop} (C0 : CallFix p m c prog_8_method_16_code 2 s args kwA kRX5) (hlocks : meth.locks = false) (hK : va_K D kCl (kb_T cB cI cL cBB cII cSh) s) (hN : kb_N s) (hA : ∀ q, s.heap.size ≤ q → A q) (hcR : cells ≤ krX5_prime.cells) (hsR : slots ≤ krX5_prime.slots)  (p1 : Int32) :
    ∀ (fuel : Nat) (x1p2 : Int32) (r : (Int32) ⊕ (Int32)), kb_w (fun u : Int32 => kSX5_prime_2 p1 u) fuel x1p2 = some r → ∀ (H : Heap) (locs : List Loc) (ls : Array Slot), va_P D kCl (kWX5_prime cB cI cL cBB cII cSh) H → va_D A (kWX5_prime cB cI cL cBB cII cSh) → va_S A s.heap H locs → lv_has ls 2 [(0, .int p1), (1, .int x1p2)] → (∀ (x1p2' : Int32), r = .inl x1p2' → ∀ (H : Heap) (locs : List Loc) (ls : Array Slot), va_P D kCl (kWX5_prime cB cI cL cBB cII cSh) H → va_D A (kWX5_prime cB cI cL cBB cII cSh) → va_S A s.heap H locs → lv_has ls 2 [(0, .int p1), (1, .int x1p2')] → W p l e krX5_prime s m args below meth c H locs cells slots Q (F0 m 15 ls [])) → (∀ (x1p2' : Int32), r = .inr x1p2' → ∀ (H : Heap) (locs : List Loc) (ls : Array Slot), va_P D kCl (kWX5_prime cB cI cL cBB cII cSh) H → va_D A (kWX5_prime cB cI cL cBB cII cSh) → va_S A s.heap H locs → lv_has ls 2 [(0, .int p1), (1, .int x1p2')] → W p l e krX5_prime s m args below meth c H locs cells slots Q (F0 m 23 ls [])) → W p l e krX5_prime s m args below meth c H locs cells slots Q (F0 m 2 ls []) := by
  obtain ⟨hx, hb, hml, hown, hts⟩ := id C0
  intro fuel
  induction fuel with
  | zero =>
    intro x1p2 r h
    exact absurd h (kb_w_z _ _ _)
  | succ fuel ih =>
    intro x1p2 r h H locs ls hP hD hS hl hk0 hk1
    obtain ⟨o, h, ho⟩ := kb_w_s h
    have h : kSX5_prime_2 p1 x1p2 = some o := h
    unfold kSX5_prime_2 at h
    refine lv_iload_n hx hb kdX5_prime_2 rfl (lv_at hl 1 rfl) ?_
    refine lv_iload_n hx hb kdX5_prime_3 rfl (lv_at hl 1 rfl) ?_
    refine lv_imul hx hb kdX5_prime_4 ?_
    refine lv_iload_n hx hb kdX5_prime_5 rfl (lv_at hl 0 rfl) ?_
    refine lv_icmp_gt (tgt := 23) hx hb kdX5_prime_6 (by decide) (fun c_1 => ?_) (fun c_1 => ?_)
    · have h := kb_b_t c_1 h
      obtain rfl := Option.some.inj h
      exact hk1 x1p2 ho.symm _ _ _ hP hD hS (lv_sub hl [0, 1] rfl)
    · have h := kb_b_f c_1 h
      refine lv_iload_n hx hb kdX5_prime_9 rfl (lv_at hl 0 rfl) ?_
      refine lv_iload_n hx hb kdX5_prime_10 rfl (lv_at hl 1 rfl) ?_
      obtain ⟨g_2, h⟩ := kb_g_s h
      refine lv_irem hx hb kdX5_prime_11 (of_decide_eq_true g_2) ?_
      refine lv_if_ne (tgt := 17) hx hb kdX5_prime_12 (by decide) (fun c_3 => ?_) (fun c_3 => ?_)
      · have h := kb_b_f c_3 h
        obtain ⟨x1_4, ex1_4⟩ : ∃ y : Int32, y = x1p2 + Int32.ofInt 1 := ⟨_, rfl⟩
        have h := kb_n_s ex1_4 h
        refine lv_iinc (v := x1_4) (lv' := [(1, .int x1_4), (0, .int p1)]) hx hb kdX5_prime_17 hl (k := 1) rfl ex1_4.symm (by decide) rfl (fun ls hl => ?_)
        refine lv_goto (tgt := 2) hx hb kdX5_prime_20 (by decide) ?_
        obtain rfl := Option.some.inj h
        exact ih x1_4 r ho _ _ _ hP hD hS (lv_sub hl [1, 0] rfl) hk0 hk1
      · have h := kb_b_t c_3 h
        obtain rfl := Option.some.inj h
        exact hk0 x1p2 ho.symm _ _ _ hP hD hS (lv_sub hl [0, 1] rfl)
set_option maxHeartbeats 4000000 in
set_option maxRecDepth 100000 in
theorem kcX5_prime (l : Launch) (D : va_G) (cB cI cL cBB cII cSh : ClassId)  (sz : Nat) (p1 : Int32) (out : Int32) (h : kFX5_prime p1 = some out) : Met l kyX5_prime kwX5_prime krX5_prime (kb_P D kCl (kb_T cB cI cL cBB cII cSh) [.int p1] (kWX5_prime cB cI cL cBB cII cSh) sz) (kb_Q D kCl (kb_T cB cI cL cBB cII cSh) (va_A (kWX5_prime cB cI cL cBB cII cSh) sz) (some (.int out)) (kWX5_prime cB cI cL cBB cII cSh)) 0 0 (va_A (kWX5_prime cB cI cL cBB cII cSh) sz) := by
  refine Met.ofW (cc := prog_8_method_16_code) (maxL := 2) (ret := (some .boolean)) (by decide) rfl ?_
  intro p e s m args below meth c s₁ B hml hv
  obtain ⟨rfl, hsz, hP, hK, hN, hD0⟩ := hv
  have hx := B.exec
  have hb := B.bytes
  have hr := B.returns
  have hts0 := atoms_spec (ws := kwX5_prime) B.pre
  have hts : ∀ w ∈ kwA, w.before _ s = true := fun w h => hts0 w (List.mem_cons_of_mem _ h)
  have hown : s.vm.findClass kRX5 = some m.cls := findClass_of_methodNamed B.named
  have hlocks := B.notSynchronized
  subst hsz
  have hD := hD0.self (sz := s.heap.size)
  generalize hAe : va_A (kWX5_prime cB cI cL cBB cII cSh) s.heap.size = A at hD ⊢
  have hA : ∀ q : Nat, s.heap.size ≤ q → A q := fun q h => by rw [← hAe]; exact Or.inr h
  have hS : va_S A s.heap s.heap [] := va_S.rf
  have C0 : CallFix p m c prog_8_method_16_code 2 s _ kwA kRX5 := ⟨hx, hb, hml, hown, hts⟩
  have hl := lv_entry ([.int p1]) (n := 2) (Nat.le_of_ble_eq_true rfl)
  rw [lg_entry_eq]
  generalize (lg_sl ([.int p1]) ++ List.replicate (2 - (lg_sl ([.int p1])).length) Slot.unset).toArray = ls at hl ⊢
  have hl : lv_has ls 2 [(0, .int p1)] := hl
  unfold kFX5_prime at h
  refine lv_iconst (v := 2) hx hb kdX5_prime_0 (by decide) ?_
  refine lv_istore_n (lv' := [(1, .int (2 : Int32)), (0, .int p1)]) hx hb kdX5_prime_1 rfl hl (by decide) rfl (fun ls hl => ?_)
  obtain ⟨r_7, hr_7, h⟩ := kb_o_s h
  refine klX5_prime_2 C0 hlocks hK hN hA (by decide) (by decide) p1 100000 (2 : Int32) r_7 hr_7 _ _ _ hP hD hS (lv_sub hl [1, 0] rfl) (fun x1p2_5 er_7 H locs ls hP hD hS hl => ?_) (fun x1p2_6 er_7 H locs ls hP hD hS hl => ?_)
  · subst er_7
    have h := kb_s_il h
    refine lv_iconst (v := 0) hx hb kdX5_prime_15 (by decide) ?_
    obtain rfl := Option.some.inj h
    exact W.zret (v := (0 : Int32)) (ty := .boolean) hx hb hr (by decide) (fun t ht hW => ⟨⟨rfl, by rw [ht]; exact hP, va_K.moved hW.alike hK, hD⟩, hS.F ht⟩) hS.2.2 kdX5_prime_16
  · subst er_7
    have h := kb_s_ir h
    refine lv_iconst (v := 1) hx hb kdX5_prime_23 (by decide) ?_
    obtain rfl := Option.some.inj h
    exact W.zret (v := (1 : Int32)) (ty := .boolean) hx hb hr (by decide) (fun t ht hW => ⟨⟨rfl, by rw [ht]; exact hP, va_K.moved hW.alike hK, hD⟩, hS.F ht⟩) hS.2.2 kdX5_prime_24

-- 422.ModuleKemModel.above.lean.txt
abbrev kWX5_above (cB cI cL cBB cII cSh : ClassId) (h_this : Nat) (a_this : Nat → Nat) (this_taped : Int32) (this_code : Int32) (this_kind : Int32) (this_rate : Int32) (this_filled : Int32) (this_total : Int64) (this_bitAt : Int32) (this_k : Int32) (this_e1 : Int32) (this_du : Int32) (this_dv : Int32) (f_this_limbs : Nat → Int64) (f_this_product : Nat → Int64) : va_W := [(h_this, koX5 a_this this_taped this_code this_kind this_rate this_filled this_total this_bitAt this_k this_e1 this_du this_dv), ((a_this 9), .inl (cL, 16, .inr (.inl f_this_limbs))), ((a_this 10), .inl (cL, 16, .inr (.inl f_this_product)))]
def krX5_above : Room := { frames := 0, cells := 0, slots := 0, locals := 0 }
set_option maxHeartbeats 4000000 in
set_option maxRecDepth 100000 in
theorem klX5_above_3 {p : Program} {l : Launch} {e : Env} {s : State} {m : MethodId} {args : Array Value} {below : List Frame} {meth : Method} {c : Code} {cells slots : Nat} {Q : State → Prop} {D : va_G} {cB cI cL cBB cII cSh : ClassId} {A : Nat → Prop} (C0 : CallFix p m c prog_8_method_17_code 10 s args kwA kRX5) (hlocks : meth.locks = false) (hK : va_K D kCl (kb_T cB cI cL cBB cII cSh) s) (hN : kb_N s) (hA : ∀ q, s.heap.size ≤ q → A q) (hcR : cells ≤ krX5_above.cells) (hsR : slots ≤ krX5_above.slots) (h_this : Nat) (a_this : Nat → Nat) (p1 : Int32) (p2 : Int64) (p3 : Int32) (p4 : Int32) (this_taped : Int32) (this_code : Int32) (this_kind : Int32) (this_rate : Int32) (this_filled : Int32) (this_total : Int64) (this_bitAt : Int32) (this_k : Int32) (this_e1 : Int32) (this_du : Int32) (this_dv : Int32) (f_this_limbs : Nat → Int64) :
    ∀ (fuel : Nat) (x6p3 : Int32) (f_this_productp3 : Nat → Int64) (r : Int32 × (Nat → Int64)), kb_w (fun u : Int32 × (Nat → Int64) => kSX5_above_3 u.1 u.2) fuel (x6p3, f_this_productp3) = some r → ∀ (H : Heap) (locs : List Loc) (ls : Array Slot), va_P D kCl (kWX5_above cB cI cL cBB cII cSh h_this a_this this_taped this_code this_kind this_rate this_filled this_total this_bitAt this_k this_e1 this_du this_dv f_this_limbs f_this_productp3) H → va_D A (kWX5_above cB cI cL cBB cII cSh h_this a_this this_taped this_code this_kind this_rate this_filled this_total this_bitAt this_k this_e1 this_du this_dv f_this_limbs f_this_productp3) → va_S A s.heap H locs → lv_has ls 10 [(0, .ref h_this), (1, .int p1), (2, .long p2), (4, .int p3), (5, .int p4), (6, .int x6p3)] → (∀ (x6p3' : Int32) (f_this_productp3' : Nat → Int64), r = (x6p3', f_this_productp3') → ∀ (H : Heap) (locs : List Loc) (ls : Array Slot), va_P D kCl (kWX5_above cB cI cL cBB cII cSh h_this a_this this_taped this_code this_kind this_rate this_filled this_total this_bitAt this_k this_e1 this_du this_dv f_this_limbs f_this_productp3') H → va_D A (kWX5_above cB cI cL cBB cII cSh h_this a_this this_taped this_code this_kind this_rate this_filled this_total this_bitAt this_k this_e1 this_du this_dv f_this_limbs f_this_productp3') → va_S A s.heap H locs → lv_has ls 10 [(0, .ref h_this), (1, .int p1), (2, .long p2), (4, .int p3), (5, .int p4), (6, .int x6p3')] → W p l e krX5_above s m args below meth c H locs cells slots Q (F0 m 33 ls [])) → W p l e krX5_above s m args below meth c H locs cells slots Q (F0 m 3 ls []) := by
  obtain ⟨hx, hb, hml, hown, hts⟩ := id C0
  intro fuel
  induction fuel with
  | zero =>
    intro x6p3 f_this_productp3 r h
    exact absurd h (kb_w_z _ _ _)
  | succ fuel ih =>
    intro x6p3 f_this_productp3 r h H locs ls hP hD hS hl hk0
    obtain ⟨o, h, ho⟩ := kb_w_s h
    have h : kSX5_above_3 x6p3 f_this_productp3 = some o := h
    unfold kSX5_above_3 at h
    refine lv_iload hx hb kdX5_above_3 (lv_at hl 5 rfl) ?_
    refine lv_bipush (v := 16) hx hb kdX5_above_5 (by decide) ?_
    refine lv_icmp_ge (tgt := 33) hx hb kdX5_above_7 (by decide) (fun c_1 => ?_) (fun c_1 => ?_)
    · have h := kb_b_t c_1 h
      obtain rfl := Option.some.inj h
      exact hk0 x6p3 f_this_productp3 ho.symm _ _ _ hP hD hS (lv_sub hl [0, 1, 2, 3, 4, 5] rfl)
    · have h := kb_b_f c_1 h
      refine lv_aload_n hx hb kdX5_above_10 rfl (lv_at hl 0 rfl) ?_
      refine va_get (ci := 5) (v := .ref (a_this 10)) (C := kRX5) (T := kTX5) (N := 35) hx hb hts kinX5 hown hK hP 0 rfl rfl 10 (by decide) (hts _ km_691) (fun _ h9 => h9) rfl kdX5_above_11 ?_
      refine lv_iload hx hb kdX5_above_14 (lv_at hl 5 rfl) ?_
      refine lv_iload hx hb kdX5_above_16 (lv_at hl 5 rfl) ?_
      refine lv_if_ne (tgt := 25) hx hb kdX5_above_18 (by decide) (fun c_2 => ?_) (fun c_2 => ?_)
      · have h := kb_b_f c_2 h
        refine lv_lconst (v := 0) hx hb kdX5_above_25 (by decide) ?_
        obtain ⟨g_3, h⟩ := kb_g_s h
        refine va_last hx hb hK hP hD hS 2 2 rfl rfl (kb_in_v g_3) kdX5_above_26 (fun H locs hP hD hS => ?_)
        obtain ⟨f_4, ef_4⟩ : ∃ y, y = vp_updL f_this_productp3 x6p3.toNatClampNeg (0 : Int64) := ⟨_, rfl⟩
        have h := kb_n_s ef_4 h
        have hP : va_P D kCl (kWX5_above cB cI cL cBB cII cSh h_this a_this this_taped this_code this_kind this_rate this_filled this_total this_bitAt this_k this_e1 this_du this_dv f_this_limbs f_4) H := by rw [ef_4]; exact hP
        have hD : va_D A (kWX5_above cB cI cL cBB cII cSh h_this a_this this_taped this_code this_kind this_rate this_filled this_total this_bitAt this_k this_e1 this_du this_dv f_this_limbs f_4) := by rw [ef_4]; exact hD
        obtain ⟨x6_5, ex6_5⟩ : ∃ y : Int32, y = x6p3 + Int32.ofInt 1 := ⟨_, rfl⟩
        have h := kb_n_s ex6_5 h
        refine lv_iinc (v := x6_5) (lv' := [(6, .int x6_5), (0, .ref h_this), (1, .int p1), (2, .long p2), (4, .int p3), (5, .int p4)]) hx hb kdX5_above_27 hl (k := 5) rfl ex6_5.symm (by decide) rfl (fun ls hl => ?_)
        refine lv_goto (tgt := 3) hx hb kdX5_above_30 (by decide) ?_
        obtain rfl := Option.some.inj h
        exact ih x6_5 f_4 r ho _ _ _ hP hD hS (lv_sub hl [1, 2, 3, 4, 5, 0] rfl) hk0
      · have h := kb_b_t c_2 h
        refine lv_lconst (v := 1) hx hb kdX5_above_21 (by decide) ?_
        refine lv_goto (tgt := 26) hx hb kdX5_above_22 (by decide) ?_
        obtain ⟨g_6, h⟩ := kb_g_s h
        refine va_last hx hb hK hP hD hS 2 2 rfl rfl (kb_in_v g_6) kdX5_above_26 (fun H locs hP hD hS => ?_)
        obtain ⟨f_7, ef_7⟩ : ∃ y, y = vp_updL f_this_productp3 x6p3.toNatClampNeg (1 : Int64) := ⟨_, rfl⟩
        have h := kb_n_s ef_7 h
        have hP : va_P D kCl (kWX5_above cB cI cL cBB cII cSh h_this a_this this_taped this_code this_kind this_rate this_filled this_total this_bitAt this_k this_e1 this_du this_dv f_this_limbs f_7) H := by rw [ef_7]; exact hP
        have hD : va_D A (kWX5_above cB cI cL cBB cII cSh h_this a_this this_taped this_code this_kind this_rate this_filled this_total this_bitAt this_k this_e1 this_du this_dv f_this_limbs f_7) := by rw [ef_7]; exact hD
        obtain ⟨x6_8, ex6_8⟩ : ∃ y : Int32, y = x6p3 + Int32.ofInt 1 := ⟨_, rfl⟩
        have h := kb_n_s ex6_8 h
        refine lv_iinc (v := x6_8) (lv' := [(6, .int x6_8), (0, .ref h_this), (1, .int p1), (2, .long p2), (4, .int p3), (5, .int p4)]) hx hb kdX5_above_27 hl (k := 5) rfl ex6_8.symm (by decide) rfl (fun ls hl => ?_)
        refine lv_goto (tgt := 3) hx hb kdX5_above_30 (by decide) ?_
        obtain rfl := Option.some.inj h
        exact ih x6_8 f_7 r ho _ _ _ hP hD hS (lv_sub hl [1, 2, 3, 4, 5, 0] rfl) hk0
set_option maxHeartbeats 4000000 in
set_option maxRecDepth 100000 in
theorem klX5_above_46 {p : Program} {l : Launch} {e : Env} {s : State} {m : MethodId} {args : Array Value} {below : List Frame} {meth : Method} {c : Code} {cells slots : Nat} {Q : State → Prop} {D : va_G} {cB cI cL cBB cII cSh : ClassId} {A : Nat → Prop} (C0 : CallFix p m c prog_8_method_17_code 10 s args kwA kRX5) (hlocks : meth.locks = false) (hK : va_K D kCl (kb_T cB cI cL cBB cII cSh) s) (hN : kb_N s) (hA : ∀ q, s.heap.size ≤ q → A q) (hcR : cells ≤ krX5_above.cells) (hsR : slots ≤ krX5_above.slots) (h_this : Nat) (a_this : Nat → Nat) (p1 : Int32) (p2 : Int64) (p3 : Int32) (p4 : Int32) (x6p36 : Int32) (this_taped : Int32) (this_code : Int32) (this_kind : Int32) (this_rate : Int32) (this_filled : Int32) (this_total : Int64) (this_bitAt : Int32) (this_k : Int32) (this_e1 : Int32) (this_du : Int32) (this_dv : Int32) (f_this_productp36 : Nat → Int64) :
    ∀ (fuel : Nat) (x7p46 : Int32) (f_this_limbsp46 : Nat → Int64) (r : Int32 × (Nat → Int64)), kb_w (fun u : Int32 × (Nat → Int64) => kSX5_above_46 u.1 u.2) fuel (x7p46, f_this_limbsp46) = some r → ∀ (H : Heap) (locs : List Loc) (ls : Array Slot), va_P D kCl (kWX5_above cB cI cL cBB cII cSh h_this a_this this_taped this_code this_kind this_rate this_filled this_total this_bitAt this_k this_e1 this_du this_dv f_this_limbsp46 f_this_productp36) H → va_D A (kWX5_above cB cI cL cBB cII cSh h_this a_this this_taped this_code this_kind this_rate this_filled this_total this_bitAt this_k this_e1 this_du this_dv f_this_limbsp46 f_this_productp36) → va_S A s.heap H locs → lv_has ls 10 [(0, .ref h_this), (1, .int p1), (2, .long p2), (4, .int p3), (5, .int p4), (6, .int x6p36), (7, .int x7p46)] → (∀ (x7p46' : Int32) (f_this_limbsp46' : Nat → Int64), r = (x7p46', f_this_limbsp46') → ∀ (H : Heap) (locs : List Loc) (ls : Array Slot), va_P D kCl (kWX5_above cB cI cL cBB cII cSh h_this a_this this_taped this_code this_kind this_rate this_filled this_total this_bitAt this_k this_e1 this_du this_dv f_this_limbsp46' f_this_productp36) H → va_D A (kWX5_above cB cI cL cBB cII cSh h_this a_this this_taped this_code this_kind this_rate this_filled this_total this_bitAt this_k this_e1 this_du this_dv f_this_limbsp46' f_this_productp36) → va_S A s.heap H locs → lv_has ls 10 [(0, .ref h_this), (1, .int p1), (2, .long p2), (4, .int p3), (5, .int p4), (6, .int x6p36), (7, .int x7p46')] → W p l e krX5_above s m args below meth c H locs cells slots Q (F0 m 67 ls [])) → W p l e krX5_above s m args below meth c H locs cells slots Q (F0 m 46 ls []) := by
  obtain ⟨hx, hb, hml, hown, hts⟩ := id C0
  intro fuel
  induction fuel with
  | zero =>
    intro x7p46 f_this_limbsp46 r h
    exact absurd h (kb_w_z _ _ _)
  | succ fuel ih =>
    intro x7p46 f_this_limbsp46 r h H locs ls hP hD hS hl hk0
    obtain ⟨o, h, ho⟩ := kb_w_s h
    have h : kSX5_above_46 x7p46 f_this_limbsp46 = some o := h
    unfold kSX5_above_46 at h
    refine lv_iload hx hb kdX5_above_46 (lv_at hl 6 rfl) ?_
    refine lv_bipush (v := 16) hx hb kdX5_above_48 (by decide) ?_
    refine lv_icmp_ge (tgt := 67) hx hb kdX5_above_50 (by decide) (fun c_12 => ?_) (fun c_12 => ?_)
    · have h := kb_b_t c_12 h
      obtain rfl := Option.some.inj h
      exact hk0 x7p46 f_this_limbsp46 ho.symm _ _ _ hP hD hS (lv_sub hl [0, 1, 2, 3, 4, 5, 6] rfl)
    · have h := kb_b_f c_12 h
      refine lv_aload_n hx hb kdX5_above_53 rfl (lv_at hl 0 rfl) ?_
      refine va_get (ci := 5) (v := .ref (a_this 9)) (C := kRX5) (T := kTX5) (N := 35) hx hb hts kinX5 hown hK hP 0 rfl rfl 9 (by decide) (hts _ km_690) (fun _ h9 => h9) rfl kdX5_above_54 ?_
      refine lv_iload hx hb kdX5_above_57 (lv_at hl 6 rfl) ?_
      refine lv_lconst (v := 0) hx hb kdX5_above_59 (by decide) ?_
      obtain ⟨g_13, h⟩ := kb_g_s h
      refine va_last hx hb hK hP hD hS 1 2 rfl rfl (kb_in_v g_13) kdX5_above_60 (fun H locs hP hD hS => ?_)
      obtain ⟨f_14, ef_14⟩ : ∃ y, y = vp_updL f_this_limbsp46 x7p46.toNatClampNeg (0 : Int64) := ⟨_, rfl⟩
      have h := kb_n_s ef_14 h
      have hP : va_P D kCl (kWX5_above cB cI cL cBB cII cSh h_this a_this this_taped this_code this_kind this_rate this_filled this_total this_bitAt this_k this_e1 this_du this_dv f_14 f_this_productp36) H := by rw [ef_14]; exact hP
      have hD : va_D A (kWX5_above cB cI cL cBB cII cSh h_this a_this this_taped this_code this_kind this_rate this_filled this_total this_bitAt this_k this_e1 this_du this_dv f_14 f_this_productp36) := by rw [ef_14]; exact hD
      obtain ⟨x7_15, ex7_15⟩ : ∃ y : Int32, y = x7p46 + Int32.ofInt 1 := ⟨_, rfl⟩
      have h := kb_n_s ex7_15 h
      refine lv_iinc (v := x7_15) (lv' := [(7, .int x7_15), (0, .ref h_this), (1, .int p1), (2, .long p2), (4, .int p3), (5, .int p4), (6, .int x6p36)]) hx hb kdX5_above_61 hl (k := 6) rfl ex7_15.symm (by decide) rfl (fun ls hl => ?_)
      refine lv_goto (tgt := 46) hx hb kdX5_above_64 (by decide) ?_
      obtain rfl := Option.some.inj h
      exact ih x7_15 f_14 r ho _ _ _ hP hD hS (lv_sub hl [1, 2, 3, 4, 5, 6, 0] rfl) hk0
set_option maxHeartbeats 4000000 in
set_option maxRecDepth 100000 in
theorem klX5_above_80 {p : Program} {l : Launch} {e : Env} {s : State} {m : MethodId} {args : Array Value} {below : List Frame} {meth : Method} {c : Code} {cells slots : Nat} {Q : State → Prop} {D : va_G} {cB cI cL cBB cII cSh : ClassId} {A : Nat → Prop} (C0 : CallFix p m c prog_8_method_17_code 10 s args kwA kRX5) (hlocks : meth.locks = false) (hK : va_K D kCl (kb_T cB cI cL cBB cII cSh) s) (hN : kb_N s) (hA : ∀ q, s.heap.size ≤ q → A q) (hcR : cells ≤ krX5_above.cells) (hsR : slots ≤ krX5_above.slots) (h_this : Nat) (a_this : Nat → Nat) (p1 : Int32) (p2 : Int64) (p3 : Int32) (p4 : Int32) (x6p36 : Int32) (x7p70 : Int32) (this_taped : Int32) (this_code : Int32) (this_kind : Int32) (this_rate : Int32) (this_filled : Int32) (this_total : Int64) (this_bitAt : Int32) (this_k : Int32) (this_e1 : Int32) (this_du : Int32) (this_dv : Int32) (f_this_productp36 : Nat → Int64) :
    ∀ (fuel : Nat) (x8p80 : Int32) (f_this_limbsp80 : Nat → Int64) (r : Int32 × (Nat → Int64)), kb_w (fun u : Int32 × (Nat → Int64) => kSX5_above_80 p1 p2 x7p70 f_this_productp36 u.1 u.2) fuel (x8p80, f_this_limbsp80) = some r → ∀ (H : Heap) (locs : List Loc) (ls : Array Slot), va_P D kCl (kWX5_above cB cI cL cBB cII cSh h_this a_this this_taped this_code this_kind this_rate this_filled this_total this_bitAt this_k this_e1 this_du this_dv f_this_limbsp80 f_this_productp36) H → va_D A (kWX5_above cB cI cL cBB cII cSh h_this a_this this_taped this_code this_kind this_rate this_filled this_total this_bitAt this_k this_e1 this_du this_dv f_this_limbsp80 f_this_productp36) → va_S A s.heap H locs → lv_has ls 10 [(0, .ref h_this), (1, .int p1), (2, .long p2), (4, .int p3), (5, .int p4), (6, .int x6p36), (7, .int x7p70), (8, .int x8p80)] → (∀ (x8p80' : Int32) (f_this_limbsp80' : Nat → Int64), r = (x8p80', f_this_limbsp80') → ∀ (H : Heap) (locs : List Loc) (ls : Array Slot), va_P D kCl (kWX5_above cB cI cL cBB cII cSh h_this a_this this_taped this_code this_kind this_rate this_filled this_total this_bitAt this_k this_e1 this_du this_dv f_this_limbsp80' f_this_productp36) H → va_D A (kWX5_above cB cI cL cBB cII cSh h_this a_this this_taped this_code this_kind this_rate this_filled this_total this_bitAt this_k this_e1 this_du this_dv f_this_limbsp80' f_this_productp36) → va_S A s.heap H locs → lv_has ls 10 [(0, .ref h_this), (1, .int p1), (2, .long p2), (4, .int p3), (5, .int p4), (6, .int x6p36), (7, .int x7p70), (8, .int x8p80')] → W p l e krX5_above s m args below meth c H locs cells slots Q (F0 m 145 ls [])) → W p l e krX5_above s m args below meth c H locs cells slots Q (F0 m 80 ls []) := by
  obtain ⟨hx, hb, hml, hown, hts⟩ := id C0
  intro fuel
  induction fuel with
  | zero =>
    intro x8p80 f_this_limbsp80 r h
    exact absurd h (kb_w_z _ _ _)
  | succ fuel ih =>
    intro x8p80 f_this_limbsp80 r h H locs ls hP hD hS hl hk0
    obtain ⟨o, h, ho⟩ := kb_w_s h
    have h : kSX5_above_80 p1 p2 x7p70 f_this_productp36 x8p80 f_this_limbsp80 = some o := h
    unfold kSX5_above_80 at h
    refine lv_iload hx hb kdX5_above_80 (lv_at hl 7 rfl) ?_
    refine lv_iconst (v := 5) hx hb kdX5_above_82 (by decide) ?_
    refine lv_icmp_ge (tgt := 145) hx hb kdX5_above_83 (by decide) (fun c_19 => ?_) (fun c_19 => ?_)
    · have h := kb_b_t c_19 h
      obtain rfl := Option.some.inj h
      exact hk0 x8p80 f_this_limbsp80 ho.symm _ _ _ hP hD hS (lv_sub hl [0, 1, 2, 3, 4, 5, 6, 7] rfl)
    · have h := kb_b_f c_19 h
      refine lv_iload hx hb kdX5_above_86 (lv_at hl 6 rfl) ?_
      refine lv_iload hx hb kdX5_above_88 (lv_at hl 7 rfl) ?_
      refine lv_iadd hx hb kdX5_above_90 ?_
      refine lv_bipush (v := 16) hx hb kdX5_above_91 (by decide) ?_
      refine lv_icmp_ge (tgt := 145) hx hb kdX5_above_93 (by decide) (fun c_20 => ?_) (fun c_20 => ?_)
      · have h := kb_b_t c_20 h
        obtain rfl := Option.some.inj h
        exact hk0 x8p80 f_this_limbsp80 ho.symm _ _ _ hP hD hS (lv_sub hl [0, 1, 2, 3, 4, 5, 6, 7] rfl)
      · have h := kb_b_f c_20 h
        refine lv_aload_n hx hb kdX5_above_96 rfl (lv_at hl 0 rfl) ?_
        refine va_get (ci := 5) (v := .ref (a_this 9)) (C := kRX5) (T := kTX5) (N := 35) hx hb hts kinX5 hown hK hP 0 rfl rfl 9 (by decide) (hts _ km_690) (fun _ h9 => h9) rfl kdX5_above_97 ?_
        refine lv_iload hx hb kdX5_above_100 (lv_at hl 6 rfl) ?_
        refine lv_iload hx hb kdX5_above_102 (lv_at hl 7 rfl) ?_
        refine lv_iadd hx hb kdX5_above_104 ?_
        refine lv_dup2_11 hx hb kdX5_above_105 rfl rfl ?_
        obtain ⟨g_21, h⟩ := kb_g_s h
        refine va_lald hx hb hK hP 1 2 rfl rfl (kb_in_v g_21) kdX5_above_106 ?_
        refine lv_aload_n hx hb kdX5_above_107 rfl (lv_at hl 0 rfl) ?_
        refine va_get (ci := 5) (v := .ref (a_this 10)) (C := kRX5) (T := kTX5) (N := 35) hx hb hts kinX5 hown hK hP 0 rfl rfl 10 (by decide) (hts _ km_691) (fun _ h9 => h9) rfl kdX5_above_108 ?_
        refine lv_iload hx hb kdX5_above_111 (lv_at hl 6 rfl) ?_
        obtain ⟨g_22, h⟩ := kb_g_s h
        refine va_lald hx hb hK hP 2 2 rfl rfl (kb_in_v g_22) kdX5_above_113 ?_
        refine lv_iload hx hb kdX5_above_114 (lv_at hl 7 rfl) ?_
        refine lv_iconst (v := 4) hx hb kdX5_above_116 (by decide) ?_
        refine lv_icmp_ge (tgt := 134) hx hb kdX5_above_117 (by decide) (fun c_23 => ?_) (fun c_23 => ?_)
        · have h := kb_b_t c_23 h
          refine lv_iload_n hx hb kdX5_above_134 rfl (lv_at hl 1 rfl) ?_
          refine lv_i2l (v := (p1.toInt64)) hx hb kdX5_above_135 rfl ?_
          refine lv_lmul hx hb kdX5_above_136 ?_
          refine lv_ladd hx hb kdX5_above_137 ?_
          obtain ⟨g_24, h⟩ := kb_g_s h
          refine va_last hx hb hK hP hD hS 1 2 rfl rfl (kb_in_v g_24) kdX5_above_138 (fun H locs hP hD hS => ?_)
          obtain ⟨f_25, ef_25⟩ : ∃ y, y = vp_updL f_this_limbsp80 (x7p70 + x8p80).toNatClampNeg ((f_this_limbsp80 (x7p70 + x8p80).toNatClampNeg) + ((f_this_productp36 x7p70.toNatClampNeg) * (p1.toInt64))) := ⟨_, rfl⟩
          have h := kb_n_s ef_25 h
          have hP : va_P D kCl (kWX5_above cB cI cL cBB cII cSh h_this a_this this_taped this_code this_kind this_rate this_filled this_total this_bitAt this_k this_e1 this_du this_dv f_25 f_this_productp36) H := by rw [ef_25]; exact hP
          have hD : va_D A (kWX5_above cB cI cL cBB cII cSh h_this a_this this_taped this_code this_kind this_rate this_filled this_total this_bitAt this_k this_e1 this_du this_dv f_25 f_this_productp36) := by rw [ef_25]; exact hD
          obtain ⟨x8_26, ex8_26⟩ : ∃ y : Int32, y = x8p80 + Int32.ofInt 1 := ⟨_, rfl⟩
          have h := kb_n_s ex8_26 h
          refine lv_iinc (v := x8_26) (lv' := [(8, .int x8_26), (0, .ref h_this), (1, .int p1), (2, .long p2), (4, .int p3), (5, .int p4), (6, .int x6p36), (7, .int x7p70)]) hx hb kdX5_above_139 hl (k := 7) rfl ex8_26.symm (by decide) rfl (fun ls hl => ?_)
          refine lv_goto (tgt := 80) hx hb kdX5_above_142 (by decide) ?_
          obtain rfl := Option.some.inj h
          exact ih x8_26 f_25 r ho _ _ _ hP hD hS (lv_sub hl [1, 2, 3, 4, 5, 6, 7, 0] rfl) hk0
        · have h := kb_b_f c_23 h
          refine lv_lload_n hx hb kdX5_above_120 rfl (lv_at hl 2 rfl) ?_
          refine lv_bipush (v := 16) hx hb kdX5_above_121 (by decide) ?_
          refine lv_iload hx hb kdX5_above_123 (lv_at hl 7 rfl) ?_
          refine lv_imul hx hb kdX5_above_125 ?_
          refine lv_lushr (v := ((p2.toUInt64 >>> (((16 : Int32) * x8p80).toInt64.toUInt64 &&& Int64.toUInt64 63)).toInt64)) hx hb kdX5_above_126 rfl ?_
          refine lv_ldc2 (v := 65535) hx hb hown (hts _ km_621) kdX5_above_127 ?_
          refine lv_land hx hb kdX5_above_130 ?_
          refine lv_goto (tgt := 136) hx hb kdX5_above_131 (by decide) ?_
          refine lv_lmul hx hb kdX5_above_136 ?_
          refine lv_ladd hx hb kdX5_above_137 ?_
          obtain ⟨g_27, h⟩ := kb_g_s h
          refine va_last hx hb hK hP hD hS 1 2 rfl rfl (kb_in_v g_27) kdX5_above_138 (fun H locs hP hD hS => ?_)
          obtain ⟨f_28, ef_28⟩ : ∃ y, y = vp_updL f_this_limbsp80 (x7p70 + x8p80).toNatClampNeg ((f_this_limbsp80 (x7p70 + x8p80).toNatClampNeg) + ((f_this_productp36 x7p70.toNatClampNeg) * (((p2.toUInt64 >>> (((16 : Int32) * x8p80).toInt64.toUInt64 &&& Int64.toUInt64 63)).toInt64) &&& (65535 : Int64)))) := ⟨_, rfl⟩
          have h := kb_n_s ef_28 h
          have hP : va_P D kCl (kWX5_above cB cI cL cBB cII cSh h_this a_this this_taped this_code this_kind this_rate this_filled this_total this_bitAt this_k this_e1 this_du this_dv f_28 f_this_productp36) H := by rw [ef_28]; exact hP
          have hD : va_D A (kWX5_above cB cI cL cBB cII cSh h_this a_this this_taped this_code this_kind this_rate this_filled this_total this_bitAt this_k this_e1 this_du this_dv f_28 f_this_productp36) := by rw [ef_28]; exact hD
          obtain ⟨x8_29, ex8_29⟩ : ∃ y : Int32, y = x8p80 + Int32.ofInt 1 := ⟨_, rfl⟩
          have h := kb_n_s ex8_29 h
          refine lv_iinc (v := x8_29) (lv' := [(8, .int x8_29), (0, .ref h_this), (1, .int p1), (2, .long p2), (4, .int p3), (5, .int p4), (6, .int x6p36), (7, .int x7p70)]) hx hb kdX5_above_139 hl (k := 7) rfl ex8_29.symm (by decide) rfl (fun ls hl => ?_)
          refine lv_goto (tgt := 80) hx hb kdX5_above_142 (by decide) ?_
          obtain rfl := Option.some.inj h
          exact ih x8_29 f_28 r ho _ _ _ hP hD hS (lv_sub hl [1, 2, 3, 4, 5, 6, 7, 0] rfl) hk0
set_option maxHeartbeats 4000000 in
set_option maxRecDepth 100000 in
theorem klX5_above_70 {p : Program} {l : Launch} {e : Env} {s : State} {m : MethodId} {args : Array Value} {below : List Frame} {meth : Method} {c : Code} {cells slots : Nat} {Q : State → Prop} {D : va_G} {cB cI cL cBB cII cSh : ClassId} {A : Nat → Prop} (C0 : CallFix p m c prog_8_method_17_code 10 s args kwA kRX5) (hlocks : meth.locks = false) (hK : va_K D kCl (kb_T cB cI cL cBB cII cSh) s) (hN : kb_N s) (hA : ∀ q, s.heap.size ≤ q → A q) (hcR : cells ≤ krX5_above.cells) (hsR : slots ≤ krX5_above.slots) (h_this : Nat) (a_this : Nat → Nat) (p1 : Int32) (p2 : Int64) (p3 : Int32) (p4 : Int32) (x6p36 : Int32) (this_taped : Int32) (this_code : Int32) (this_kind : Int32) (this_rate : Int32) (this_filled : Int32) (this_total : Int64) (this_bitAt : Int32) (this_k : Int32) (this_e1 : Int32) (this_du : Int32) (this_dv : Int32) (f_this_productp36 : Nat → Int64) :
    ∀ (fuel : Nat) (x7p70 : Int32) (f_this_limbsp70 : Nat → Int64) (r : Int32 × (Nat → Int64)), kb_w (fun u : Int32 × (Nat → Int64) => kSX5_above_70 p1 p2 f_this_productp36 u.1 u.2) fuel (x7p70, f_this_limbsp70) = some r → ∀ (H : Heap) (locs : List Loc) (ls : Array Slot), va_P D kCl (kWX5_above cB cI cL cBB cII cSh h_this a_this this_taped this_code this_kind this_rate this_filled this_total this_bitAt this_k this_e1 this_du this_dv f_this_limbsp70 f_this_productp36) H → va_D A (kWX5_above cB cI cL cBB cII cSh h_this a_this this_taped this_code this_kind this_rate this_filled this_total this_bitAt this_k this_e1 this_du this_dv f_this_limbsp70 f_this_productp36) → va_S A s.heap H locs → lv_has ls 10 [(0, .ref h_this), (1, .int p1), (2, .long p2), (4, .int p3), (5, .int p4), (6, .int x6p36), (7, .int x7p70)] → (∀ (x7p70' : Int32) (f_this_limbsp70' : Nat → Int64), r = (x7p70', f_this_limbsp70') → ∀ (H : Heap) (locs : List Loc) (ls : Array Slot), va_P D kCl (kWX5_above cB cI cL cBB cII cSh h_this a_this this_taped this_code this_kind this_rate this_filled this_total this_bitAt this_k this_e1 this_du this_dv f_this_limbsp70' f_this_productp36) H → va_D A (kWX5_above cB cI cL cBB cII cSh h_this a_this this_taped this_code this_kind this_rate this_filled this_total this_bitAt this_k this_e1 this_du this_dv f_this_limbsp70' f_this_productp36) → va_S A s.heap H locs → lv_has ls 10 [(0, .ref h_this), (1, .int p1), (2, .long p2), (4, .int p3), (5, .int p4), (6, .int x6p36), (7, .int x7p70')] → W p l e krX5_above s m args below meth c H locs cells slots Q (F0 m 151 ls [])) → W p l e krX5_above s m args below meth c H locs cells slots Q (F0 m 70 ls []) := by
  obtain ⟨hx, hb, hml, hown, hts⟩ := id C0
  intro fuel
  induction fuel with
  | zero =>
    intro x7p70 f_this_limbsp70 r h
    exact absurd h (kb_w_z _ _ _)
  | succ fuel ih =>
    intro x7p70 f_this_limbsp70 r h H locs ls hP hD hS hl hk0
    obtain ⟨o, h, ho⟩ := kb_w_s h
    have h : kSX5_above_70 p1 p2 f_this_productp36 x7p70 f_this_limbsp70 = some o := h
    unfold kSX5_above_70 at h
    refine lv_iload hx hb kdX5_above_70 (lv_at hl 6 rfl) ?_
    refine lv_bipush (v := 16) hx hb kdX5_above_72 (by decide) ?_
    refine lv_icmp_ge (tgt := 151) hx hb kdX5_above_74 (by decide) (fun c_18 => ?_) (fun c_18 => ?_)
    · have h := kb_b_t c_18 h
      obtain rfl := Option.some.inj h
      exact hk0 x7p70 f_this_limbsp70 ho.symm _ _ _ hP hD hS (lv_sub hl [0, 1, 2, 3, 4, 5, 6] rfl)
    · have h := kb_b_f c_18 h
      refine lv_iconst (v := 0) hx hb kdX5_above_77 (by decide) ?_
      refine lv_istore (lv' := [(8, .int (0 : Int32)), (0, .ref h_this), (1, .int p1), (2, .long p2), (4, .int p3), (5, .int p4), (6, .int x6p36), (7, .int x7p70)]) hx hb kdX5_above_78 hl (by decide) rfl (fun ls hl => ?_)
      obtain ⟨r_33, hr_33, h⟩ := kb_o_s h
      refine klX5_above_80 C0 hlocks hK hN hA hcR hsR h_this a_this p1 p2 p3 p4 x6p36 x7p70 this_taped this_code this_kind this_rate this_filled this_total this_bitAt this_k this_e1 this_du this_dv f_this_productp36 100000 (0 : Int32) f_this_limbsp70 r_33 hr_33 _ _ _ hP hD hS (lv_sub hl [1, 2, 3, 4, 5, 6, 7, 0] rfl) (fun x8p80_30 f_this_limbsp80_31 er_33 H locs ls hP hD hS hl => ?_)
      subst er_33
      obtain ⟨x7_32, ex7_32⟩ : ∃ y : Int32, y = x7p70 + Int32.ofInt 1 := ⟨_, rfl⟩
      have h := kb_n_s ex7_32 h
      refine lv_iinc (v := x7_32) (lv' := [(7, .int x7_32), (0, .ref h_this), (1, .int p1), (2, .long p2), (4, .int p3), (5, .int p4), (6, .int x6p36), (8, .int x8p80_30)]) hx hb kdX5_above_145 hl (k := 6) rfl ex7_32.symm (by decide) rfl (fun ls hl => ?_)
      refine lv_goto (tgt := 70) hx hb kdX5_above_148 (by decide) ?_
      obtain rfl := Option.some.inj h
      exact ih x7_32 f_this_limbsp80_31 r ho _ _ _ hP hD hS (lv_sub hl [1, 2, 3, 4, 5, 6, 0] rfl) hk0
set_option maxHeartbeats 4000000 in
set_option maxRecDepth 100000 in
theorem klX5_above_157 {p : Program} {l : Launch} {e : Env} {s : State} {m : MethodId} {args : Array Value} {below : List Frame} {meth : Method} {c : Code} {cells slots : Nat} {Q : State → Prop} {D : va_G} {cB cI cL cBB cII cSh : ClassId} {A : Nat → Prop} (C0 : CallFix p m c prog_8_method_17_code 10 s args kwA kRX5) (hlocks : meth.locks = false) (hK : va_K D kCl (kb_T cB cI cL cBB cII cSh) s) (hN : kb_N s) (hA : ∀ q, s.heap.size ≤ q → A q) (hcR : cells ≤ krX5_above.cells) (hsR : slots ≤ krX5_above.slots) (h_this : Nat) (a_this : Nat → Nat) (p1 : Int32) (p2 : Int64) (p3 : Int32) (p4 : Int32) (x6p36 : Int32) (this_taped : Int32) (this_code : Int32) (this_kind : Int32) (this_rate : Int32) (this_filled : Int32) (this_total : Int64) (this_bitAt : Int32) (this_k : Int32) (this_e1 : Int32) (this_du : Int32) (this_dv : Int32) (f_this_limbsp70_35 : Nat → Int64) :
    ∀ (fuel : Nat) (x7p157 : Int64) (x9p157 : Int32) (f_this_productp157 : Nat → Int64) (r : Int64 × Int32 × (Nat → Int64)), kb_w (fun u : Int64 × Int32 × (Nat → Int64) => kSX5_above_157 f_this_limbsp70_35 u.1 u.2.1 u.2.2) fuel (x7p157, x9p157, f_this_productp157) = some r → ∀ (H : Heap) (locs : List Loc) (ls : Array Slot), va_P D kCl (kWX5_above cB cI cL cBB cII cSh h_this a_this this_taped this_code this_kind this_rate this_filled this_total this_bitAt this_k this_e1 this_du this_dv f_this_limbsp70_35 f_this_productp157) H → va_D A (kWX5_above cB cI cL cBB cII cSh h_this a_this this_taped this_code this_kind this_rate this_filled this_total this_bitAt this_k this_e1 this_du this_dv f_this_limbsp70_35 f_this_productp157) → va_S A s.heap H locs → lv_has ls 10 [(0, .ref h_this), (1, .int p1), (2, .long p2), (4, .int p3), (5, .int p4), (6, .int x6p36), (7, .long x7p157), (9, .int x9p157)] → (∀ (x7p157' : Int64) (x9p157' : Int32) (f_this_productp157' : Nat → Int64), r = (x7p157', x9p157', f_this_productp157') → ∀ (H : Heap) (locs : List Loc) (ls : Array Slot), va_P D kCl (kWX5_above cB cI cL cBB cII cSh h_this a_this this_taped this_code this_kind this_rate this_filled this_total this_bitAt this_k this_e1 this_du this_dv f_this_limbsp70_35 f_this_productp157') H → va_D A (kWX5_above cB cI cL cBB cII cSh h_this a_this this_taped this_code this_kind this_rate this_filled this_total this_bitAt this_k this_e1 this_du this_dv f_this_limbsp70_35 f_this_productp157') → va_S A s.heap H locs → lv_has ls 10 [(0, .ref h_this), (1, .int p1), (2, .long p2), (4, .int p3), (5, .int p4), (6, .int x6p36), (7, .long x7p157'), (9, .int x9p157')] → W p l e krX5_above s m args below meth c H locs cells slots Q (F0 m 202 ls [])) → W p l e krX5_above s m args below meth c H locs cells slots Q (F0 m 157 ls []) := by
  obtain ⟨hx, hb, hml, hown, hts⟩ := id C0
  intro fuel
  induction fuel with
  | zero =>
    intro x7p157 x9p157 f_this_productp157 r h
    exact absurd h (kb_w_z _ _ _)
  | succ fuel ih =>
    intro x7p157 x9p157 f_this_productp157 r h H locs ls hP hD hS hl hk0
    obtain ⟨o, h, ho⟩ := kb_w_s h
    have h : kSX5_above_157 f_this_limbsp70_35 x7p157 x9p157 f_this_productp157 = some o := h
    unfold kSX5_above_157 at h
    refine lv_iload hx hb kdX5_above_157 (lv_at hl 7 rfl) ?_
    refine lv_bipush (v := 16) hx hb kdX5_above_159 (by decide) ?_
    refine lv_icmp_ge (tgt := 202) hx hb kdX5_above_161 (by decide) (fun c_36 => ?_) (fun c_36 => ?_)
    · have h := kb_b_t c_36 h
      obtain rfl := Option.some.inj h
      exact hk0 x7p157 x9p157 f_this_productp157 ho.symm _ _ _ hP hD hS (lv_sub hl [0, 1, 2, 3, 4, 5, 6, 7] rfl)
    · have h := kb_b_f c_36 h
      refine lv_lload hx hb kdX5_above_164 (lv_at hl 6 rfl) ?_
      refine lv_aload_n hx hb kdX5_above_166 rfl (lv_at hl 0 rfl) ?_
      refine va_get (ci := 5) (v := .ref (a_this 9)) (C := kRX5) (T := kTX5) (N := 35) hx hb hts kinX5 hown hK hP 0 rfl rfl 9 (by decide) (hts _ km_690) (fun _ h9 => h9) rfl kdX5_above_167 ?_
      refine lv_iload hx hb kdX5_above_170 (lv_at hl 7 rfl) ?_
      obtain ⟨g_37, h⟩ := kb_g_s h
      refine va_lald hx hb hK hP 1 2 rfl rfl (kb_in_v g_37) kdX5_above_172 ?_
      refine lv_ladd hx hb kdX5_above_173 ?_
      refine lv_topl (fun x7_38 ex7_38 => ?_)
      have h := kb_n_s ex7_38 h
      refine lv_lstore (lv' := [(7, .long x7_38), (0, .ref h_this), (1, .int p1), (2, .long p2), (4, .int p3), (5, .int p4), (6, .int x6p36), (9, .int x9p157)]) hx hb kdX5_above_174 hl (by decide) rfl (fun ls hl => ?_)
      refine lv_aload_n hx hb kdX5_above_176 rfl (lv_at hl 1 rfl) ?_
      refine va_get (ci := 5) (v := .ref (a_this 10)) (C := kRX5) (T := kTX5) (N := 35) hx hb hts kinX5 hown hK hP 0 rfl rfl 10 (by decide) (hts _ km_691) (fun _ h9 => h9) rfl kdX5_above_177 ?_
      refine lv_iload hx hb kdX5_above_180 (lv_at hl 7 rfl) ?_
      refine lv_lload hx hb kdX5_above_182 (lv_at hl 0 rfl) ?_
      refine lv_ldc2 (v := 65535) hx hb hown (hts _ km_621) kdX5_above_184 ?_
      refine lv_land hx hb kdX5_above_187 ?_
      obtain ⟨g_39, h⟩ := kb_g_s h
      refine va_last hx hb hK hP hD hS 2 2 rfl rfl (kb_in_v g_39) kdX5_above_188 (fun H locs hP hD hS => ?_)
      obtain ⟨f_40, ef_40⟩ : ∃ y, y = vp_updL f_this_productp157 x9p157.toNatClampNeg (x7_38 &&& (65535 : Int64)) := ⟨_, rfl⟩
      have h := kb_n_s ef_40 h
      have hP : va_P D kCl (kWX5_above cB cI cL cBB cII cSh h_this a_this this_taped this_code this_kind this_rate this_filled this_total this_bitAt this_k this_e1 this_du this_dv f_this_limbsp70_35 f_40) H := by rw [ef_40]; exact hP
      have hD : va_D A (kWX5_above cB cI cL cBB cII cSh h_this a_this this_taped this_code this_kind this_rate this_filled this_total this_bitAt this_k this_e1 this_du this_dv f_this_limbsp70_35 f_40) := by rw [ef_40]; exact hD
      refine lv_lload hx hb kdX5_above_189 (lv_at hl 0 rfl) ?_
      refine lv_bipush (v := 16) hx hb kdX5_above_191 (by decide) ?_
      refine lv_lushr (v := ((x7_38.toUInt64 >>> ((16 : Int32).toInt64.toUInt64 &&& Int64.toUInt64 63)).toInt64)) hx hb kdX5_above_193 rfl ?_
      refine lv_topl (fun x7_41 ex7_41 => ?_)
      have h := kb_n_s ex7_41 h
      refine lv_lstore (lv' := [(7, .long x7_41), (0, .ref h_this), (1, .int p1), (2, .long p2), (4, .int p3), (5, .int p4), (6, .int x6p36), (9, .int x9p157)]) hx hb kdX5_above_194 hl (by decide) rfl (fun ls hl => ?_)
      obtain ⟨x9_42, ex9_42⟩ : ∃ y : Int32, y = x9p157 + Int32.ofInt 1 := ⟨_, rfl⟩
      have h := kb_n_s ex9_42 h
      refine lv_iinc (v := x9_42) (lv' := [(9, .int x9_42), (7, .long x7_41), (0, .ref h_this), (1, .int p1), (2, .long p2), (4, .int p3), (5, .int p4), (6, .int x6p36)]) hx hb kdX5_above_196 hl (k := 7) rfl ex9_42.symm (by decide) rfl (fun ls hl => ?_)
      refine lv_goto (tgt := 157) hx hb kdX5_above_199 (by decide) ?_
      obtain rfl := Option.some.inj h
      exact ih x7_41 x9_42 f_40 r ho _ _ _ hP hD hS (lv_sub hl [2, 3, 4, 5, 6, 7, 1, 0] rfl) hk0
set_option maxHeartbeats 4000000 in
set_option maxRecDepth 100000 in
theorem klX5_above_36 {p : Program} {l : Launch} {e : Env} {s : State} {m : MethodId} {args : Array Value} {below : List Frame} {meth : Method} {c : Code} {cells slots : Nat} {Q : State → Prop} {D : va_G} {cB cI cL cBB cII cSh : ClassId} {A : Nat → Prop} (C0 : CallFix p m c prog_8_method_17_code 10 s args kwA kRX5) (hlocks : meth.locks = false) (hK : va_K D kCl (kb_T cB cI cL cBB cII cSh) s) (hN : kb_N s) (hA : ∀ q, s.heap.size ≤ q → A q) (hcR : cells ≤ krX5_above.cells) (hsR : slots ≤ krX5_above.slots) (h_this : Nat) (a_this : Nat → Nat) (p1 : Int32) (p2 : Int64) (p3 : Int32) (p4 : Int32) (this_taped : Int32) (this_code : Int32) (this_kind : Int32) (this_rate : Int32) (this_filled : Int32) (this_total : Int64) (this_bitAt : Int32) (this_k : Int32) (this_e1 : Int32) (this_du : Int32) (this_dv : Int32) :
    ∀ (fuel : Nat) (x6p36 : Int32) (f_this_limbsp36 : Nat → Int64) (f_this_productp36 : Nat → Int64) (r : Int32 × (Nat → Int64) × (Nat → Int64)), kb_w (fun u : Int32 × (Nat → Int64) × (Nat → Int64) => kSX5_above_36 p1 p2 p3 u.1 u.2.1 u.2.2) fuel (x6p36, f_this_limbsp36, f_this_productp36) = some r → ∀ (H : Heap) (locs : List Loc) (ls : Array Slot), va_P D kCl (kWX5_above cB cI cL cBB cII cSh h_this a_this this_taped this_code this_kind this_rate this_filled this_total this_bitAt this_k this_e1 this_du this_dv f_this_limbsp36 f_this_productp36) H → va_D A (kWX5_above cB cI cL cBB cII cSh h_this a_this this_taped this_code this_kind this_rate this_filled this_total this_bitAt this_k this_e1 this_du this_dv f_this_limbsp36 f_this_productp36) → va_S A s.heap H locs → lv_has ls 10 [(0, .ref h_this), (1, .int p1), (2, .long p2), (4, .int p3), (5, .int p4), (6, .int x6p36)] → (∀ (x6p36' : Int32) (f_this_limbsp36' : Nat → Int64) (f_this_productp36' : Nat → Int64), r = (x6p36', f_this_limbsp36', f_this_productp36') → ∀ (H : Heap) (locs : List Loc) (ls : Array Slot), va_P D kCl (kWX5_above cB cI cL cBB cII cSh h_this a_this this_taped this_code this_kind this_rate this_filled this_total this_bitAt this_k this_e1 this_du this_dv f_this_limbsp36' f_this_productp36') H → va_D A (kWX5_above cB cI cL cBB cII cSh h_this a_this this_taped this_code this_kind this_rate this_filled this_total this_bitAt this_k this_e1 this_du this_dv f_this_limbsp36' f_this_productp36') → va_S A s.heap H locs → lv_has ls 10 [(0, .ref h_this), (1, .int p1), (2, .long p2), (4, .int p3), (5, .int p4), (6, .int x6p36')] → W p l e krX5_above s m args below meth c H locs cells slots Q (F0 m 208 ls [])) → W p l e krX5_above s m args below meth c H locs cells slots Q (F0 m 36 ls []) := by
  obtain ⟨hx, hb, hml, hown, hts⟩ := id C0
  intro fuel
  induction fuel with
  | zero =>
    intro x6p36 f_this_limbsp36 f_this_productp36 r h
    exact absurd h (kb_w_z _ _ _)
  | succ fuel ih =>
    intro x6p36 f_this_limbsp36 f_this_productp36 r h H locs ls hP hD hS hl hk0
    obtain ⟨o, h, ho⟩ := kb_w_s h
    have h : kSX5_above_36 p1 p2 p3 x6p36 f_this_limbsp36 f_this_productp36 = some o := h
    unfold kSX5_above_36 at h
    refine lv_iload hx hb kdX5_above_36 (lv_at hl 5 rfl) ?_
    refine lv_iload hx hb kdX5_above_38 (lv_at hl 3 rfl) ?_
    refine lv_icmp_ge (tgt := 208) hx hb kdX5_above_40 (by decide) (fun c_11 => ?_) (fun c_11 => ?_)
    · have h := kb_b_t c_11 h
      obtain rfl := Option.some.inj h
      exact hk0 x6p36 f_this_limbsp36 f_this_productp36 ho.symm _ _ _ hP hD hS (lv_sub hl [0, 1, 2, 3, 4, 5] rfl)
    · have h := kb_b_f c_11 h
      refine lv_iconst (v := 0) hx hb kdX5_above_43 (by decide) ?_
      refine lv_istore (lv' := [(7, .int (0 : Int32)), (0, .ref h_this), (1, .int p1), (2, .long p2), (4, .int p3), (5, .int p4), (6, .int x6p36)]) hx hb kdX5_above_44 hl (by decide) rfl (fun ls hl => ?_)
      obtain ⟨r_49, hr_49, h⟩ := kb_o_s h
      refine klX5_above_46 C0 hlocks hK hN hA hcR hsR h_this a_this p1 p2 p3 p4 x6p36 this_taped this_code this_kind this_rate this_filled this_total this_bitAt this_k this_e1 this_du this_dv f_this_productp36 100000 (0 : Int32) f_this_limbsp36 r_49 hr_49 _ _ _ hP hD hS (lv_sub hl [1, 2, 3, 4, 5, 6, 0] rfl) (fun x7p46_16 f_this_limbsp46_17 er_49 H locs ls hP hD hS hl => ?_)
      subst er_49
      refine lv_iconst (v := 0) hx hb kdX5_above_67 (by decide) ?_
      refine lv_istore (lv' := [(7, .int (0 : Int32)), (0, .ref h_this), (1, .int p1), (2, .long p2), (4, .int p3), (5, .int p4), (6, .int x6p36)]) hx hb kdX5_above_68 hl (by decide) rfl (fun ls hl => ?_)
      obtain ⟨r_48, hr_48, h⟩ := kb_o_s h
      refine klX5_above_70 C0 hlocks hK hN hA hcR hsR h_this a_this p1 p2 p3 p4 x6p36 this_taped this_code this_kind this_rate this_filled this_total this_bitAt this_k this_e1 this_du this_dv f_this_productp36 100000 (0 : Int32) f_this_limbsp46_17 r_48 hr_48 _ _ _ hP hD hS (lv_sub hl [1, 2, 3, 4, 5, 6, 0] rfl) (fun x7p70_34 f_this_limbsp70_35 er_48 H locs ls hP hD hS hl => ?_)
      subst er_48
      refine lv_lconst (v := 0) hx hb kdX5_above_151 (by decide) ?_
      refine lv_lstore (lv' := [(7, .long (0 : Int64)), (0, .ref h_this), (1, .int p1), (2, .long p2), (4, .int p3), (5, .int p4), (6, .int x6p36)]) hx hb kdX5_above_152 hl (by decide) rfl (fun ls hl => ?_)
      refine lv_iconst (v := 0) hx hb kdX5_above_154 (by decide) ?_
      refine lv_istore (lv' := [(9, .int (0 : Int32)), (7, .long (0 : Int64)), (0, .ref h_this), (1, .int p1), (2, .long p2), (4, .int p3), (5, .int p4), (6, .int x6p36)]) hx hb kdX5_above_155 hl (by decide) rfl (fun ls hl => ?_)
      obtain ⟨r_47, hr_47, h⟩ := kb_o_s h
      refine klX5_above_157 C0 hlocks hK hN hA hcR hsR h_this a_this p1 p2 p3 p4 x6p36 this_taped this_code this_kind this_rate this_filled this_total this_bitAt this_k this_e1 this_du this_dv f_this_limbsp70_35 100000 (0 : Int64) (0 : Int32) f_this_productp36 r_47 hr_47 _ _ _ hP hD hS (lv_sub hl [2, 3, 4, 5, 6, 7, 1, 0] rfl) (fun x7p157_43 x9p157_44 f_this_productp157_45 er_47 H locs ls hP hD hS hl => ?_)
      subst er_47
      obtain ⟨x6_46, ex6_46⟩ : ∃ y : Int32, y = x6p36 + Int32.ofInt 1 := ⟨_, rfl⟩
      have h := kb_n_s ex6_46 h
      refine lv_iinc (v := x6_46) (lv' := [(6, .int x6_46), (0, .ref h_this), (1, .int p1), (2, .long p2), (4, .int p3), (5, .int p4), (7, .long x7p157_43), (9, .int x9p157_44)]) hx hb kdX5_above_202 hl (k := 5) rfl ex6_46.symm (by decide) rfl (fun ls hl => ?_)
      refine lv_goto (tgt := 36) hx hb kdX5_above_205 (by decide) ?_
      obtain rfl := Option.some.inj h
      exact ih x6_46 f_this_limbsp70_35 f_this_productp157_45 r ho _ _ _ hP hD hS (lv_sub hl [1, 2, 3, 4, 5, 0] rfl) hk0
set_option maxHeartbeats 4000000 in
set_option maxRecDepth 100000 in
theorem klX5_above_240 {p : Program} {l : Launch} {e : Env} {s : State} {m : MethodId} {args : Array Value} {below : List Frame} {meth : Method} {c : Code} {cells slots : Nat} {Q : State → Prop} {D : va_G} {cB cI cL cBB cII cSh : ClassId} {A : Nat → Prop} (C0 : CallFix p m c prog_8_method_17_code 10 s args kwA kRX5) (hlocks : meth.locks = false) (hK : va_K D kCl (kb_T cB cI cL cBB cII cSh) s) (hN : kb_N s) (hA : ∀ q, s.heap.size ≤ q → A q) (hcR : cells ≤ krX5_above.cells) (hsR : slots ≤ krX5_above.slots) (h_this : Nat) (a_this : Nat → Nat) (p3 : Int32) (p4 : Int32) (x6_55 : Int64) (this_taped : Int32) (this_code : Int32) (this_kind : Int32) (this_rate : Int32) (this_filled : Int32) (this_total : Int64) (this_bitAt : Int32) (this_k : Int32) (this_e1 : Int32) (this_du : Int32) (this_dv : Int32) (f_this_limbsp36_51 : Nat → Int64) (f_this_productp36_52 : Nat → Int64) :
    ∀ (fuel : Nat) (x8p240 : Int32) (x9p240 : Int32) (r : Int32 × Int32), kb_w (fun u : Int32 × Int32 => kSX5_above_240 p3 f_this_productp36_52 u.1 u.2) fuel (x8p240, x9p240) = some r → ∀ (H : Heap) (locs : List Loc) (ls : Array Slot), va_P D kCl (kWX5_above cB cI cL cBB cII cSh h_this a_this this_taped this_code this_kind this_rate this_filled this_total this_bitAt this_k this_e1 this_du this_dv f_this_limbsp36_51 f_this_productp36_52) H → va_D A (kWX5_above cB cI cL cBB cII cSh h_this a_this this_taped this_code this_kind this_rate this_filled this_total this_bitAt this_k this_e1 this_du this_dv f_this_limbsp36_51 f_this_productp36_52) → va_S A s.heap H locs → lv_has ls 10 [(0, .ref h_this), (4, .int p3), (5, .int p4), (6, .long x6_55), (8, .int x8p240), (9, .int x9p240)] → (∀ (x8p240' : Int32) (x9p240' : Int32), r = (x8p240', x9p240') → ∀ (H : Heap) (locs : List Loc) (ls : Array Slot), va_P D kCl (kWX5_above cB cI cL cBB cII cSh h_this a_this this_taped this_code this_kind this_rate this_filled this_total this_bitAt this_k this_e1 this_du this_dv f_this_limbsp36_51 f_this_productp36_52) H → va_D A (kWX5_above cB cI cL cBB cII cSh h_this a_this this_taped this_code this_kind this_rate this_filled this_total this_bitAt this_k this_e1 this_du this_dv f_this_limbsp36_51 f_this_productp36_52) → va_S A s.heap H locs → lv_has ls 10 [(0, .ref h_this), (4, .int p3), (5, .int p4), (6, .long x6_55), (8, .int x8p240'), (9, .int x9p240')] → W p l e krX5_above s m args below meth c H locs cells slots Q (F0 m 270 ls [])) → W p l e krX5_above s m args below meth c H locs cells slots Q (F0 m 240 ls []) := by
  obtain ⟨hx, hb, hml, hown, hts⟩ := id C0
  intro fuel
  induction fuel with
  | zero =>
    intro x8p240 x9p240 r h
    exact absurd h (kb_w_z _ _ _)
  | succ fuel ih =>
    intro x8p240 x9p240 r h H locs ls hP hD hS hl hk0
    obtain ⟨o, h, ho⟩ := kb_w_s h
    have h : kSX5_above_240 p3 f_this_productp36_52 x8p240 x9p240 = some o := h
    unfold kSX5_above_240 at h
    refine lv_iload hx hb kdX5_above_240 (lv_at hl 5 rfl) ?_
    refine lv_iconst (v := 4) hx hb kdX5_above_242 (by decide) ?_
    refine lv_iload hx hb kdX5_above_243 (lv_at hl 1 rfl) ?_
    refine lv_imul hx hb kdX5_above_245 ?_
    refine lv_icmp_ge (tgt := 270) hx hb kdX5_above_246 (by decide) (fun c_56 => ?_) (fun c_56 => ?_)
    · have h := kb_b_t c_56 h
      obtain rfl := Option.some.inj h
      exact hk0 x8p240 x9p240 ho.symm _ _ _ hP hD hS (lv_sub hl [0, 1, 2, 3, 4, 5] rfl)
    · have h := kb_b_f c_56 h
      refine lv_aload_n hx hb kdX5_above_249 rfl (lv_at hl 0 rfl) ?_
      refine va_get (ci := 5) (v := .ref (a_this 10)) (C := kRX5) (T := kTX5) (N := 35) hx hb hts kinX5 hown hK hP 0 rfl rfl 10 (by decide) (hts _ km_691) (fun _ h9 => h9) rfl kdX5_above_250 ?_
      refine lv_iload hx hb kdX5_above_253 (lv_at hl 5 rfl) ?_
      obtain ⟨g_57, h⟩ := kb_g_s h
      refine va_lald hx hb hK hP 2 2 rfl rfl (kb_in_v g_57) kdX5_above_255 ?_
      refine lv_lconst (v := 0) hx hb kdX5_above_256 (by decide) ?_
      refine W.lcmp hx hb kdX5_above_257 ?_
      refine lv_if_eq (tgt := 264) hx hb kdX5_above_258 (by decide) (fun c_58 => ?_) (fun c_58 => ?_)
      · have h := kb_b_t c_58 h
        obtain ⟨x9_59, ex9_59⟩ : ∃ y : Int32, y = x9p240 + Int32.ofInt 1 := ⟨_, rfl⟩
        have h := kb_n_s ex9_59 h
        refine lv_iinc (v := x9_59) (lv' := [(9, .int x9_59), (0, .ref h_this), (4, .int p3), (5, .int p4), (6, .long x6_55), (8, .int x8p240)]) hx hb kdX5_above_264 hl (k := 5) rfl ex9_59.symm (by decide) rfl (fun ls hl => ?_)
        refine lv_goto (tgt := 240) hx hb kdX5_above_267 (by decide) ?_
        obtain rfl := Option.some.inj h
        exact ih x8p240 x9_59 r ho _ _ _ hP hD hS (lv_sub hl [1, 2, 3, 4, 5, 0] rfl) hk0
      · have h := kb_b_f c_58 h
        refine lv_iconst (v := 1) hx hb kdX5_above_261 (by decide) ?_
        refine lv_istore (lv' := [(8, .int (1 : Int32)), (0, .ref h_this), (4, .int p3), (5, .int p4), (6, .long x6_55), (9, .int x9p240)]) hx hb kdX5_above_262 hl (by decide) rfl (fun ls hl => ?_)
        obtain ⟨x9_60, ex9_60⟩ : ∃ y : Int32, y = x9p240 + Int32.ofInt 1 := ⟨_, rfl⟩
        have h := kb_n_s ex9_60 h
        refine lv_iinc (v := x9_60) (lv' := [(9, .int x9_60), (8, .int (1 : Int32)), (0, .ref h_this), (4, .int p3), (5, .int p4), (6, .long x6_55)]) hx hb kdX5_above_264 hl (k := 5) rfl ex9_60.symm (by decide) rfl (fun ls hl => ?_)
        refine lv_goto (tgt := 240) hx hb kdX5_above_267 (by decide) ?_
        obtain rfl := Option.some.inj h
        exact ih (1 : Int32) x9_60 r ho _ _ _ hP hD hS (lv_sub hl [2, 3, 4, 5, 1, 0] rfl) hk0
set_option maxHeartbeats 4000000 in
set_option maxRecDepth 100000 in
theorem kcX5_above (l : Launch) (D : va_G) (cB cI cL cBB cII cSh : ClassId) (h_this : Nat) (a_this : Nat → Nat) (sz : Nat) (p1 : Int32) (p2 : Int64) (p3 : Int32) (p4 : Int32) (this_taped : Int32) (this_code : Int32) (this_kind : Int32) (this_rate : Int32) (this_filled : Int32) (this_total : Int64) (this_bitAt : Int32) (this_k : Int32) (this_e1 : Int32) (this_du : Int32) (this_dv : Int32) (f_this_limbs : Nat → Int64) (f_this_product : Nat → Int64) (out : Int32 × (Nat → Int64) × (Nat → Int64)) (h : kFX5_above p1 p2 p3 p4 f_this_limbs f_this_product = some out) : Met l kyX5_above kwX5_above krX5_above (kb_P D kCl (kb_T cB cI cL cBB cII cSh) [.ref h_this, .int p1, .long p2, .int p3, .int p4] (kWX5_above cB cI cL cBB cII cSh h_this a_this this_taped this_code this_kind this_rate this_filled this_total this_bitAt this_k this_e1 this_du this_dv f_this_limbs f_this_product) sz) (kb_Q D kCl (kb_T cB cI cL cBB cII cSh) (va_A (kWX5_above cB cI cL cBB cII cSh h_this a_this this_taped this_code this_kind this_rate this_filled this_total this_bitAt this_k this_e1 this_du this_dv f_this_limbs f_this_product) sz) (some (.int out.1)) (kWX5_above cB cI cL cBB cII cSh h_this a_this this_taped this_code this_kind this_rate this_filled this_total this_bitAt this_k this_e1 this_du this_dv out.2.1 out.2.2)) 0 0 (va_A (kWX5_above cB cI cL cBB cII cSh h_this a_this this_taped this_code this_kind this_rate this_filled this_total this_bitAt this_k this_e1 this_du this_dv f_this_limbs f_this_product) sz) := by
  refine Met.ofW (cc := prog_8_method_17_code) (maxL := 10) (ret := (some .boolean)) (by decide) rfl ?_
  intro p e s m args below meth c s₁ B hml hv
  obtain ⟨rfl, hsz, hP, hK, hN, hD0⟩ := hv
  have hx := B.exec
  have hb := B.bytes
  have hr := B.returns
  have hts0 := atoms_spec (ws := kwX5_above) B.pre
  have hts : ∀ w ∈ kwA, w.before _ s = true := fun w h => hts0 w (List.mem_cons_of_mem _ h)
  have hown : s.vm.findClass kRX5 = some m.cls := findClass_of_methodNamed B.named
  have hlocks := B.notSynchronized
  subst hsz
  have hD := hD0.self (sz := s.heap.size)
  generalize hAe : va_A (kWX5_above cB cI cL cBB cII cSh h_this a_this this_taped this_code this_kind this_rate this_filled this_total this_bitAt this_k this_e1 this_du this_dv f_this_limbs f_this_product) s.heap.size = A at hD ⊢
  have hA : ∀ q : Nat, s.heap.size ≤ q → A q := fun q h => by rw [← hAe]; exact Or.inr h
  have hS : va_S A s.heap s.heap [] := va_S.rf
  have C0 : CallFix p m c prog_8_method_17_code 10 s _ kwA kRX5 := ⟨hx, hb, hml, hown, hts⟩
  have hl := lv_entry ([.ref h_this, .int p1, .long p2, .int p3, .int p4]) (n := 10) (Nat.le_of_ble_eq_true rfl)
  rw [lg_entry_eq]
  generalize (lg_sl ([.ref h_this, .int p1, .long p2, .int p3, .int p4]) ++ List.replicate (10 - (lg_sl ([.ref h_this, .int p1, .long p2, .int p3, .int p4])).length) Slot.unset).toArray = ls at hl ⊢
  have hl : lv_has ls 10 [(0, .ref h_this), (1, .int p1), (2, .long p2), (4, .int p3), (5, .int p4)] := hl
  unfold kFX5_above at h
  refine lv_iconst (v := 0) hx hb kdX5_above_0 (by decide) ?_
  refine lv_istore (lv' := [(6, .int (0 : Int32)), (0, .ref h_this), (1, .int p1), (2, .long p2), (4, .int p3), (5, .int p4)]) hx hb kdX5_above_1 hl (by decide) rfl (fun ls hl => ?_)
  obtain ⟨r_68, hr_68, h⟩ := kb_o_s h
  refine klX5_above_3 C0 hlocks hK hN hA (by decide) (by decide) h_this a_this p1 p2 p3 p4 this_taped this_code this_kind this_rate this_filled this_total this_bitAt this_k this_e1 this_du this_dv f_this_limbs 100000 (0 : Int32) f_this_product r_68 hr_68 _ _ _ hP hD hS (lv_sub hl [1, 2, 3, 4, 5, 0] rfl) (fun x6p3_9 f_this_productp3_10 er_68 H locs ls hP hD hS hl => ?_)
  subst er_68
  refine lv_iconst (v := 0) hx hb kdX5_above_33 (by decide) ?_
  refine lv_istore (lv' := [(6, .int (0 : Int32)), (0, .ref h_this), (1, .int p1), (2, .long p2), (4, .int p3), (5, .int p4)]) hx hb kdX5_above_34 hl (by decide) rfl (fun ls hl => ?_)
  obtain ⟨r_67, hr_67, h⟩ := kb_o_s h
  refine klX5_above_36 C0 hlocks hK hN hA (by decide) (by decide) h_this a_this p1 p2 p3 p4 this_taped this_code this_kind this_rate this_filled this_total this_bitAt this_k this_e1 this_du this_dv 100000 (0 : Int32) f_this_limbs f_this_productp3_10 r_67 hr_67 _ _ _ hP hD hS (lv_sub hl [1, 2, 3, 4, 5, 0] rfl) (fun x6p36_50 f_this_limbsp36_51 f_this_productp36_52 er_67 H locs ls hP hD hS hl => ?_)
  subst er_67
  refine lv_aload_n hx hb kdX5_above_208 rfl (lv_at hl 0 rfl) ?_
  refine va_get (ci := 5) (v := .ref (a_this 10)) (C := kRX5) (T := kTX5) (N := 35) hx hb hts kinX5 hown hK hP 0 rfl rfl 10 (by decide) (hts _ km_691) (fun _ h9 => h9) rfl kdX5_above_209 ?_
  refine lv_iconst (v := 4) hx hb kdX5_above_212 (by decide) ?_
  refine lv_iload hx hb kdX5_above_213 (lv_at hl 3 rfl) ?_
  refine lv_imul hx hb kdX5_above_215 ?_
  obtain ⟨g_53, h⟩ := kb_g_s h
  refine va_lald hx hb hK hP 2 2 rfl rfl (kb_in_v g_53) kdX5_above_216 ?_
  refine lv_aload_n hx hb kdX5_above_217 rfl (lv_at hl 0 rfl) ?_
  refine va_get (ci := 5) (v := .ref (a_this 10)) (C := kRX5) (T := kTX5) (N := 35) hx hb hts kinX5 hown hK hP 0 rfl rfl 10 (by decide) (hts _ km_691) (fun _ h9 => h9) rfl kdX5_above_218 ?_
  refine lv_iconst (v := 4) hx hb kdX5_above_221 (by decide) ?_
  refine lv_iload hx hb kdX5_above_222 (lv_at hl 3 rfl) ?_
  refine lv_imul hx hb kdX5_above_224 ?_
  refine lv_iconst (v := 1) hx hb kdX5_above_225 (by decide) ?_
  refine lv_iadd hx hb kdX5_above_226 ?_
  obtain ⟨g_54, h⟩ := kb_g_s h
  refine va_lald hx hb hK hP 2 2 rfl rfl (kb_in_v g_54) kdX5_above_227 ?_
  refine lv_bipush (v := 16) hx hb kdX5_above_228 (by decide) ?_
  refine lv_lshl (v := ((f_this_productp36_52 (((4 : Int32) * p3) + (1 : Int32)).toNatClampNeg) <<< ((16 : Int32).toInt64 &&& 63))) hx hb kdX5_above_230 rfl ?_
  refine lv_ladd hx hb kdX5_above_231 ?_
  refine lv_topl (fun x6_55 ex6_55 => ?_)
  have h := kb_n_s ex6_55 h
  refine lv_lstore (lv' := [(6, .long x6_55), (0, .ref h_this), (1, .int p1), (2, .long p2), (4, .int p3), (5, .int p4)]) hx hb kdX5_above_232 hl (by decide) rfl (fun ls hl => ?_)
  refine lv_iconst (v := 0) hx hb kdX5_above_234 (by decide) ?_
  refine lv_istore (lv' := [(8, .int (0 : Int32)), (6, .long x6_55), (0, .ref h_this), (1, .int p1), (2, .long p2), (4, .int p3), (5, .int p4)]) hx hb kdX5_above_235 hl (by decide) rfl (fun ls hl => ?_)
  refine lv_iconst (v := 0) hx hb kdX5_above_237 (by decide) ?_
  refine lv_istore (lv' := [(9, .int (0 : Int32)), (8, .int (0 : Int32)), (6, .long x6_55), (0, .ref h_this), (1, .int p1), (2, .long p2), (4, .int p3), (5, .int p4)]) hx hb kdX5_above_238 hl (by decide) rfl (fun ls hl => ?_)
  obtain ⟨r_66, hr_66, h⟩ := kb_o_s h
  refine klX5_above_240 C0 hlocks hK hN hA (by decide) (by decide) h_this a_this p3 p4 x6_55 this_taped this_code this_kind this_rate this_filled this_total this_bitAt this_k this_e1 this_du this_dv f_this_limbsp36_51 f_this_productp36_52 100000 (0 : Int32) (0 : Int32) r_66 hr_66 _ _ _ hP hD hS (lv_sub hl [3, 6, 7, 2, 1, 0] rfl) (fun x8p240_61 x9p240_62 er_66 H locs ls hP hD hS hl => ?_)
  subst er_66
  refine lv_lload hx hb kdX5_above_270 (lv_at hl 3 rfl) ?_
  refine lv_iload hx hb kdX5_above_272 (lv_at hl 2 rfl) ?_
  refine lv_i2l (v := (p4.toInt64)) hx hb kdX5_above_274 rfl ?_
  refine W.lcmp hx hb kdX5_above_275 ?_
  refine lv_if_gt (tgt := 293) hx hb kdX5_above_276 (by decide) (fun c_63 => ?_) (fun c_63 => ?_)
  · have h := kb_b_t c_63 h
    refine lv_iconst (v := 1) hx hb kdX5_above_293 (by decide) ?_
    refine lv_goto (tgt := 298) hx hb kdX5_above_294 (by decide) ?_
    obtain rfl := Option.some.inj h
    exact W.zret (v := (1 : Int32)) (ty := .boolean) hx hb hr (by decide) (fun t ht hW => ⟨⟨rfl, by rw [ht]; exact hP, va_K.moved hW.alike hK, hD⟩, hS.F ht⟩) hS.2.2 kdX5_above_298
  · have h := kb_b_f c_63 h
    refine lv_lload hx hb kdX5_above_279 (lv_at hl 3 rfl) ?_
    refine lv_iload hx hb kdX5_above_281 (lv_at hl 2 rfl) ?_
    refine lv_i2l (v := (p4.toInt64)) hx hb kdX5_above_283 rfl ?_
    refine W.lcmp hx hb kdX5_above_284 ?_
    refine lv_if_ne (tgt := 297) hx hb kdX5_above_285 (by decide) (fun c_64 => ?_) (fun c_64 => ?_)
    · have h := kb_b_f c_64 h
      refine lv_iconst (v := 0) hx hb kdX5_above_297 (by decide) ?_
      obtain rfl := Option.some.inj h
      exact W.zret (v := (0 : Int32)) (ty := .boolean) hx hb hr (by decide) (fun t ht hW => ⟨⟨rfl, by rw [ht]; exact hP, va_K.moved hW.alike hK, hD⟩, hS.F ht⟩) hS.2.2 kdX5_above_298
    · have h := kb_b_t c_64 h
      refine lv_iload hx hb kdX5_above_288 (lv_at hl 4 rfl) ?_
      refine lv_if_eq (tgt := 297) hx hb kdX5_above_290 (by decide) (fun c_65 => ?_) (fun c_65 => ?_)
      · have h := kb_b_t c_65 h
        refine lv_iconst (v := 0) hx hb kdX5_above_297 (by decide) ?_
        obtain rfl := Option.some.inj h
        exact W.zret (v := (0 : Int32)) (ty := .boolean) hx hb hr (by decide) (fun t ht hW => ⟨⟨rfl, by rw [ht]; exact hP, va_K.moved hW.alike hK, hD⟩, hS.F ht⟩) hS.2.2 kdX5_above_298
      · have h := kb_b_f c_65 h
        refine lv_iconst (v := 1) hx hb kdX5_above_293 (by decide) ?_
        refine lv_goto (tgt := 298) hx hb kdX5_above_294 (by decide) ?_
        obtain rfl := Option.some.inj h
        exact W.zret (v := (1 : Int32)) (ty := .boolean) hx hb hr (by decide) (fun t ht hW => ⟨⟨rfl, by rw [ht]; exact hP, va_K.moved hW.alike hK, hD⟩, hS.F ht⟩) hS.2.2 kdX5_above_298

-- 423.ModuleKemModel.root.lean.txt
abbrev kWX5_root (cB cI cL cBB cII cSh : ClassId) (h_this : Nat) (a_this : Nat → Nat) (this_taped : Int32) (this_code : Int32) (this_kind : Int32) (this_rate : Int32) (this_filled : Int32) (this_total : Int64) (this_bitAt : Int32) (this_k : Int32) (this_e1 : Int32) (this_du : Int32) (this_dv : Int32) (f_this_limbs : Nat → Int64) (f_this_product : Nat → Int64) : va_W := [(h_this, koX5 a_this this_taped this_code this_kind this_rate this_filled this_total this_bitAt this_k this_e1 this_du this_dv), ((a_this 9), .inl (cL, 16, .inr (.inl f_this_limbs))), ((a_this 10), .inl (cL, 16, .inr (.inl f_this_product)))]
def krX5_root : Room := { frames := 1, cells := 0, slots := 0, locals := 29 }
set_option maxHeartbeats 4000000 in
set_option maxRecDepth 100000 in
theorem klX5_root_2 {p : Program} {l : Launch} {e : Env} {s : State} {m : MethodId} {args : Array Value} {below : List Frame} {meth : Method} {c : Code} {cells slots : Nat} {Q : State → Prop} {D : va_G} {cB cI cL cBB cII cSh : ClassId} {A : Nat → Prop} (C0 : CallFix p m c prog_8_method_18_code 7 s args kwA kRX5) (hlocks : meth.locks = false) (hK : va_K D kCl (kb_T cB cI cL cBB cII cSh) s) (hN : kb_N s) (hA : ∀ q, s.heap.size ≤ q → A q) (hcR : cells ≤ krX5_root.cells) (hsR : slots ≤ krX5_root.slots) (h_this : Nat) (a_this : Nat → Nat) (p1 : Int32) (p2 : Int32) (this_taped : Int32) (this_code : Int32) (this_kind : Int32) (this_rate : Int32) (this_filled : Int32) (this_total : Int64) (this_bitAt : Int32) (this_k : Int32) (this_e1 : Int32) (this_du : Int32) (this_dv : Int32) :
    ∀ (fuel : Nat) (x3p2 : Int32) (f_this_limbsp2 : Nat → Int64) (f_this_productp2 : Nat → Int64) (r : Int32 × (Nat → Int64) × (Nat → Int64)), kb_w (fun u : Int32 × (Nat → Int64) × (Nat → Int64) => kSX5_root_2 p1 p2 u.1 u.2.1 u.2.2) fuel (x3p2, f_this_limbsp2, f_this_productp2) = some r → ∀ (H : Heap) (locs : List Loc) (ls : Array Slot), va_P D kCl (kWX5_root cB cI cL cBB cII cSh h_this a_this this_taped this_code this_kind this_rate this_filled this_total this_bitAt this_k this_e1 this_du this_dv f_this_limbsp2 f_this_productp2) H → va_D A (kWX5_root cB cI cL cBB cII cSh h_this a_this this_taped this_code this_kind this_rate this_filled this_total this_bitAt this_k this_e1 this_du this_dv f_this_limbsp2 f_this_productp2) → va_S A s.heap H locs → lv_has ls 7 [(0, .ref h_this), (1, .int p1), (2, .int p2), (3, .int x3p2)] → (∀ (x3p2' : Int32) (f_this_limbsp2' : Nat → Int64) (f_this_productp2' : Nat → Int64), r = (x3p2', f_this_limbsp2', f_this_productp2') → ∀ (H : Heap) (locs : List Loc) (ls : Array Slot), va_P D kCl (kWX5_root cB cI cL cBB cII cSh h_this a_this this_taped this_code this_kind this_rate this_filled this_total this_bitAt this_k this_e1 this_du this_dv f_this_limbsp2' f_this_productp2') H → va_D A (kWX5_root cB cI cL cBB cII cSh h_this a_this this_taped this_code this_kind this_rate this_filled this_total this_bitAt this_k this_e1 this_du this_dv f_this_limbsp2' f_this_productp2') → va_S A s.heap H locs → lv_has ls 7 [(0, .ref h_this), (1, .int p1), (2, .int p2), (3, .int x3p2')] → W p l e krX5_root s m args below meth c H locs cells slots Q (F0 m 21 ls [])) → W p l e krX5_root s m args below meth c H locs cells slots Q (F0 m 2 ls []) := by
  obtain ⟨hx, hb, hml, hown, hts⟩ := id C0
  intro fuel
  induction fuel with
  | zero =>
    intro x3p2 f_this_limbsp2 f_this_productp2 r h
    exact absurd h (kb_w_z _ _ _)
  | succ fuel ih =>
    intro x3p2 f_this_limbsp2 f_this_productp2 r h H locs ls hP hD hS hl hk0
    obtain ⟨o, h, ho⟩ := kb_w_s h
    have h : kSX5_root_2 p1 p2 x3p2 f_this_limbsp2 f_this_productp2 = some o := h
    unfold kSX5_root_2 at h
    refine lv_aload_n hx hb kdX5_root_2 rfl (lv_at hl 0 rfl) ?_
    refine lv_iload_n hx hb kdX5_root_3 rfl (lv_at hl 3 rfl) ?_
    refine lv_iconst (v := 1) hx hb kdX5_root_4 (by decide) ?_
    refine lv_iadd hx hb kdX5_root_5 ?_
    refine lv_lconst (v := 0) hx hb kdX5_root_6 (by decide) ?_
    refine lv_iload_n hx hb kdX5_root_7 rfl (lv_at hl 2 rfl) ?_
    refine lv_iload_n hx hb kdX5_root_8 rfl (lv_at hl 1 rfl) ?_
    obtain ⟨u_4, hu_4, h⟩ := kb_o_s h
    obtain ⟨r_1, f_2, f_3⟩ := u_4
    have hC := (show ([0, 1, 2] : List Nat).map (fun i : Nat => (kWX5_root cB cI cL cBB cII cSh h_this a_this this_taped this_code this_kind this_rate this_filled this_total this_bitAt this_k this_e1 this_du this_dv f_this_limbsp2 f_this_productp2)[i]?) = List.map some (kWX5_above cB cI cL cBB cII cSh h_this a_this this_taped this_code this_kind this_rate this_filled this_total this_bitAt this_k this_e1 this_du this_dv f_this_limbsp2 f_this_productp2) from rfl)
    have hPc := kb_Psub hP ([0, 1, 2] : List Nat) hC
    have hDc := kb_Dsub hD ([0, 1, 2] : List Nat) hC (by simp [kb_nd])
    refine kb_call0 (va_runV (As := [.int (x3p2 + (1 : Int32)), .long (0 : Int64), .int p2, .int p1]) (rest := []) C0 (kcX5_above l D cB cI cL cBB cII cSh h_this a_this _ (x3p2 + (1 : Int32)) (0 : Int64) p2 p1 this_taped this_code this_kind this_rate this_filled this_total this_bitAt this_k this_e1 this_du this_dv f_this_limbsp2 f_this_productp2 (r_1, f_2, f_3) hu_4) (cwV 4 hts (kb_gV km_617 km_619 kp_1 km_6 km_620) rfl rfl rfl (by decide +kernel) ⟨Nat.le_of_ble_eq_true rfl, Nat.le_of_ble_eq_true rfl⟩) ⟨kb_P_bl, va_recv hK hP (ci := 5) (q0 := 0) rfl rfl, (fun U hU hW => ⟨rfl, by rw [hU], by rw [hU]; exact hPc, va_K.moved hW.alike hK, kb_N_to hW hN, hDc.weaken (fun _ _ _ _ => trivial)⟩)⟩ rfl rfl hl.1 rfl (lv_room (Nat.le_of_ble_eq_true rfl)) kdX5_root_9 ⟨hcR, hsR⟩) hP hD hS hA ([0, 1, 2] : List Nat) hC rfl (fun H locs hP hD hS => ?_)
    have hP : va_P D kCl (kWX5_root cB cI cL cBB cII cSh h_this a_this this_taped this_code this_kind this_rate this_filled this_total this_bitAt this_k this_e1 this_du this_dv f_2 f_3) H := hP
    have hD : va_D A (kWX5_root cB cI cL cBB cII cSh h_this a_this this_taped this_code this_kind this_rate this_filled this_total this_bitAt this_k this_e1 this_du this_dv f_2 f_3) := hD
    refine lv_if_ne (tgt := 21) hx hb kdX5_root_12 (by decide) (fun c_5 => ?_) (fun c_5 => ?_)
    · have h := kb_b_f c_5 h
      obtain rfl := Option.some.inj h
      exact hk0 x3p2 f_2 f_3 ho.symm _ _ _ hP hD hS (lv_sub hl [0, 1, 2, 3] rfl)
    · have h := kb_b_t c_5 h
      obtain ⟨x3_6, ex3_6⟩ : ∃ y : Int32, y = x3p2 + Int32.ofInt 1 := ⟨_, rfl⟩
      have h := kb_n_s ex3_6 h
      refine lv_iinc (v := x3_6) (lv' := [(3, .int x3_6), (0, .ref h_this), (1, .int p1), (2, .int p2)]) hx hb kdX5_root_15 hl (k := 3) rfl ex3_6.symm (by decide) rfl (fun ls hl => ?_)
      refine lv_goto (tgt := 2) hx hb kdX5_root_18 (by decide) ?_
      obtain rfl := Option.some.inj h
      exact ih x3_6 f_2 f_3 r ho _ _ _ hP hD hS (lv_sub hl [1, 2, 3, 0] rfl) hk0
set_option maxHeartbeats 4000000 in
set_option maxRecDepth 100000 in
theorem klX5_root_28 {p : Program} {l : Launch} {e : Env} {s : State} {m : MethodId} {args : Array Value} {below : List Frame} {meth : Method} {c : Code} {cells slots : Nat} {Q : State → Prop} {D : va_G} {cB cI cL cBB cII cSh : ClassId} {A : Nat → Prop} (C0 : CallFix p m c prog_8_method_18_code 7 s args kwA kRX5) (hlocks : meth.locks = false) (hK : va_K D kCl (kb_T cB cI cL cBB cII cSh) s) (hN : kb_N s) (hA : ∀ q, s.heap.size ≤ q → A q) (hcR : cells ≤ krX5_root.cells) (hsR : slots ≤ krX5_root.slots) (h_this : Nat) (a_this : Nat → Nat) (p1 : Int32) (p2 : Int32) (x3p2_7 : Int32) (this_taped : Int32) (this_code : Int32) (this_kind : Int32) (this_rate : Int32) (this_filled : Int32) (this_total : Int64) (this_bitAt : Int32) (this_k : Int32) (this_e1 : Int32) (this_du : Int32) (this_dv : Int32) :
    ∀ (fuel : Nat) (x4p28 : Int64) (x6p28 : Int32) (f_this_limbsp28 : Nat → Int64) (f_this_productp28 : Nat → Int64) (r : Int64 × Int32 × (Nat → Int64) × (Nat → Int64)), kb_w (fun u : Int64 × Int32 × (Nat → Int64) × (Nat → Int64) => kSX5_root_28 p1 p2 x3p2_7 u.1 u.2.1 u.2.2.1 u.2.2.2) fuel (x4p28, x6p28, f_this_limbsp28, f_this_productp28) = some r → ∀ (H : Heap) (locs : List Loc) (ls : Array Slot), va_P D kCl (kWX5_root cB cI cL cBB cII cSh h_this a_this this_taped this_code this_kind this_rate this_filled this_total this_bitAt this_k this_e1 this_du this_dv f_this_limbsp28 f_this_productp28) H → va_D A (kWX5_root cB cI cL cBB cII cSh h_this a_this this_taped this_code this_kind this_rate this_filled this_total this_bitAt this_k this_e1 this_du this_dv f_this_limbsp28 f_this_productp28) → va_S A s.heap H locs → lv_has ls 7 [(0, .ref h_this), (1, .int p1), (2, .int p2), (3, .int x3p2_7), (4, .long x4p28), (6, .int x6p28)] → (∀ (x4p28' : Int64) (x6p28' : Int32) (f_this_limbsp28' : Nat → Int64) (f_this_productp28' : Nat → Int64), r = (x4p28', x6p28', f_this_limbsp28', f_this_productp28') → ∀ (H : Heap) (locs : List Loc) (ls : Array Slot), va_P D kCl (kWX5_root cB cI cL cBB cII cSh h_this a_this this_taped this_code this_kind this_rate this_filled this_total this_bitAt this_k this_e1 this_du this_dv f_this_limbsp28' f_this_productp28') H → va_D A (kWX5_root cB cI cL cBB cII cSh h_this a_this this_taped this_code this_kind this_rate this_filled this_total this_bitAt this_k this_e1 this_du this_dv f_this_limbsp28' f_this_productp28') → va_S A s.heap H locs → lv_has ls 7 [(0, .ref h_this), (1, .int p1), (2, .int p2), (3, .int x3p2_7), (4, .long x4p28'), (6, .int x6p28')] → W p l e krX5_root s m args below meth c H locs cells slots Q (F0 m 65 ls [])) → W p l e krX5_root s m args below meth c H locs cells slots Q (F0 m 28 ls []) := by
  obtain ⟨hx, hb, hml, hown, hts⟩ := id C0
  intro fuel
  induction fuel with
  | zero =>
    intro x4p28 x6p28 f_this_limbsp28 f_this_productp28 r h
    exact absurd h (kb_w_z _ _ _)
  | succ fuel ih =>
    intro x4p28 x6p28 f_this_limbsp28 f_this_productp28 r h H locs ls hP hD hS hl hk0
    obtain ⟨o, h, ho⟩ := kb_w_s h
    have h : kSX5_root_28 p1 p2 x3p2_7 x4p28 x6p28 f_this_limbsp28 f_this_productp28 = some o := h
    unfold kSX5_root_28 at h
    refine lv_iload hx hb kdX5_root_28 (lv_at hl 5 rfl) ?_
    refine lv_if_lt (tgt := 65) hx hb kdX5_root_30 (by decide) (fun c_10 => ?_) (fun c_10 => ?_)
    · have h := kb_b_t c_10 h
      obtain rfl := Option.some.inj h
      exact hk0 x4p28 x6p28 f_this_limbsp28 f_this_productp28 ho.symm _ _ _ hP hD hS (lv_sub hl [0, 1, 2, 3, 4, 5] rfl)
    · have h := kb_b_f c_10 h
      refine lv_aload_n hx hb kdX5_root_33 rfl (lv_at hl 0 rfl) ?_
      refine lv_iload_n hx hb kdX5_root_34 rfl (lv_at hl 3 rfl) ?_
      refine lv_lload hx hb kdX5_root_35 (lv_at hl 4 rfl) ?_
      refine lv_lconst (v := 1) hx hb kdX5_root_37 (by decide) ?_
      refine lv_iload hx hb kdX5_root_38 (lv_at hl 5 rfl) ?_
      refine lv_lshl (v := ((1 : Int64) <<< (x6p28.toInt64 &&& 63))) hx hb kdX5_root_40 rfl ?_
      refine lv_lor hx hb kdX5_root_41 ?_
      refine lv_iload_n hx hb kdX5_root_42 rfl (lv_at hl 2 rfl) ?_
      refine lv_iload_n hx hb kdX5_root_43 rfl (lv_at hl 1 rfl) ?_
      obtain ⟨u_14, hu_14, h⟩ := kb_o_s h
      obtain ⟨r_11, f_12, f_13⟩ := u_14
      have hC := (show ([0, 1, 2] : List Nat).map (fun i : Nat => (kWX5_root cB cI cL cBB cII cSh h_this a_this this_taped this_code this_kind this_rate this_filled this_total this_bitAt this_k this_e1 this_du this_dv f_this_limbsp28 f_this_productp28)[i]?) = List.map some (kWX5_above cB cI cL cBB cII cSh h_this a_this this_taped this_code this_kind this_rate this_filled this_total this_bitAt this_k this_e1 this_du this_dv f_this_limbsp28 f_this_productp28) from rfl)
      have hPc := kb_Psub hP ([0, 1, 2] : List Nat) hC
      have hDc := kb_Dsub hD ([0, 1, 2] : List Nat) hC (by simp [kb_nd])
      refine kb_call0 (va_runV (As := [.int x3p2_7, .long (x4p28 ||| ((1 : Int64) <<< (x6p28.toInt64 &&& 63))), .int p2, .int p1]) (rest := []) C0 (kcX5_above l D cB cI cL cBB cII cSh h_this a_this _ x3p2_7 (x4p28 ||| ((1 : Int64) <<< (x6p28.toInt64 &&& 63))) p2 p1 this_taped this_code this_kind this_rate this_filled this_total this_bitAt this_k this_e1 this_du this_dv f_this_limbsp28 f_this_productp28 (r_11, f_12, f_13) hu_14) (cwV 4 hts (kb_gV km_617 km_619 kp_1 km_6 km_620) rfl rfl rfl (by decide +kernel) ⟨Nat.le_of_ble_eq_true rfl, Nat.le_of_ble_eq_true rfl⟩) ⟨kb_P_bl, va_recv hK hP (ci := 5) (q0 := 0) rfl rfl, (fun U hU hW => ⟨rfl, by rw [hU], by rw [hU]; exact hPc, va_K.moved hW.alike hK, kb_N_to hW hN, hDc.weaken (fun _ _ _ _ => trivial)⟩)⟩ rfl rfl hl.1 rfl (lv_room (Nat.le_of_ble_eq_true rfl)) kdX5_root_44 ⟨hcR, hsR⟩) hP hD hS hA ([0, 1, 2] : List Nat) hC rfl (fun H locs hP hD hS => ?_)
      have hP : va_P D kCl (kWX5_root cB cI cL cBB cII cSh h_this a_this this_taped this_code this_kind this_rate this_filled this_total this_bitAt this_k this_e1 this_du this_dv f_12 f_13) H := hP
      have hD : va_D A (kWX5_root cB cI cL cBB cII cSh h_this a_this this_taped this_code this_kind this_rate this_filled this_total this_bitAt this_k this_e1 this_du this_dv f_12 f_13) := hD
      refine lv_if_ne (tgt := 59) hx hb kdX5_root_47 (by decide) (fun c_15 => ?_) (fun c_15 => ?_)
      · have h := kb_b_f c_15 h
        obtain ⟨x6_16, ex6_16⟩ : ∃ y : Int32, y = x6p28 + Int32.ofInt (-1) := ⟨_, rfl⟩
        have h := kb_n_s ex6_16 h
        refine lv_iinc (v := x6_16) (lv' := [(6, .int x6_16), (0, .ref h_this), (1, .int p1), (2, .int p2), (3, .int x3p2_7), (4, .long x4p28)]) hx hb kdX5_root_59 hl (k := 5) rfl ex6_16.symm (by decide) rfl (fun ls hl => ?_)
        refine lv_goto (tgt := 28) hx hb kdX5_root_62 (by decide) ?_
        obtain rfl := Option.some.inj h
        exact ih x4p28 x6_16 f_12 f_13 r ho _ _ _ hP hD hS (lv_sub hl [1, 2, 3, 4, 5, 0] rfl) hk0
      · have h := kb_b_t c_15 h
        refine lv_lload hx hb kdX5_root_50 (lv_at hl 4 rfl) ?_
        refine lv_lconst (v := 1) hx hb kdX5_root_52 (by decide) ?_
        refine lv_iload hx hb kdX5_root_53 (lv_at hl 5 rfl) ?_
        refine lv_lshl (v := ((1 : Int64) <<< (x6p28.toInt64 &&& 63))) hx hb kdX5_root_55 rfl ?_
        refine lv_lor hx hb kdX5_root_56 ?_
        refine lv_topl (fun x4_17 ex4_17 => ?_)
        have h := kb_n_s ex4_17 h
        refine lv_lstore (lv' := [(4, .long x4_17), (0, .ref h_this), (1, .int p1), (2, .int p2), (3, .int x3p2_7), (6, .int x6p28)]) hx hb kdX5_root_57 hl (by decide) rfl (fun ls hl => ?_)
        obtain ⟨x6_18, ex6_18⟩ : ∃ y : Int32, y = x6p28 + Int32.ofInt (-1) := ⟨_, rfl⟩
        have h := kb_n_s ex6_18 h
        refine lv_iinc (v := x6_18) (lv' := [(6, .int x6_18), (4, .long x4_17), (0, .ref h_this), (1, .int p1), (2, .int p2), (3, .int x3p2_7)]) hx hb kdX5_root_59 hl (k := 5) rfl ex6_18.symm (by decide) rfl (fun ls hl => ?_)
        refine lv_goto (tgt := 28) hx hb kdX5_root_62 (by decide) ?_
        obtain rfl := Option.some.inj h
        exact ih x4_17 x6_18 f_12 f_13 r ho _ _ _ hP hD hS (lv_sub hl [2, 3, 4, 5, 1, 0] rfl) hk0
set_option maxHeartbeats 4000000 in
set_option maxRecDepth 100000 in
theorem kcX5_root (l : Launch) (D : va_G) (cB cI cL cBB cII cSh : ClassId) (h_this : Nat) (a_this : Nat → Nat) (sz : Nat) (p1 : Int32) (p2 : Int32) (this_taped : Int32) (this_code : Int32) (this_kind : Int32) (this_rate : Int32) (this_filled : Int32) (this_total : Int64) (this_bitAt : Int32) (this_k : Int32) (this_e1 : Int32) (this_du : Int32) (this_dv : Int32) (f_this_limbs : Nat → Int64) (f_this_product : Nat → Int64) (out : Int64 × (Nat → Int64) × (Nat → Int64)) (h : kFX5_root p1 p2 f_this_limbs f_this_product = some out) : Met l kyX5_root kwX5_root krX5_root (kb_P D kCl (kb_T cB cI cL cBB cII cSh) [.ref h_this, .int p1, .int p2] (kWX5_root cB cI cL cBB cII cSh h_this a_this this_taped this_code this_kind this_rate this_filled this_total this_bitAt this_k this_e1 this_du this_dv f_this_limbs f_this_product) sz) (kb_Q D kCl (kb_T cB cI cL cBB cII cSh) (va_A (kWX5_root cB cI cL cBB cII cSh h_this a_this this_taped this_code this_kind this_rate this_filled this_total this_bitAt this_k this_e1 this_du this_dv f_this_limbs f_this_product) sz) (some (.long out.1)) (kWX5_root cB cI cL cBB cII cSh h_this a_this this_taped this_code this_kind this_rate this_filled this_total this_bitAt this_k this_e1 this_du this_dv out.2.1 out.2.2)) 0 0 (va_A (kWX5_root cB cI cL cBB cII cSh h_this a_this this_taped this_code this_kind this_rate this_filled this_total this_bitAt this_k this_e1 this_du this_dv f_this_limbs f_this_product) sz) := by
  refine Met.ofW (cc := prog_8_method_18_code) (maxL := 7) (ret := (some .long)) (by decide) rfl ?_
  intro p e s m args below meth c s₁ B hml hv
  obtain ⟨rfl, hsz, hP, hK, hN, hD0⟩ := hv
  have hx := B.exec
  have hb := B.bytes
  have hr := B.returns
  have hts0 := atoms_spec (ws := kwX5_root) B.pre
  have hts : ∀ w ∈ kwA, w.before _ s = true := fun w h => hts0 w (List.mem_cons_of_mem _ h)
  have hown : s.vm.findClass kRX5 = some m.cls := findClass_of_methodNamed B.named
  have hlocks := B.notSynchronized
  subst hsz
  have hD := hD0.self (sz := s.heap.size)
  generalize hAe : va_A (kWX5_root cB cI cL cBB cII cSh h_this a_this this_taped this_code this_kind this_rate this_filled this_total this_bitAt this_k this_e1 this_du this_dv f_this_limbs f_this_product) s.heap.size = A at hD ⊢
  have hA : ∀ q : Nat, s.heap.size ≤ q → A q := fun q h => by rw [← hAe]; exact Or.inr h
  have hS : va_S A s.heap s.heap [] := va_S.rf
  have C0 : CallFix p m c prog_8_method_18_code 7 s _ kwA kRX5 := ⟨hx, hb, hml, hown, hts⟩
  have hl := lv_entry ([.ref h_this, .int p1, .int p2]) (n := 7) (Nat.le_of_ble_eq_true rfl)
  rw [lg_entry_eq]
  generalize (lg_sl ([.ref h_this, .int p1, .int p2]) ++ List.replicate (7 - (lg_sl ([.ref h_this, .int p1, .int p2])).length) Slot.unset).toArray = ls at hl ⊢
  have hl : lv_has ls 7 [(0, .ref h_this), (1, .int p1), (2, .int p2)] := hl
  unfold kFX5_root at h
  refine lv_iconst (v := 1) hx hb kdX5_root_0 (by decide) ?_
  refine lv_istore_n (lv' := [(3, .int (1 : Int32)), (0, .ref h_this), (1, .int p1), (2, .int p2)]) hx hb kdX5_root_1 rfl hl (by decide) rfl (fun ls hl => ?_)
  obtain ⟨r_24, hr_24, h⟩ := kb_o_s h
  refine klX5_root_2 C0 hlocks hK hN hA (by decide) (by decide) h_this a_this p1 p2 this_taped this_code this_kind this_rate this_filled this_total this_bitAt this_k this_e1 this_du this_dv 100000 (1 : Int32) f_this_limbs f_this_product r_24 hr_24 _ _ _ hP hD hS (lv_sub hl [1, 2, 3, 0] rfl) (fun x3p2_7 f_this_limbsp2_8 f_this_productp2_9 er_24 H locs ls hP hD hS hl => ?_)
  subst er_24
  refine lv_lconst (v := 0) hx hb kdX5_root_21 (by decide) ?_
  refine lv_lstore (lv' := [(4, .long (0 : Int64)), (0, .ref h_this), (1, .int p1), (2, .int p2), (3, .int x3p2_7)]) hx hb kdX5_root_22 hl (by decide) rfl (fun ls hl => ?_)
  refine lv_bipush (v := 63) hx hb kdX5_root_24 (by decide) ?_
  refine lv_istore (lv' := [(6, .int (63 : Int32)), (4, .long (0 : Int64)), (0, .ref h_this), (1, .int p1), (2, .int p2), (3, .int x3p2_7)]) hx hb kdX5_root_26 hl (by decide) rfl (fun ls hl => ?_)
  obtain ⟨r_23, hr_23, h⟩ := kb_o_s h
  refine klX5_root_28 C0 hlocks hK hN hA (by decide) (by decide) h_this a_this p1 p2 x3p2_7 this_taped this_code this_kind this_rate this_filled this_total this_bitAt this_k this_e1 this_du this_dv 100000 (0 : Int64) (63 : Int32) f_this_limbsp2_8 f_this_productp2_9 r_23 hr_23 _ _ _ hP hD hS (lv_sub hl [2, 3, 4, 5, 1, 0] rfl) (fun x4p28_19 x6p28_20 f_this_limbsp28_21 f_this_productp28_22 er_23 H locs ls hP hD hS hl => ?_)
  subst er_23
  refine lv_lload hx hb kdX5_root_65 (lv_at hl 4 rfl) ?_
  obtain rfl := Option.some.inj h
  exact W.lret (v := x4p28_19) hx hb hr (fun t ht hW => ⟨⟨rfl, by rw [ht]; exact hP, va_K.moved hW.alike hK, hD⟩, hS.F ht⟩) hS.2.2 kdX5_root_67

-- 424.ModuleKemModel.bit.lean.txt
abbrev kWX5_bit (cB cI cL cBB cII cSh : ClassId)   : va_W := []
def krX5_bit : Room := { frames := 0, cells := 0, slots := 0, locals := 0 }
set_option maxHeartbeats 4000000 in
set_option maxRecDepth 100000 in
theorem klX5_bit_4 {p : Program} {l : Launch} {e : Env} {s : State} {m : MethodId} {args : Array Value} {below : List Frame} {meth : Method} {c : Code} {cells slots : Nat} {Q : State → Prop} {D : va_G} {cB cI cL cBB cII cSh : ClassId} {A : Nat → Prop} (C0 : CallFix p m c prog_8_method_20_code 3 s args kwA kRX5) (hlocks : meth.locks = false) (hK : va_K D kCl (kb_T cB cI cL cBB cII cSh) s) (hN : kb_N s) (hA : ∀ q, s.heap.size ≤ q → A q) (hcR : cells ≤ krX5_bit.cells) (hsR : slots ≤ krX5_bit.slots)  (p1 : Int32) :
    ∀ (fuel : Nat) (x1p4 : Int32) (x2p4 : Int32) (r : Int32 × Int32), kb_w (fun u : Int32 × Int32 => kSX5_bit_4 p1 u.1 u.2) fuel (x1p4, x2p4) = some r → ∀ (H : Heap) (locs : List Loc) (ls : Array Slot), va_P D kCl (kWX5_bit cB cI cL cBB cII cSh) H → va_D A (kWX5_bit cB cI cL cBB cII cSh) → va_S A s.heap H locs → lv_has ls 3 [(0, .int p1), (1, .int x1p4), (2, .int x2p4)] → (∀ (x1p4' : Int32) (x2p4' : Int32), r = (x1p4', x2p4') → ∀ (H : Heap) (locs : List Loc) (ls : Array Slot), va_P D kCl (kWX5_bit cB cI cL cBB cII cSh) H → va_D A (kWX5_bit cB cI cL cBB cII cSh) → va_S A s.heap H locs → lv_has ls 3 [(0, .int p1), (1, .int x1p4'), (2, .int x2p4')] → W p l e krX5_bit s m args below meth c H locs cells slots Q (F0 m 43 ls [])) → W p l e krX5_bit s m args below meth c H locs cells slots Q (F0 m 4 ls []) := by
  obtain ⟨hx, hb, hml, hown, hts⟩ := id C0
  intro fuel
  induction fuel with
  | zero =>
    intro x1p4 x2p4 r h
    exact absurd h (kb_w_z _ _ _)
  | succ fuel ih =>
    intro x1p4 x2p4 r h H locs ls hP hD hS hl hk0
    obtain ⟨o, h, ho⟩ := kb_w_s h
    have h : kSX5_bit_4 p1 x1p4 x2p4 = some o := h
    unfold kSX5_bit_4 at h
    refine lv_iload_n hx hb kdX5_bit_4 rfl (lv_at hl 2 rfl) ?_
    refine lv_iload_n hx hb kdX5_bit_5 rfl (lv_at hl 0 rfl) ?_
    refine lv_sipush (v := 255) hx hb kdX5_bit_6 (by decide) ?_
    refine lv_irem hx hb kdX5_bit_9 (by decide) ?_
    refine lv_icmp_ge (tgt := 43) hx hb kdX5_bit_10 (by decide) (fun c_1 => ?_) (fun c_1 => ?_)
    · have h := kb_b_t c_1 h
      obtain rfl := Option.some.inj h
      exact hk0 x1p4 x2p4 ho.symm _ _ _ hP hD hS (lv_sub hl [0, 1, 2] rfl)
    · have h := kb_b_f c_1 h
      refine lv_iload_n hx hb kdX5_bit_13 rfl (lv_at hl 1 rfl) ?_
      refine lv_sipush (v := 128) hx hb kdX5_bit_14 (by decide) ?_
      refine lv_icmp_ge (tgt := 26) hx hb kdX5_bit_17 (by decide) (fun c_2 => ?_) (fun c_2 => ?_)
      · have h := kb_b_t c_2 h
        refine lv_iconst (v := 2) hx hb kdX5_bit_26 (by decide) ?_
        refine lv_iload_n hx hb kdX5_bit_27 rfl (lv_at hl 1 rfl) ?_
        refine lv_imul hx hb kdX5_bit_28 ?_
        refine lv_sipush (v := 255) hx hb kdX5_bit_29 (by decide) ?_
        refine lv_iand hx hb kdX5_bit_32 ?_
        refine lv_bipush (v := 113) hx hb kdX5_bit_33 (by decide) ?_
        refine lv_ixor hx hb kdX5_bit_35 ?_
        refine lv_topi (fun x1_3 ex1_3 => ?_)
        have h := kb_n_s ex1_3 h
        refine lv_istore_n (lv' := [(1, .int x1_3), (0, .int p1), (2, .int x2p4)]) hx hb kdX5_bit_36 rfl hl (by decide) rfl (fun ls hl => ?_)
        obtain ⟨x2_4, ex2_4⟩ : ∃ y : Int32, y = x2p4 + Int32.ofInt 1 := ⟨_, rfl⟩
        have h := kb_n_s ex2_4 h
        refine lv_iinc (v := x2_4) (lv' := [(2, .int x2_4), (1, .int x1_3), (0, .int p1)]) hx hb kdX5_bit_37 hl (k := 2) rfl ex2_4.symm (by decide) rfl (fun ls hl => ?_)
        refine lv_goto (tgt := 4) hx hb kdX5_bit_40 (by decide) ?_
        obtain rfl := Option.some.inj h
        exact ih x1_3 x2_4 r ho _ _ _ hP hD hS (lv_sub hl [2, 1, 0] rfl) hk0
      · have h := kb_b_f c_2 h
        refine lv_iconst (v := 2) hx hb kdX5_bit_20 (by decide) ?_
        refine lv_iload_n hx hb kdX5_bit_21 rfl (lv_at hl 1 rfl) ?_
        refine lv_imul hx hb kdX5_bit_22 ?_
        refine lv_goto (tgt := 36) hx hb kdX5_bit_23 (by decide) ?_
        refine lv_topi (fun x1_5 ex1_5 => ?_)
        have h := kb_n_s ex1_5 h
        refine lv_istore_n (lv' := [(1, .int x1_5), (0, .int p1), (2, .int x2p4)]) hx hb kdX5_bit_36 rfl hl (by decide) rfl (fun ls hl => ?_)
        obtain ⟨x2_6, ex2_6⟩ : ∃ y : Int32, y = x2p4 + Int32.ofInt 1 := ⟨_, rfl⟩
        have h := kb_n_s ex2_6 h
        refine lv_iinc (v := x2_6) (lv' := [(2, .int x2_6), (1, .int x1_5), (0, .int p1)]) hx hb kdX5_bit_37 hl (k := 2) rfl ex2_6.symm (by decide) rfl (fun ls hl => ?_)
        refine lv_goto (tgt := 4) hx hb kdX5_bit_40 (by decide) ?_
        obtain rfl := Option.some.inj h
        exact ih x1_5 x2_6 r ho _ _ _ hP hD hS (lv_sub hl [2, 1, 0] rfl) hk0
set_option maxHeartbeats 4000000 in
set_option maxRecDepth 100000 in
theorem kcX5_bit (l : Launch) (D : va_G) (cB cI cL cBB cII cSh : ClassId)  (sz : Nat) (p1 : Int32) (out : Int32) (h : kFX5_bit p1 = some out) : Met l kyX5_bit kwX5_bit krX5_bit (kb_P D kCl (kb_T cB cI cL cBB cII cSh) [.int p1] (kWX5_bit cB cI cL cBB cII cSh) sz) (kb_Q D kCl (kb_T cB cI cL cBB cII cSh) (va_A (kWX5_bit cB cI cL cBB cII cSh) sz) (some (.int out)) (kWX5_bit cB cI cL cBB cII cSh)) 0 0 (va_A (kWX5_bit cB cI cL cBB cII cSh) sz) := by
  refine Met.ofW (cc := prog_8_method_20_code) (maxL := 3) (ret := (some .int)) (by decide) rfl ?_
  intro p e s m args below meth c s₁ B hml hv
  obtain ⟨rfl, hsz, hP, hK, hN, hD0⟩ := hv
  have hx := B.exec
  have hb := B.bytes
  have hr := B.returns
  have hts0 := atoms_spec (ws := kwX5_bit) B.pre
  have hts : ∀ w ∈ kwA, w.before _ s = true := fun w h => hts0 w (List.mem_cons_of_mem _ h)
  have hown : s.vm.findClass kRX5 = some m.cls := findClass_of_methodNamed B.named
  have hlocks := B.notSynchronized
  subst hsz
  have hD := hD0.self (sz := s.heap.size)
  generalize hAe : va_A (kWX5_bit cB cI cL cBB cII cSh) s.heap.size = A at hD ⊢
  have hA : ∀ q : Nat, s.heap.size ≤ q → A q := fun q h => by rw [← hAe]; exact Or.inr h
  have hS : va_S A s.heap s.heap [] := va_S.rf
  have C0 : CallFix p m c prog_8_method_20_code 3 s _ kwA kRX5 := ⟨hx, hb, hml, hown, hts⟩
  have hl := lv_entry ([.int p1]) (n := 3) (Nat.le_of_ble_eq_true rfl)
  rw [lg_entry_eq]
  generalize (lg_sl ([.int p1]) ++ List.replicate (3 - (lg_sl ([.int p1])).length) Slot.unset).toArray = ls at hl ⊢
  have hl : lv_has ls 3 [(0, .int p1)] := hl
  unfold kFX5_bit at h
  refine lv_iconst (v := 1) hx hb kdX5_bit_0 (by decide) ?_
  refine lv_istore_n (lv' := [(1, .int (1 : Int32)), (0, .int p1)]) hx hb kdX5_bit_1 rfl hl (by decide) rfl (fun ls hl => ?_)
  refine lv_iconst (v := 0) hx hb kdX5_bit_2 (by decide) ?_
  refine lv_istore_n (lv' := [(2, .int (0 : Int32)), (1, .int (1 : Int32)), (0, .int p1)]) hx hb kdX5_bit_3 rfl hl (by decide) rfl (fun ls hl => ?_)
  obtain ⟨r_9, hr_9, h⟩ := kb_o_s h
  refine klX5_bit_4 C0 hlocks hK hN hA (by decide) (by decide) p1 100000 (1 : Int32) (0 : Int32) r_9 hr_9 _ _ _ hP hD hS (lv_sub hl [2, 1, 0] rfl) (fun x1p4_7 x2p4_8 er_9 H locs ls hP hD hS hl => ?_)
  subst er_9
  refine lv_iload_n hx hb kdX5_bit_43 rfl (lv_at hl 1 rfl) ?_
  refine lv_iconst (v := 1) hx hb kdX5_bit_44 (by decide) ?_
  refine lv_iand hx hb kdX5_bit_45 ?_
  obtain rfl := Option.some.inj h
  exact W.iret (v := (x1p4_7 &&& (1 : Int32))) hx hb hr (fun t ht hW => ⟨⟨rfl, by rw [ht]; exact hP, va_K.moved hW.alike hK, hD⟩, hS.F ht⟩) hS.2.2 kdX5_bit_46

-- 425.ModuleKemModel.sponge.lean.txt
abbrev kWX5_sponge (cB cI cL cBB cII cSh : ClassId) (h_this : Nat) (a_this : Nat → Nat) (this_taped : Int32) (this_code : Int32) (this_kind : Int32) (this_rate : Int32) (this_filled : Int32) (this_total : Int64) (this_bitAt : Int32) (this_k : Int32) (this_e1 : Int32) (this_du : Int32) (this_dv : Int32) : va_W := [(h_this, koX5 a_this this_taped this_code this_kind this_rate this_filled this_total this_bitAt this_k this_e1 this_du this_dv)]
def krX5_sponge : Room := { frames := 0, cells := 0, slots := 0, locals := 0 }
set_option maxHeartbeats 4000000 in
set_option maxRecDepth 100000 in
theorem kcX5_sponge (l : Launch) (D : va_G) (cB cI cL cBB cII cSh : ClassId) (h_this : Nat) (a_this : Nat → Nat) (sz : Nat) (this_taped : Int32) (this_code : Int32) (this_kind : Int32) (this_rate : Int32) (this_filled : Int32) (this_total : Int64) (this_bitAt : Int32) (this_k : Int32) (this_e1 : Int32) (this_du : Int32) (this_dv : Int32) (out : Int32) (h : kFX5_sponge this_kind = some out) : Met l kyX5_sponge kwX5_sponge krX5_sponge (kb_P D kCl (kb_T cB cI cL cBB cII cSh) [.ref h_this] (kWX5_sponge cB cI cL cBB cII cSh h_this a_this this_taped this_code this_kind this_rate this_filled this_total this_bitAt this_k this_e1 this_du this_dv) sz) (kb_Q D kCl (kb_T cB cI cL cBB cII cSh) (va_A (kWX5_sponge cB cI cL cBB cII cSh h_this a_this this_taped this_code this_kind this_rate this_filled this_total this_bitAt this_k this_e1 this_du this_dv) sz) (some (.int out)) (kWX5_sponge cB cI cL cBB cII cSh h_this a_this this_taped this_code this_kind this_rate this_filled this_total this_bitAt this_k this_e1 this_du this_dv)) 0 0 (va_A (kWX5_sponge cB cI cL cBB cII cSh h_this a_this this_taped this_code this_kind this_rate this_filled this_total this_bitAt this_k this_e1 this_du this_dv) sz) := by
  refine Met.ofW (cc := prog_8_method_22_code) (maxL := 1) (ret := (some .boolean)) (by decide) rfl ?_
  intro p e s m args below meth c s₁ B hml hv
  obtain ⟨rfl, hsz, hP, hK, hN, hD0⟩ := hv
  have hx := B.exec
  have hb := B.bytes
  have hr := B.returns
  have hts0 := atoms_spec (ws := kwX5_sponge) B.pre
  have hts : ∀ w ∈ kwA, w.before _ s = true := fun w h => hts0 w (List.mem_cons_of_mem _ h)
  have hown : s.vm.findClass kRX5 = some m.cls := findClass_of_methodNamed B.named
  have hlocks := B.notSynchronized
  subst hsz
  have hD := hD0.self (sz := s.heap.size)
  generalize hAe : va_A (kWX5_sponge cB cI cL cBB cII cSh h_this a_this this_taped this_code this_kind this_rate this_filled this_total this_bitAt this_k this_e1 this_du this_dv) s.heap.size = A at hD ⊢
  have hA : ∀ q : Nat, s.heap.size ≤ q → A q := fun q h => by rw [← hAe]; exact Or.inr h
  have hS : va_S A s.heap s.heap [] := va_S.rf
  have C0 : CallFix p m c prog_8_method_22_code 1 s _ kwA kRX5 := ⟨hx, hb, hml, hown, hts⟩
  have hl := lv_entry ([.ref h_this]) (n := 1) (Nat.le_of_ble_eq_true rfl)
  rw [lg_entry_eq]
  generalize (lg_sl ([.ref h_this]) ++ List.replicate (1 - (lg_sl ([.ref h_this])).length) Slot.unset).toArray = ls at hl ⊢
  have hl : lv_has ls 1 [(0, .ref h_this)] := hl
  unfold kFX5_sponge at h
  refine lv_aload_n hx hb kdX5_sponge_0 rfl (lv_at hl 0 rfl) ?_
  refine va_get (ci := 5) (v := .int this_kind) (C := kRX5) (T := kTX5) (N := 35) hx hb hts kinX5 hown hK hP 0 rfl rfl 18 (by decide) (hts _ km_699) (fun _ h9 => h9) rfl kdX5_sponge_1 ?_
  refine lv_bipush (v := 6) hx hb kdX5_sponge_4 (by decide) ?_
  refine lv_icmp_le (tgt := 13) hx hb kdX5_sponge_6 (by decide) (fun c_1 => ?_) (fun c_1 => ?_)
  · have h := kb_b_t c_1 h
    refine lv_iconst (v := 0) hx hb kdX5_sponge_13 (by decide) ?_
    obtain rfl := Option.some.inj h
    exact W.zret (v := (0 : Int32)) (ty := .boolean) hx hb hr (by decide) (fun t ht hW => ⟨⟨rfl, by rw [ht]; exact hP, va_K.moved hW.alike hK, hD⟩, hS.F ht⟩) hS.2.2 kdX5_sponge_14
  · have h := kb_b_f c_1 h
    refine lv_iconst (v := 1) hx hb kdX5_sponge_9 (by decide) ?_
    refine lv_goto (tgt := 14) hx hb kdX5_sponge_10 (by decide) ?_
    obtain rfl := Option.some.inj h
    exact W.zret (v := (1 : Int32)) (ty := .boolean) hx hb hr (by decide) (fun t ht hW => ⟨⟨rfl, by rw [ht]; exact hP, va_K.moved hW.alike hK, hD⟩, hS.F ht⟩) hS.2.2 kdX5_sponge_14

-- 426.ModuleKemModel.blockOf.lean.txt
abbrev kWX5_blockOf (cB cI cL cBB cII cSh : ClassId)   : va_W := []
def krX5_blockOf : Room := { frames := 0, cells := 0, slots := 0, locals := 0 }
set_option maxHeartbeats 4000000 in
set_option maxRecDepth 100000 in
theorem kcX5_blockOf (l : Launch) (D : va_G) (cB cI cL cBB cII cSh : ClassId)  (sz : Nat) (p1 : Int32) (out : Int32) (h : kFX5_blockOf p1 = some out) : Met l kyX5_blockOf kwX5_blockOf krX5_blockOf (kb_P D kCl (kb_T cB cI cL cBB cII cSh) [.int p1] (kWX5_blockOf cB cI cL cBB cII cSh) sz) (kb_Q D kCl (kb_T cB cI cL cBB cII cSh) (va_A (kWX5_blockOf cB cI cL cBB cII cSh) sz) (some (.int out)) (kWX5_blockOf cB cI cL cBB cII cSh)) 0 0 (va_A (kWX5_blockOf cB cI cL cBB cII cSh) sz) := by
  refine Met.ofW (cc := prog_8_method_23_code) (maxL := 1) (ret := (some .int)) (by decide) rfl ?_
  intro p e s m args below meth c s₁ B hml hv
  obtain ⟨rfl, hsz, hP, hK, hN, hD0⟩ := hv
  have hx := B.exec
  have hb := B.bytes
  have hr := B.returns
  have hts0 := atoms_spec (ws := kwX5_blockOf) B.pre
  have hts : ∀ w ∈ kwA, w.before _ s = true := fun w h => hts0 w (List.mem_cons_of_mem _ h)
  have hown : s.vm.findClass kRX5 = some m.cls := findClass_of_methodNamed B.named
  have hlocks := B.notSynchronized
  subst hsz
  have hD := hD0.self (sz := s.heap.size)
  generalize hAe : va_A (kWX5_blockOf cB cI cL cBB cII cSh) s.heap.size = A at hD ⊢
  have hA : ∀ q : Nat, s.heap.size ≤ q → A q := fun q h => by rw [← hAe]; exact Or.inr h
  have hS : va_S A s.heap s.heap [] := va_S.rf
  have C0 : CallFix p m c prog_8_method_23_code 1 s _ kwA kRX5 := ⟨hx, hb, hml, hown, hts⟩
  have hl := lv_entry ([.int p1]) (n := 1) (Nat.le_of_ble_eq_true rfl)
  rw [lg_entry_eq]
  generalize (lg_sl ([.int p1]) ++ List.replicate (1 - (lg_sl ([.int p1])).length) Slot.unset).toArray = ls at hl ⊢
  have hl : lv_has ls 1 [(0, .int p1)] := hl
  unfold kFX5_blockOf at h
  refine lv_iload_n hx hb kdX5_blockOf_0 rfl (lv_at hl 0 rfl) ?_
  refine lv_iconst (v := 1) hx hb kdX5_blockOf_1 (by decide) ?_
  refine lv_icmp_eq (tgt := 10) hx hb kdX5_blockOf_2 (by decide) (fun c_1 => ?_) (fun c_1 => ?_)
  · have h := kb_b_t c_1 h
    refine lv_bipush (v := 64) hx hb kdX5_blockOf_10 (by decide) ?_
    refine lv_goto (tgt := 18) hx hb kdX5_blockOf_12 (by decide) ?_
    obtain rfl := Option.some.inj h
    exact W.iret (v := (64 : Int32)) hx hb hr (fun t ht hW => ⟨⟨rfl, by rw [ht]; exact hP, va_K.moved hW.alike hK, hD⟩, hS.F ht⟩) hS.2.2 kdX5_blockOf_18
  · have h := kb_b_f c_1 h
    refine lv_iload_n hx hb kdX5_blockOf_5 rfl (lv_at hl 0 rfl) ?_
    refine lv_iconst (v := 4) hx hb kdX5_blockOf_6 (by decide) ?_
    refine lv_icmp_ne (tgt := 15) hx hb kdX5_blockOf_7 (by decide) (fun c_2 => ?_) (fun c_2 => ?_)
    · have h := kb_b_f c_2 h
      refine lv_sipush (v := 128) hx hb kdX5_blockOf_15 (by decide) ?_
      obtain rfl := Option.some.inj h
      exact W.iret (v := (128 : Int32)) hx hb hr (fun t ht hW => ⟨⟨rfl, by rw [ht]; exact hP, va_K.moved hW.alike hK, hD⟩, hS.F ht⟩) hS.2.2 kdX5_blockOf_18
    · have h := kb_b_t c_2 h
      refine lv_bipush (v := 64) hx hb kdX5_blockOf_10 (by decide) ?_
      refine lv_goto (tgt := 18) hx hb kdX5_blockOf_12 (by decide) ?_
      obtain rfl := Option.some.inj h
      exact W.iret (v := (64 : Int32)) hx hb hr (fun t ht hW => ⟨⟨rfl, by rw [ht]; exact hP, va_K.moved hW.alike hK, hD⟩, hS.F ht⟩) hS.2.2 kdX5_blockOf_18
