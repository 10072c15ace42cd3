abbrev kWX4_target (cB cI cL cBB cII cSh : ClassId)   : va_W := []
def krX4_target : Room := { frames := 0, cells := 0, slots := 0, locals := 0 }
set_option maxHeartbeats 4000000 in
set_option maxRecDepth 100000 in
theorem kcX4_target (l : Launch) (D : va_G) (cB cI cL cBB cII cSh : ClassId)  (sz : Nat) (p1 : Int32) (p2 : Int32) (out : Int32) (h : kFX4_target p1 p2 = some out) : Met l kyX4_target kwX4_target krX4_target (kb_P D kCl (kb_T cB cI cL cBB cII cSh) [.int p1, .int p2] (kWX4_target cB cI cL cBB cII cSh) sz) (kb_Q D kCl (kb_T cB cI cL cBB cII cSh) (va_A (kWX4_target cB cI cL cBB cII cSh) sz) (some (.int out)) (kWX4_target cB cI cL cBB cII cSh)) 0 0 (va_A (kWX4_target cB cI cL cBB cII cSh) sz) := by
  refine Met.ofW (cc := prog_6_method_2_code) (maxL := 2) (ret := (some .int)) (by decide) rfl ?_
  intro p e s m args below meth c s₁ B hml hv
  obtain ⟨rfl, hsz, hP, hK, hN, hD0⟩ := hv
  have hx := B.exec
  have hb := B.bytes
  have hr := B.returns
  have hts0 := atoms_spec (ws := kwX4_target) B.pre
  have hts : ∀ w ∈ kwA, w.before _ s = true := fun w h => hts0 w (List.mem_cons_of_mem _ h)
  have hown : s.vm.findClass kRX4 = some m.cls := findClass_of_methodNamed B.named
  have hlocks := B.notSynchronized
  subst hsz
  have hD := hD0.self (sz := s.heap.size)
  generalize hAe : va_A (kWX4_target cB cI cL cBB cII cSh) s.heap.size = A at hD ⊢
  have hA : ∀ q : Nat, s.heap.size ≤ q → A q := fun q h => by rw [← hAe]; exact Or.inr h
  have hS : va_S A s.heap s.heap [] := va_S.rf
  have C0 : CallFix p m c prog_6_method_2_code 2 s _ kwA kRX4 := ⟨hx, hb, hml, hown, hts⟩
  have hl := lv_entry ([.int p1, .int p2]) (n := 2) (Nat.le_of_ble_eq_true rfl)
  rw [lg_entry_eq]
  generalize (lg_sl ([.int p1, .int p2]) ++ List.replicate (2 - (lg_sl ([.int p1, .int p2])).length) Slot.unset).toArray = ls at hl ⊢
  have hl : lv_has ls 2 [(0, .int p1), (1, .int p2)] := hl
  unfold kFX4_target at h
  refine lv_iload_n hx hb kdX4_target_0 rfl (lv_at hl 1 rfl) ?_
  refine lv_iconst (v := 5) hx hb kdX4_target_1 (by decide) ?_
  refine lv_iconst (v := 2) hx hb kdX4_target_2 (by decide) ?_
  refine lv_iload_n hx hb kdX4_target_3 rfl (lv_at hl 0 rfl) ?_
  refine lv_imul hx hb kdX4_target_4 ?_
  refine lv_iconst (v := 3) hx hb kdX4_target_5 (by decide) ?_
  refine lv_iload_n hx hb kdX4_target_6 rfl (lv_at hl 1 rfl) ?_
  refine lv_imul hx hb kdX4_target_7 ?_
  refine lv_iadd hx hb kdX4_target_8 ?_
  refine lv_iconst (v := 5) hx hb kdX4_target_9 (by decide) ?_
  refine lv_irem hx hb kdX4_target_10 (by decide) ?_
  refine lv_topi (fun q_1 eq_1 => ?_)
  have h := kb_n_s eq_1 h
  refine lv_imul hx hb kdX4_target_11 ?_
  refine lv_iadd hx hb kdX4_target_12 ?_
  obtain rfl := Option.some.inj h
  exact W.iret (v := (p2 + ((5 : Int32) * q_1))) hx hb hr (fun t ht hW => ⟨⟨rfl, by rw [ht]; exact hP, va_K.moved hW.alike hK, hD⟩, hS.F ht⟩) hS.2.2 kdX4_target_13
abbrev kWX4_start (cB cI cL cBB cII cSh : ClassId) (h_this : Nat) (a_this : Nat → Nat) (this_rate : Int32) (this_place : Int32) (f_this_lanes : Nat → Int64) : va_W := [(h_this, koX4 a_this this_rate this_place), ((a_this 0), .inl (cL, 25, .inr (.inl f_this_lanes)))]
def krX4_start : Room := { frames := 0, cells := 0, slots := 0, locals := 0 }
set_option maxHeartbeats 4000000 in
set_option maxRecDepth 100000 in
theorem klX4_start_2 {p : Program} {l : Launch} {e : Env} {s : State} {m : MethodId} {args : Array Value} {below : List Frame} {meth : Method} {c : Code} {cells slots : Nat} {Q : State → Prop} {D : va_G} {cB cI cL cBB cII cSh : ClassId} {A : Nat → Prop} (C0 : CallFix p m c prog_6_method_6_code 3 s args kwA kRX4) (hlocks : meth.locks = false) (hK : va_K D kCl (kb_T cB cI cL cBB cII cSh) s) (hN : kb_N s) (hA : ∀ q, s.heap.size ≤ q → A q) (hcR : cells ≤ krX4_start.cells) (hsR : slots ≤ krX4_start.slots) (h_this : Nat) (a_this : Nat → Nat) (p1 : Int32) (this_rate : Int32) (this_place : Int32) :
    ∀ (fuel : Nat) (x2p2 : Int32) (f_this_lanesp2 : Nat → Int64) (r : Int32 × (Nat → Int64)), kb_w (fun u : Int32 × (Nat → Int64) => kSX4_start_2 u.1 u.2) fuel (x2p2, f_this_lanesp2) = some r → ∀ (H : Heap) (locs : List Loc) (ls : Array Slot), va_P D kCl (kWX4_start cB cI cL cBB cII cSh h_this a_this this_rate this_place f_this_lanesp2) H → va_D A (kWX4_start cB cI cL cBB cII cSh h_this a_this this_rate this_place f_this_lanesp2) → va_S A s.heap H locs → lv_has ls 3 [(0, .ref h_this), (1, .int p1), (2, .int x2p2)] → (∀ (x2p2' : Int32) (f_this_lanesp2' : Nat → Int64), r = (x2p2', f_this_lanesp2') → ∀ (H : Heap) (locs : List Loc) (ls : Array Slot), va_P D kCl (kWX4_start cB cI cL cBB cII cSh h_this a_this this_rate this_place f_this_lanesp2') H → va_D A (kWX4_start cB cI cL cBB cII cSh h_this a_this this_rate this_place f_this_lanesp2') → va_S A s.heap H locs → lv_has ls 3 [(0, .ref h_this), (1, .int p1), (2, .int x2p2')] → W p l e krX4_start s m args below meth c H locs cells slots Q (F0 m 21 ls [])) → W p l e krX4_start s m args below meth c H locs cells slots Q (F0 m 2 ls []) := by
  obtain ⟨hx, hb, hml, hown, hts⟩ := id C0
  intro fuel
  induction fuel with
  | zero =>
    intro x2p2 f_this_lanesp2 r h
    exact absurd h (kb_w_z _ _ _)
  | succ fuel ih =>
    intro x2p2 f_this_lanesp2 r h H locs ls hP hD hS hl hk0
    obtain ⟨o, h, ho⟩ := kb_w_s h
    have h : kSX4_start_2 x2p2 f_this_lanesp2 = some o := h
    unfold kSX4_start_2 at h
    refine lv_iload_n hx hb kdX4_start_2 rfl (lv_at hl 2 rfl) ?_
    refine lv_bipush (v := 25) hx hb kdX4_start_3 (by decide) ?_
    refine lv_icmp_ge (tgt := 21) hx hb kdX4_start_5 (by decide) (fun c_1 => ?_) (fun c_1 => ?_)
    · have h := kb_b_t c_1 h
      obtain rfl := Option.some.inj h
      exact hk0 x2p2 f_this_lanesp2 ho.symm _ _ _ hP hD hS (lv_sub hl [0, 1, 2] rfl)
    · have h := kb_b_f c_1 h
      refine lv_aload_n hx hb kdX4_start_8 rfl (lv_at hl 0 rfl) ?_
      refine va_get (ci := 4) (v := .ref (a_this 0)) (C := kRX4) (T := kTX4) (N := 8) hx hb hts kinX4 hown hK hP 0 rfl rfl 0 (by decide) (hts _ km_78) (fun _ h9 => h9) rfl kdX4_start_9 ?_
      refine lv_iload_n hx hb kdX4_start_12 rfl (lv_at hl 2 rfl) ?_
      refine lv_lconst (v := 0) hx hb kdX4_start_13 (by decide) ?_
      obtain ⟨g_2, h⟩ := kb_g_s h
      refine va_last hx hb hK hP hD hS 1 2 rfl rfl (kb_in_v g_2) kdX4_start_14 (fun H locs hP hD hS => ?_)
      obtain ⟨f_3, ef_3⟩ : ∃ y, y = vp_updL f_this_lanesp2 x2p2.toNatClampNeg (0 : Int64) := ⟨_, rfl⟩
      have h := kb_n_s ef_3 h
      have hP : va_P D kCl (kWX4_start cB cI cL cBB cII cSh h_this a_this this_rate this_place f_3) H := by rw [ef_3]; exact hP
      have hD : va_D A (kWX4_start cB cI cL cBB cII cSh h_this a_this this_rate this_place f_3) := by rw [ef_3]; exact hD
      obtain ⟨x2_4, ex2_4⟩ : ∃ y : Int32, y = x2p2 + Int32.ofInt 1 := ⟨_, rfl⟩
      have h := kb_n_s ex2_4 h
      refine lv_iinc (v := x2_4) (lv' := [(2, .int x2_4), (0, .ref h_this), (1, .int p1)]) hx hb kdX4_start_15 hl (k := 2) rfl ex2_4.symm (by decide) rfl (fun ls hl => ?_)
      refine lv_goto (tgt := 2) hx hb kdX4_start_18 (by decide) ?_
      obtain rfl := Option.some.inj h
      exact ih x2_4 f_3 r ho _ _ _ hP hD hS (lv_sub hl [1, 2, 0] rfl) hk0
set_option maxHeartbeats 4000000 in
set_option maxRecDepth 100000 in
theorem kcX4_start (l : Launch) (D : va_G) (cB cI cL cBB cII cSh : ClassId) (h_this : Nat) (a_this : Nat → Nat) (sz : Nat) (p1 : Int32) (this_rate : Int32) (this_place : Int32) (f_this_lanes : Nat → Int64) (out : Int32 × Int32 × (Nat → Int64)) (h : kFX4_start p1 f_this_lanes = some out) : Met l kyX4_start kwX4_start krX4_start (kb_P D kCl (kb_T cB cI cL cBB cII cSh) [.ref h_this, .int p1] (kWX4_start cB cI cL cBB cII cSh h_this a_this this_rate this_place f_this_lanes) sz) (kb_Q D kCl (kb_T cB cI cL cBB cII cSh) (va_A (kWX4_start cB cI cL cBB cII cSh h_this a_this this_rate this_place f_this_lanes) sz) none (kWX4_start cB cI cL cBB cII cSh h_this a_this out.2.1 out.1 out.2.2)) 0 0 (va_A (kWX4_start cB cI cL cBB cII cSh h_this a_this this_rate this_place f_this_lanes) sz) := by
  refine Met.ofW (cc := prog_6_method_6_code) (maxL := 3) (ret := none) (by decide) rfl ?_
  intro p e s m args below meth c s₁ B hml hv
  obtain ⟨rfl, hsz, hP, hK, hN, hD0⟩ := hv
  have hx := B.exec
  have hb := B.bytes
  have hr := B.returns
  have hts0 := atoms_spec (ws := kwX4_start) B.pre
  have hts : ∀ w ∈ kwA, w.before _ s = true := fun w h => hts0 w (List.mem_cons_of_mem _ h)
  have hown : s.vm.findClass kRX4 = some m.cls := findClass_of_methodNamed B.named
  have hlocks := B.notSynchronized
  subst hsz
  have hD := hD0.self (sz := s.heap.size)
  generalize hAe : va_A (kWX4_start cB cI cL cBB cII cSh h_this a_this this_rate this_place f_this_lanes) s.heap.size = A at hD ⊢
  have hA : ∀ q : Nat, s.heap.size ≤ q → A q := fun q h => by rw [← hAe]; exact Or.inr h
  have hS : va_S A s.heap s.heap [] := va_S.rf
  have C0 : CallFix p m c prog_6_method_6_code 3 s _ kwA kRX4 := ⟨hx, hb, hml, hown, hts⟩
  have hl := lv_entry ([.ref h_this, .int p1]) (n := 3) (Nat.le_of_ble_eq_true rfl)
  rw [lg_entry_eq]
  generalize (lg_sl ([.ref h_this, .int p1]) ++ List.replicate (3 - (lg_sl ([.ref h_this, .int p1])).length) Slot.unset).toArray = ls at hl ⊢
  have hl : lv_has ls 3 [(0, .ref h_this), (1, .int p1)] := hl
  unfold kFX4_start at h
  refine lv_iconst (v := 0) hx hb kdX4_start_0 (by decide) ?_
  refine lv_istore_n (lv' := [(2, .int (0 : Int32)), (0, .ref h_this), (1, .int p1)]) hx hb kdX4_start_1 rfl hl (by decide) rfl (fun ls hl => ?_)
  obtain ⟨r_7, hr_7, h⟩ := kb_o_s h
  refine klX4_start_2 C0 hlocks hK hN hA (by decide) (by decide) h_this a_this p1 this_rate this_place 100000 (0 : Int32) f_this_lanes r_7 hr_7 _ _ _ hP hD hS (lv_sub hl [1, 2, 0] rfl) (fun x2p2_5 f_this_lanesp2_6 er_7 H locs ls hP hD hS hl => ?_)
  subst er_7
  try dsimp only at h
  refine lv_aload_n hx hb kdX4_start_21 rfl (lv_at hl 0 rfl) ?_
  refine lv_iload_n hx hb kdX4_start_22 rfl (lv_at hl 1 rfl) ?_
  refine va_put (ci := 4) (v := .int p1) (C := kRX4) (T := kTX4) (N := 8) hx hb hts kinX4 ktyX4 ktyX4_ok knX4 hown hK hP hD hS 0 rfl rfl 6 (by decide) (hts _ km_84) (fun _ h9 => h9) rfl (ktyX4_ok 6 (by decide)) rfl rfl (Nat.le_of_ble_eq_true rfl) kdX4_start_23 (fun H locs hP hD hS => ?_)
  have hP : va_P D kCl (kWX4_start cB cI cL cBB cII cSh h_this a_this p1 this_place f_this_lanesp2_6) H := hP
  have hD : va_D A (kWX4_start cB cI cL cBB cII cSh h_this a_this p1 this_place f_this_lanesp2_6) := hD
  refine lv_aload_n hx hb kdX4_start_26 rfl (lv_at hl 0 rfl) ?_
  refine lv_iconst (v := 0) hx hb kdX4_start_27 (by decide) ?_
  refine va_put (ci := 4) (v := .int (0 : Int32)) (C := kRX4) (T := kTX4) (N := 8) hx hb hts kinX4 ktyX4 ktyX4_ok knX4 hown hK hP hD hS 0 rfl rfl 7 (by decide) (hts _ km_85) (fun _ h9 => h9) rfl (ktyX4_ok 7 (by decide)) rfl rfl (Nat.le_of_ble_eq_true rfl) kdX4_start_28 (fun H locs hP hD hS => ?_)
  have hP : va_P D kCl (kWX4_start cB cI cL cBB cII cSh h_this a_this p1 (0 : Int32) f_this_lanesp2_6) H := hP
  have hD : va_D A (kWX4_start cB cI cL cBB cII cSh h_this a_this p1 (0 : Int32) f_this_lanesp2_6) := hD
  obtain rfl := Option.some.inj h
  exact W.vret hx hb hr (fun t ht hW => ⟨⟨rfl, by rw [ht]; exact hP, va_K.moved hW.alike hK, hD⟩, hS.F ht⟩) hS.2.2 kdX4_start_31
abbrev kWX4_mixIn (cB cI cL cBB cII cSh : ClassId) (h_this : Nat) (a_this : Nat → Nat) (this_rate : Int32) (this_place : Int32) (f_this_lanes : Nat → Int64) : va_W := [(h_this, koX4 a_this this_rate this_place), ((a_this 0), .inl (cL, 25, .inr (.inl f_this_lanes)))]
def krX4_mixIn : Room := { frames := 0, cells := 0, slots := 0, locals := 0 }
set_option maxHeartbeats 4000000 in
set_option maxRecDepth 100000 in
theorem kcX4_mixIn (l : Launch) (D : va_G) (cB cI cL cBB cII cSh : ClassId) (h_this : Nat) (a_this : Nat → Nat) (sz : Nat) (p1 : Int32) (p2 : Int32) (this_rate : Int32) (this_place : Int32) (f_this_lanes : Nat → Int64) (out : (Nat → Int64)) (h : kFX4_mixIn p1 p2 f_this_lanes = some out) : Met l kyX4_mixIn kwX4_mixIn krX4_mixIn (kb_P D kCl (kb_T cB cI cL cBB cII cSh) [.ref h_this, .int p1, .int p2] (kWX4_mixIn cB cI cL cBB cII cSh h_this a_this this_rate this_place f_this_lanes) sz) (kb_Q D kCl (kb_T cB cI cL cBB cII cSh) (va_A (kWX4_mixIn cB cI cL cBB cII cSh h_this a_this this_rate this_place f_this_lanes) sz) none (kWX4_mixIn cB cI cL cBB cII cSh h_this a_this this_rate this_place out)) 0 0 (va_A (kWX4_mixIn cB cI cL cBB cII cSh h_this a_this this_rate this_place f_this_lanes) sz) := by
  refine Met.ofW (cc := prog_6_method_10_code) (maxL := 3) (ret := none) (by decide) rfl ?_
  intro p e s m args below meth c s₁ B hml hv
  obtain ⟨rfl, hsz, hP, hK, hN, hD0⟩ := hv
  have hx := B.exec
  have hb := B.bytes
  have hr := B.returns
  have hts0 := atoms_spec (ws := kwX4_mixIn) B.pre
  have hts : ∀ w ∈ kwA, w.before _ s = true := fun w h => hts0 w (List.mem_cons_of_mem _ h)
  have hown : s.vm.findClass kRX4 = some m.cls := findClass_of_methodNamed B.named
  have hlocks := B.notSynchronized
  subst hsz
  have hD := hD0.self (sz := s.heap.size)
  generalize hAe : va_A (kWX4_mixIn cB cI cL cBB cII cSh h_this a_this this_rate this_place f_this_lanes) s.heap.size = A at hD ⊢
  have hA : ∀ q : Nat, s.heap.size ≤ q → A q := fun q h => by rw [← hAe]; exact Or.inr h
  have hS : va_S A s.heap s.heap [] := va_S.rf
  have C0 : CallFix p m c prog_6_method_10_code 3 s _ kwA kRX4 := ⟨hx, hb, hml, hown, hts⟩
  have hl := lv_entry ([.ref h_this, .int p1, .int p2]) (n := 3) (Nat.le_of_ble_eq_true rfl)
  rw [lg_entry_eq]
  generalize (lg_sl ([.ref h_this, .int p1, .int p2]) ++ List.replicate (3 - (lg_sl ([.ref h_this, .int p1, .int p2])).length) Slot.unset).toArray = ls at hl ⊢
  have hl : lv_has ls 3 [(0, .ref h_this), (1, .int p1), (2, .int p2)] := hl
  unfold kFX4_mixIn at h
  refine lv_aload_n hx hb kdX4_mixIn_0 rfl (lv_at hl 0 rfl) ?_
  refine va_get (ci := 4) (v := .ref (a_this 0)) (C := kRX4) (T := kTX4) (N := 8) hx hb hts kinX4 hown hK hP 0 rfl rfl 0 (by decide) (hts _ km_78) (fun _ h9 => h9) rfl kdX4_mixIn_1 ?_
  refine lv_iload_n hx hb kdX4_mixIn_4 rfl (lv_at hl 1 rfl) ?_
  refine lv_iconst (v := 3) hx hb kdX4_mixIn_5 (by decide) ?_
  refine lv_ishr hx hb kdX4_mixIn_6 ?_
  refine lv_dup2_11 hx hb kdX4_mixIn_7 rfl rfl ?_
  obtain ⟨g_1, h⟩ := kb_g_s h
  refine va_lald hx hb hK hP 1 2 rfl rfl (kb_in_v g_1) kdX4_mixIn_8 ?_
  refine lv_iload_n hx hb kdX4_mixIn_9 rfl (lv_at hl 2 rfl) ?_
  refine lv_i2l (v := (p2.toInt64)) hx hb kdX4_mixIn_10 rfl ?_
  refine lv_ldc2 (v := 255) hx hb hown (hts _ km_395) kdX4_mixIn_11 ?_
  refine lv_land hx hb kdX4_mixIn_14 ?_
  refine lv_bipush (v := 8) hx hb kdX4_mixIn_15 (by decide) ?_
  refine lv_iload_n hx hb kdX4_mixIn_17 rfl (lv_at hl 1 rfl) ?_
  refine lv_bipush (v := 7) hx hb kdX4_mixIn_18 (by decide) ?_
  refine lv_iand hx hb kdX4_mixIn_20 ?_
  refine lv_imul hx hb kdX4_mixIn_21 ?_
  refine lv_lshl (v := (((p2.toInt64) &&& (255 : Int64)) <<< (((8 : Int32) * (p1 &&& (7 : Int32))).toInt64 &&& 63))) hx hb kdX4_mixIn_22 rfl ?_
  refine lv_lxor hx hb kdX4_mixIn_23 ?_
  obtain ⟨g_2, h⟩ := kb_g_s h
  refine va_last hx hb hK hP hD hS 1 2 rfl rfl (kb_in_v g_2) kdX4_mixIn_24 (fun H locs hP hD hS => ?_)
  obtain ⟨f_3, ef_3⟩ : ∃ y, y = vp_updL f_this_lanes (p1 >>> ((3 : Int32) &&& 31)).toNatClampNeg ((f_this_lanes (p1 >>> ((3 : Int32) &&& 31)).toNatClampNeg) ^^^ (((p2.toInt64) &&& (255 : Int64)) <<< (((8 : Int32) * (p1 &&& (7 : Int32))).toInt64 &&& 63))) := ⟨_, rfl⟩
  have h := kb_n_s ef_3 h
  have hP : va_P D kCl (kWX4_mixIn cB cI cL cBB cII cSh h_this a_this this_rate this_place f_3) H := by rw [ef_3]; exact hP
  have hD : va_D A (kWX4_mixIn cB cI cL cBB cII cSh h_this a_this this_rate this_place f_3) := by rw [ef_3]; exact hD
  obtain rfl := Option.some.inj h
  exact W.vret hx hb hr (fun t ht hW => ⟨⟨rfl, by rw [ht]; exact hP, va_K.moved hW.alike hK, hD⟩, hS.F ht⟩) hS.2.2 kdX4_mixIn_25
abbrev kWX4_permute (cB cI cL cBB cII cSh : ClassId) (h_this : Nat) (a_this : Nat → Nat) (this_rate : Int32) (this_place : Int32) (f_this_lanes : Nat → Int64) (f_this_moved : Nat → Int64) (f_this_columns : Nat → Int64) (f_this_turns : Nat → Int32) (f_this_targets : Nat → Int32) (f_this_roundConstants : Nat → Int64) : va_W := [(h_this, koX4 a_this this_rate this_place), ((a_this 0), .inl (cL, 25, .inr (.inl f_this_lanes))), ((a_this 1), .inl (cL, 25, .inr (.inl f_this_moved))), ((a_this 2), .inl (cL, 5, .inr (.inl f_this_columns))), ((a_this 3), .inl (cI, 25, .inl f_this_turns)), ((a_this 4), .inl (cI, 25, .inl f_this_targets)), ((a_this 5), .inl (cL, 24, .inr (.inl f_this_roundConstants)))]
def krX4_permute : Room := { frames := 0, cells := 0, slots := 0, locals := 0 }
set_option maxHeartbeats 4000000 in
set_option maxRecDepth 100000 in
theorem klX4_permute_28 {p : Program} {l : Launch} {e : Env} {s : State} {m : MethodId} {args : Array Value} {below : List Frame} {meth : Method} {c : Code} {cells slots : Nat} {Q : State → Prop} {D : va_G} {cB cI cL cBB cII cSh : ClassId} {A : Nat → Prop} (C0 : CallFix p m c prog_6_method_11_code 13 s args kwA kRX4) (hlocks : meth.locks = false) (hK : va_K D kCl (kb_T cB cI cL cBB cII cSh) s) (hN : kb_N s) (hA : ∀ q, s.heap.size ≤ q → A q) (hcR : cells ≤ krX4_permute.cells) (hsR : slots ≤ krX4_permute.slots) (h_this : Nat) (a_this : Nat → Nat) (x4p18 : Int32) (this_rate : Int32) (this_place : Int32) (f_this_lanesp18 : Nat → Int64) (f_this_movedp18 : Nat → Int64) (f_this_turns : Nat → Int32) (f_this_targets : Nat → Int32) (f_this_roundConstants : Nat → Int64) :
    ∀ (fuel : Nat) (x5p28 : Int32) (f_this_columnsp28 : Nat → Int64) (r : Int32 × (Nat → Int64)), kb_w (fun u : Int32 × (Nat → Int64) => kSX4_permute_28 f_this_lanesp18 u.1 u.2) fuel (x5p28, f_this_columnsp28) = some r → ∀ (H : Heap) (locs : List Loc) (ls : Array Slot), va_P D kCl (kWX4_permute cB cI cL cBB cII cSh h_this a_this this_rate this_place f_this_lanesp18 f_this_movedp18 f_this_columnsp28 f_this_turns f_this_targets f_this_roundConstants) H → va_D A (kWX4_permute cB cI cL cBB cII cSh h_this a_this this_rate this_place f_this_lanesp18 f_this_movedp18 f_this_columnsp28 f_this_turns f_this_targets f_this_roundConstants) → va_S A s.heap H locs → lv_has ls 13 [(0, .ref h_this), (1, .ref (a_this 0)), (2, .ref (a_this 1)), (3, .ref (a_this 2)), (4, .int x4p18), (5, .int x5p28)] → (∀ (x5p28' : Int32) (f_this_columnsp28' : Nat → Int64), r = (x5p28', f_this_columnsp28') → ∀ (H : Heap) (locs : List Loc) (ls : Array Slot), va_P D kCl (kWX4_permute cB cI cL cBB cII cSh h_this a_this this_rate this_place f_this_lanesp18 f_this_movedp18 f_this_columnsp28' f_this_turns f_this_targets f_this_roundConstants) H → va_D A (kWX4_permute cB cI cL cBB cII cSh h_this a_this this_rate this_place f_this_lanesp18 f_this_movedp18 f_this_columnsp28' f_this_turns f_this_targets f_this_roundConstants) → va_S A s.heap H locs → lv_has ls 13 [(0, .ref h_this), (1, .ref (a_this 0)), (2, .ref (a_this 1)), (3, .ref (a_this 2)), (4, .int x4p18), (5, .int x5p28')] → W p l e krX4_permute s m args below meth c H locs cells slots Q (F0 m 79 ls [])) → W p l e krX4_permute s m args below meth c H locs cells slots Q (F0 m 28 ls []) := by
  obtain ⟨hx, hb, hml, hown, hts⟩ := id C0
  intro fuel
  induction fuel with
  | zero =>
    intro x5p28 f_this_columnsp28 r h
    exact absurd h (kb_w_z _ _ _)
  | succ fuel ih =>
    intro x5p28 f_this_columnsp28 r h H locs ls hP hD hS hl hk0
    obtain ⟨o, h, ho⟩ := kb_w_s h
    have h : kSX4_permute_28 f_this_lanesp18 x5p28 f_this_columnsp28 = some o := h
    unfold kSX4_permute_28 at h
    refine lv_iload hx hb kdX4_permute_28 (lv_at hl 5 rfl) ?_
    refine lv_iconst (v := 5) hx hb kdX4_permute_30 (by decide) ?_
    refine lv_icmp_ge (tgt := 79) hx hb kdX4_permute_31 (by decide) (fun c_2 => ?_) (fun c_2 => ?_)
    · have h := kb_b_t c_2 h
      obtain rfl := Option.some.inj h
      exact hk0 x5p28 f_this_columnsp28 ho.symm _ _ _ hP hD hS (lv_sub hl [0, 1, 2, 3, 4, 5] rfl)
    · have h := kb_b_f c_2 h
      refine lv_aload_n hx hb kdX4_permute_34 rfl (lv_at hl 3 rfl) ?_
      refine lv_iload hx hb kdX4_permute_35 (lv_at hl 5 rfl) ?_
      refine lv_aload_n hx hb kdX4_permute_37 rfl (lv_at hl 1 rfl) ?_
      refine lv_iload hx hb kdX4_permute_38 (lv_at hl 5 rfl) ?_
      obtain ⟨g_3, h⟩ := kb_g_s h
      refine va_lald hx hb hK hP 1 2 rfl rfl (kb_in_v g_3) kdX4_permute_40 ?_
      refine lv_aload_n hx hb kdX4_permute_41 rfl (lv_at hl 1 rfl) ?_
      refine lv_iload hx hb kdX4_permute_42 (lv_at hl 5 rfl) ?_
      refine lv_iconst (v := 5) hx hb kdX4_permute_44 (by decide) ?_
      refine lv_iadd hx hb kdX4_permute_45 ?_
      obtain ⟨g_4, h⟩ := kb_g_s h
      refine va_lald hx hb hK hP 1 2 rfl rfl (kb_in_v g_4) kdX4_permute_46 ?_
      refine lv_lxor hx hb kdX4_permute_47 ?_
      refine lv_aload_n hx hb kdX4_permute_48 rfl (lv_at hl 1 rfl) ?_
      refine lv_iload hx hb kdX4_permute_49 (lv_at hl 5 rfl) ?_
      refine lv_bipush (v := 10) hx hb kdX4_permute_51 (by decide) ?_
      refine lv_iadd hx hb kdX4_permute_53 ?_
      obtain ⟨g_5, h⟩ := kb_g_s h
      refine va_lald hx hb hK hP 1 2 rfl rfl (kb_in_v g_5) kdX4_permute_54 ?_
      refine lv_lxor hx hb kdX4_permute_55 ?_
      refine lv_aload_n hx hb kdX4_permute_56 rfl (lv_at hl 1 rfl) ?_
      refine lv_iload hx hb kdX4_permute_57 (lv_at hl 5 rfl) ?_
      refine lv_bipush (v := 15) hx hb kdX4_permute_59 (by decide) ?_
      refine lv_iadd hx hb kdX4_permute_61 ?_
      obtain ⟨g_6, h⟩ := kb_g_s h
      refine va_lald hx hb hK hP 1 2 rfl rfl (kb_in_v g_6) kdX4_permute_62 ?_
      refine lv_lxor hx hb kdX4_permute_63 ?_
      refine lv_aload_n hx hb kdX4_permute_64 rfl (lv_at hl 1 rfl) ?_
      refine lv_iload hx hb kdX4_permute_65 (lv_at hl 5 rfl) ?_
      refine lv_bipush (v := 20) hx hb kdX4_permute_67 (by decide) ?_
      refine lv_iadd hx hb kdX4_permute_69 ?_
      obtain ⟨g_7, h⟩ := kb_g_s h
      refine va_lald hx hb hK hP 1 2 rfl rfl (kb_in_v g_7) kdX4_permute_70 ?_
      refine lv_lxor hx hb kdX4_permute_71 ?_
      obtain ⟨g_8, h⟩ := kb_g_s h
      refine va_last hx hb hK hP hD hS 3 2 rfl rfl (kb_in_v g_8) kdX4_permute_72 (fun H locs hP hD hS => ?_)
      obtain ⟨f_9, ef_9⟩ : ∃ y, y = vp_updL f_this_columnsp28 x5p28.toNatClampNeg (((((f_this_lanesp18 x5p28.toNatClampNeg) ^^^ (f_this_lanesp18 (x5p28 + (5 : Int32)).toNatClampNeg)) ^^^ (f_this_lanesp18 (x5p28 + (10 : Int32)).toNatClampNeg)) ^^^ (f_this_lanesp18 (x5p28 + (15 : Int32)).toNatClampNeg)) ^^^ (f_this_lanesp18 (x5p28 + (20 : Int32)).toNatClampNeg)) := ⟨_, rfl⟩
      have h := kb_n_s ef_9 h
      have hP : va_P D kCl (kWX4_permute cB cI cL cBB cII cSh h_this a_this this_rate this_place f_this_lanesp18 f_this_movedp18 f_9 f_this_turns f_this_targets f_this_roundConstants) H := by rw [ef_9]; exact hP
      have hD : va_D A (kWX4_permute cB cI cL cBB cII cSh h_this a_this this_rate this_place f_this_lanesp18 f_this_movedp18 f_9 f_this_turns f_this_targets f_this_roundConstants) := by rw [ef_9]; exact hD
      obtain ⟨x5_10, ex5_10⟩ : ∃ y : Int32, y = x5p28 + Int32.ofInt 1 := ⟨_, rfl⟩
      have h := kb_n_s ex5_10 h
      refine lv_iinc (v := x5_10) (lv' := [(5, .int x5_10), (0, .ref h_this), (1, .ref (a_this 0)), (2, .ref (a_this 1)), (3, .ref (a_this 2)), (4, .int x4p18)]) hx hb kdX4_permute_73 hl (k := 5) rfl ex5_10.symm (by decide) rfl (fun ls hl => ?_)
      refine lv_goto (tgt := 28) hx hb kdX4_permute_76 (by decide) ?_
      obtain rfl := Option.some.inj h
      exact ih x5_10 f_9 r ho _ _ _ hP hD hS (lv_sub hl [1, 2, 3, 4, 5, 0] rfl) hk0
set_option maxHeartbeats 4000000 in
set_option maxRecDepth 100000 in
theorem klX4_permute_123 {p : Program} {l : Launch} {e : Env} {s : State} {m : MethodId} {args : Array Value} {below : List Frame} {meth : Method} {c : Code} {cells slots : Nat} {Q : State → Prop} {D : va_G} {cB cI cL cBB cII cSh : ClassId} {A : Nat → Prop} (C0 : CallFix p m c prog_6_method_11_code 13 s args kwA kRX4) (hlocks : meth.locks = false) (hK : va_K D kCl (kb_T cB cI cL cBB cII cSh) s) (hN : kb_N s) (hA : ∀ q, s.heap.size ≤ q → A q) (hcR : cells ≤ krX4_permute.cells) (hsR : slots ≤ krX4_permute.slots) (h_this : Nat) (a_this : Nat → Nat) (x4p18 : Int32) (x5p82 : Int32) (x8_19 : Int64) (this_rate : Int32) (this_place : Int32) (f_this_lanesp18 : Nat → Int64) (f_this_columnsp28_12 : Nat → Int64) (f_this_turns : Nat → Int32) (f_this_targets : Nat → Int32) (f_this_roundConstants : Nat → Int64) :
    ∀ (fuel : Nat) (x10p123 : Int32) (f_this_movedp123 : Nat → Int64) (r : Int32 × (Nat → Int64)), kb_w (fun u : Int32 × (Nat → Int64) => kSX4_permute_123 x8_19 f_this_lanesp18 f_this_turns f_this_targets u.1 u.2) fuel (x10p123, f_this_movedp123) = some r → ∀ (H : Heap) (locs : List Loc) (ls : Array Slot), va_P D kCl (kWX4_permute cB cI cL cBB cII cSh h_this a_this this_rate this_place f_this_lanesp18 f_this_movedp123 f_this_columnsp28_12 f_this_turns f_this_targets f_this_roundConstants) H → va_D A (kWX4_permute cB cI cL cBB cII cSh h_this a_this this_rate this_place f_this_lanesp18 f_this_movedp123 f_this_columnsp28_12 f_this_turns f_this_targets f_this_roundConstants) → va_S A s.heap H locs → lv_has ls 13 [(0, .ref h_this), (1, .ref (a_this 0)), (2, .ref (a_this 1)), (3, .ref (a_this 2)), (4, .int x4p18), (5, .int x5p82), (8, .long x8_19), (10, .int x10p123)] → (∀ (x10p123' : Int32) (f_this_movedp123' : Nat → Int64), r = (x10p123', f_this_movedp123') → ∀ (H : Heap) (locs : List Loc) (ls : Array Slot), va_P D kCl (kWX4_permute cB cI cL cBB cII cSh h_this a_this this_rate this_place f_this_lanesp18 f_this_movedp123' f_this_columnsp28_12 f_this_turns f_this_targets f_this_roundConstants) H → va_D A (kWX4_permute cB cI cL cBB cII cSh h_this a_this this_rate this_place f_this_lanesp18 f_this_movedp123' f_this_columnsp28_12 f_this_turns f_this_targets f_this_roundConstants) → va_S A s.heap H locs → lv_has ls 13 [(0, .ref h_this), (1, .ref (a_this 0)), (2, .ref (a_this 1)), (3, .ref (a_this 2)), (4, .int x4p18), (5, .int x5p82), (8, .long x8_19), (10, .int x10p123')] → W p l e krX4_permute s m args below meth c H locs cells slots Q (F0 m 178 ls [])) → W p l e krX4_permute s m args below meth c H locs cells slots Q (F0 m 123 ls []) := by
  obtain ⟨hx, hb, hml, hown, hts⟩ := id C0
  intro fuel
  induction fuel with
  | zero =>
    intro x10p123 f_this_movedp123 r h
    exact absurd h (kb_w_z _ _ _)
  | succ fuel ih =>
    intro x10p123 f_this_movedp123 r h H locs ls hP hD hS hl hk0
    obtain ⟨o, h, ho⟩ := kb_w_s h
    have h : kSX4_permute_123 x8_19 f_this_lanesp18 f_this_turns f_this_targets x10p123 f_this_movedp123 = some o := h
    unfold kSX4_permute_123 at h
    refine lv_iload hx hb kdX4_permute_123 (lv_at hl 7 rfl) ?_
    refine lv_bipush (v := 25) hx hb kdX4_permute_125 (by decide) ?_
    refine lv_icmp_ge (tgt := 178) hx hb kdX4_permute_127 (by decide) (fun c_20 => ?_) (fun c_20 => ?_)
    · have h := kb_b_t c_20 h
      obtain rfl := Option.some.inj h
      exact hk0 x10p123 f_this_movedp123 ho.symm _ _ _ hP hD hS (lv_sub hl [0, 1, 2, 3, 4, 5, 6, 7] rfl)
    · have h := kb_b_f c_20 h
      refine lv_aload_n hx hb kdX4_permute_130 rfl (lv_at hl 1 rfl) ?_
      refine lv_iload hx hb kdX4_permute_131 (lv_at hl 7 rfl) ?_
      obtain ⟨g_21, h⟩ := kb_g_s h
      refine va_lald hx hb hK hP 1 2 rfl rfl (kb_in_v g_21) kdX4_permute_133 ?_
      refine lv_lload hx hb kdX4_permute_134 (lv_at hl 6 rfl) ?_
      refine lv_lxor hx hb kdX4_permute_136 ?_
      refine lv_topl (fun x11_22 ex11_22 => ?_)
      have h := kb_n_s ex11_22 h
      refine lv_lstore (lv' := [(11, .long x11_22), (0, .ref h_this), (1, .ref (a_this 0)), (2, .ref (a_this 1)), (3, .ref (a_this 2)), (4, .int x4p18), (5, .int x5p82), (8, .long x8_19), (10, .int x10p123)]) hx hb kdX4_permute_137 hl (by decide) rfl (fun ls hl => ?_)
      refine lv_aload_n hx hb kdX4_permute_139 rfl (lv_at hl 3 rfl) ?_
      refine lv_aload_n hx hb kdX4_permute_140 rfl (lv_at hl 1 rfl) ?_
      refine va_get (ci := 4) (v := .ref (a_this 4)) (C := kRX4) (T := kTX4) (N := 8) hx hb hts kinX4 hown hK hP 0 rfl rfl 4 (by decide) (hts _ km_82) (fun _ h9 => h9) rfl kdX4_permute_141 ?_
      refine lv_iload hx hb kdX4_permute_144 (lv_at hl 8 rfl) ?_
      obtain ⟨g_23, h⟩ := kb_g_s h
      refine va_iald hx hb hK hP 5 1 rfl rfl (kb_in_v g_23) kdX4_permute_146 ?_
      refine lv_lload hx hb kdX4_permute_147 (lv_at hl 0 rfl) ?_
      refine lv_aload_n hx hb kdX4_permute_149 rfl (lv_at hl 1 rfl) ?_
      refine va_get (ci := 4) (v := .ref (a_this 3)) (C := kRX4) (T := kTX4) (N := 8) hx hb hts kinX4 hown hK hP 0 rfl rfl 3 (by decide) (hts _ km_81) (fun _ h9 => h9) rfl kdX4_permute_150 ?_
      refine lv_iload hx hb kdX4_permute_153 (lv_at hl 8 rfl) ?_
      obtain ⟨g_24, h⟩ := kb_g_s h
      refine va_iald hx hb hK hP 4 1 rfl rfl (kb_in_v g_24) kdX4_permute_155 ?_
      refine lv_lshl (v := (x11_22 <<< ((f_this_turns x10p123.toNatClampNeg).toInt64 &&& 63))) hx hb kdX4_permute_156 rfl ?_
      refine lv_lload hx hb kdX4_permute_157 (lv_at hl 0 rfl) ?_
      refine lv_bipush (v := 64) hx hb kdX4_permute_159 (by decide) ?_
      refine lv_aload_n hx hb kdX4_permute_161 rfl (lv_at hl 1 rfl) ?_
      refine va_get (ci := 4) (v := .ref (a_this 3)) (C := kRX4) (T := kTX4) (N := 8) hx hb hts kinX4 hown hK hP 0 rfl rfl 3 (by decide) (hts _ km_81) (fun _ h9 => h9) rfl kdX4_permute_162 ?_
      refine lv_iload hx hb kdX4_permute_165 (lv_at hl 8 rfl) ?_
      obtain ⟨g_25, h⟩ := kb_g_s h
      refine va_iald hx hb hK hP 4 1 rfl rfl (kb_in_v g_25) kdX4_permute_167 ?_
      refine lv_isub hx hb kdX4_permute_168 ?_
      refine lv_lushr (v := ((x11_22.toUInt64 >>> (((64 : Int32) - (f_this_turns x10p123.toNatClampNeg)).toInt64.toUInt64 &&& Int64.toUInt64 63)).toInt64)) hx hb kdX4_permute_169 rfl ?_
      refine lv_lor hx hb kdX4_permute_170 ?_
      obtain ⟨g_26, h⟩ := kb_g_s h
      refine va_last hx hb hK hP hD hS 2 2 rfl rfl (kb_in_v g_26) kdX4_permute_171 (fun H locs hP hD hS => ?_)
      obtain ⟨f_27, ef_27⟩ : ∃ y, y = vp_updL f_this_movedp123 (f_this_targets x10p123.toNatClampNeg).toNatClampNeg ((x11_22 <<< ((f_this_turns x10p123.toNatClampNeg).toInt64 &&& 63)) ||| ((x11_22.toUInt64 >>> (((64 : Int32) - (f_this_turns x10p123.toNatClampNeg)).toInt64.toUInt64 &&& Int64.toUInt64 63)).toInt64)) := ⟨_, rfl⟩
      have h := kb_n_s ef_27 h
      have hP : va_P D kCl (kWX4_permute cB cI cL cBB cII cSh h_this a_this this_rate this_place f_this_lanesp18 f_27 f_this_columnsp28_12 f_this_turns f_this_targets f_this_roundConstants) H := by rw [ef_27]; exact hP
      have hD : va_D A (kWX4_permute cB cI cL cBB cII cSh h_this a_this this_rate this_place f_this_lanesp18 f_27 f_this_columnsp28_12 f_this_turns f_this_targets f_this_roundConstants) := by rw [ef_27]; exact hD
      obtain ⟨x10_28, ex10_28⟩ : ∃ y : Int32, y = x10p123 + Int32.ofInt 5 := ⟨_, rfl⟩
      have h := kb_n_s ex10_28 h
      refine lv_iinc (v := x10_28) (lv' := [(10, .int x10_28), (11, .long x11_22), (0, .ref h_this), (1, .ref (a_this 0)), (2, .ref (a_this 1)), (3, .ref (a_this 2)), (4, .int x4p18), (5, .int x5p82), (8, .long x8_19)]) hx hb kdX4_permute_172 hl (k := 8) rfl ex10_28.symm (by decide) rfl (fun ls hl => ?_)
      refine lv_goto (tgt := 123) hx hb kdX4_permute_175 (by decide) ?_
      obtain rfl := Option.some.inj h
      exact ih x10_28 f_27 r ho _ _ _ hP hD hS (lv_sub hl [2, 3, 4, 5, 6, 7, 8, 0] rfl) hk0
set_option maxHeartbeats 4000000 in
set_option maxRecDepth 100000 in
theorem klX4_permute_82 {p : Program} {l : Launch} {e : Env} {s : State} {m : MethodId} {args : Array Value} {below : List Frame} {meth : Method} {c : Code} {cells slots : Nat} {Q : State → Prop} {D : va_G} {cB cI cL cBB cII cSh : ClassId} {A : Nat → Prop} (C0 : CallFix p m c prog_6_method_11_code 13 s args kwA kRX4) (hlocks : meth.locks = false) (hK : va_K D kCl (kb_T cB cI cL cBB cII cSh) s) (hN : kb_N s) (hA : ∀ q, s.heap.size ≤ q → A q) (hcR : cells ≤ krX4_permute.cells) (hsR : slots ≤ krX4_permute.slots) (h_this : Nat) (a_this : Nat → Nat) (x4p18 : Int32) (this_rate : Int32) (this_place : Int32) (f_this_lanesp18 : Nat → Int64) (f_this_columnsp28_12 : Nat → Int64) (f_this_turns : Nat → Int32) (f_this_targets : Nat → Int32) (f_this_roundConstants : Nat → Int64) :
    ∀ (fuel : Nat) (x5p82 : Int32) (f_this_movedp82 : Nat → Int64) (r : Int32 × (Nat → Int64)), kb_w (fun u : Int32 × (Nat → Int64) => kSX4_permute_82 f_this_lanesp18 f_this_columnsp28_12 f_this_turns f_this_targets u.1 u.2) fuel (x5p82, f_this_movedp82) = some r → ∀ (H : Heap) (locs : List Loc) (ls : Array Slot), va_P D kCl (kWX4_permute cB cI cL cBB cII cSh h_this a_this this_rate this_place f_this_lanesp18 f_this_movedp82 f_this_columnsp28_12 f_this_turns f_this_targets f_this_roundConstants) H → va_D A (kWX4_permute cB cI cL cBB cII cSh h_this a_this this_rate this_place f_this_lanesp18 f_this_movedp82 f_this_columnsp28_12 f_this_turns f_this_targets f_this_roundConstants) → va_S A s.heap H locs → lv_has ls 13 [(0, .ref h_this), (1, .ref (a_this 0)), (2, .ref (a_this 1)), (3, .ref (a_this 2)), (4, .int x4p18), (5, .int x5p82)] → (∀ (x5p82' : Int32) (f_this_movedp82' : Nat → Int64), r = (x5p82', f_this_movedp82') → ∀ (H : Heap) (locs : List Loc) (ls : Array Slot), va_P D kCl (kWX4_permute cB cI cL cBB cII cSh h_this a_this this_rate this_place f_this_lanesp18 f_this_movedp82' f_this_columnsp28_12 f_this_turns f_this_targets f_this_roundConstants) H → va_D A (kWX4_permute cB cI cL cBB cII cSh h_this a_this this_rate this_place f_this_lanesp18 f_this_movedp82' f_this_columnsp28_12 f_this_turns f_this_targets f_this_roundConstants) → va_S A s.heap H locs → lv_has ls 13 [(0, .ref h_this), (1, .ref (a_this 0)), (2, .ref (a_this 1)), (3, .ref (a_this 2)), (4, .int x4p18), (5, .int x5p82')] → W p l e krX4_permute s m args below meth c H locs cells slots Q (F0 m 184 ls [])) → W p l e krX4_permute s m args below meth c H locs cells slots Q (F0 m 82 ls []) := by
  obtain ⟨hx, hb, hml, hown, hts⟩ := id C0
  intro fuel
  induction fuel with
  | zero =>
    intro x5p82 f_this_movedp82 r h
    exact absurd h (kb_w_z _ _ _)
  | succ fuel ih =>
    intro x5p82 f_this_movedp82 r h H locs ls hP hD hS hl hk0
    obtain ⟨o, h, ho⟩ := kb_w_s h
    have h : kSX4_permute_82 f_this_lanesp18 f_this_columnsp28_12 f_this_turns f_this_targets x5p82 f_this_movedp82 = some o := h
    unfold kSX4_permute_82 at h
    refine lv_iload hx hb kdX4_permute_82 (lv_at hl 5 rfl) ?_
    refine lv_iconst (v := 5) hx hb kdX4_permute_84 (by decide) ?_
    refine lv_icmp_ge (tgt := 184) hx hb kdX4_permute_85 (by decide) (fun c_13 => ?_) (fun c_13 => ?_)
    · have h := kb_b_t c_13 h
      obtain rfl := Option.some.inj h
      exact hk0 x5p82 f_this_movedp82 ho.symm _ _ _ hP hD hS (lv_sub hl [0, 1, 2, 3, 4, 5] rfl)
    · have h := kb_b_f c_13 h
      refine lv_aload_n hx hb kdX4_permute_88 rfl (lv_at hl 3 rfl) ?_
      refine lv_iload hx hb kdX4_permute_89 (lv_at hl 5 rfl) ?_
      refine lv_iconst (v := 1) hx hb kdX4_permute_91 (by decide) ?_
      refine lv_iadd hx hb kdX4_permute_92 ?_
      refine lv_iconst (v := 5) hx hb kdX4_permute_93 (by decide) ?_
      refine lv_irem hx hb kdX4_permute_94 (by decide) ?_
      refine lv_topi (fun q_14 eq_14 => ?_)
      have h := kb_n_s eq_14 h
      obtain ⟨g_15, h⟩ := kb_g_s h
      refine va_lald hx hb hK hP 3 2 rfl rfl (kb_in_v g_15) kdX4_permute_95 ?_
      refine lv_topl (fun x6_16 ex6_16 => ?_)
      have h := kb_n_s ex6_16 h
      refine lv_lstore (lv' := [(6, .long x6_16), (0, .ref h_this), (1, .ref (a_this 0)), (2, .ref (a_this 1)), (3, .ref (a_this 2)), (4, .int x4p18), (5, .int x5p82)]) hx hb kdX4_permute_96 hl (by decide) rfl (fun ls hl => ?_)
      refine lv_aload_n hx hb kdX4_permute_98 rfl (lv_at hl 4 rfl) ?_
      refine lv_iload hx hb kdX4_permute_99 (lv_at hl 6 rfl) ?_
      refine lv_iconst (v := 4) hx hb kdX4_permute_101 (by decide) ?_
      refine lv_iadd hx hb kdX4_permute_102 ?_
      refine lv_iconst (v := 5) hx hb kdX4_permute_103 (by decide) ?_
      refine lv_irem hx hb kdX4_permute_104 (by decide) ?_
      refine lv_topi (fun q_17 eq_17 => ?_)
      have h := kb_n_s eq_17 h
      obtain ⟨g_18, h⟩ := kb_g_s h
      refine va_lald hx hb hK hP 3 2 rfl rfl (kb_in_v g_18) kdX4_permute_105 ?_
      refine lv_lload hx hb kdX4_permute_106 (lv_at hl 0 rfl) ?_
      refine lv_iconst (v := 1) hx hb kdX4_permute_108 (by decide) ?_
      refine lv_lshl (v := (x6_16 <<< ((1 : Int32).toInt64 &&& 63))) hx hb kdX4_permute_109 rfl ?_
      refine lv_lload hx hb kdX4_permute_110 (lv_at hl 0 rfl) ?_
      refine lv_bipush (v := 63) hx hb kdX4_permute_112 (by decide) ?_
      refine lv_lushr (v := ((x6_16.toUInt64 >>> ((63 : Int32).toInt64.toUInt64 &&& Int64.toUInt64 63)).toInt64)) hx hb kdX4_permute_114 rfl ?_
      refine lv_lor hx hb kdX4_permute_115 ?_
      refine lv_lxor hx hb kdX4_permute_116 ?_
      refine lv_topl (fun x8_19 ex8_19 => ?_)
      have h := kb_n_s ex8_19 h
      refine lv_lstore (lv' := [(8, .long x8_19), (6, .long x6_16), (0, .ref h_this), (1, .ref (a_this 0)), (2, .ref (a_this 1)), (3, .ref (a_this 2)), (4, .int x4p18), (5, .int x5p82)]) hx hb kdX4_permute_117 hl (by decide) rfl (fun ls hl => ?_)
      refine lv_iload hx hb kdX4_permute_119 (lv_at hl 7 rfl) ?_
      refine lv_istore (lv' := [(10, .int x5p82), (8, .long x8_19), (6, .long x6_16), (0, .ref h_this), (1, .ref (a_this 0)), (2, .ref (a_this 1)), (3, .ref (a_this 2)), (4, .int x4p18), (5, .int x5p82)]) hx hb kdX4_permute_121 hl (by decide) rfl (fun ls hl => ?_)
      obtain ⟨r_32, hr_32, h⟩ := kb_o_s h
      refine klX4_permute_123 C0 hlocks hK hN hA hcR hsR h_this a_this x4p18 x5p82 x8_19 this_rate this_place f_this_lanesp18 f_this_columnsp28_12 f_this_turns f_this_targets f_this_roundConstants 100000 x5p82 f_this_movedp82 r_32 hr_32 _ _ _ hP hD hS (lv_sub hl [3, 4, 5, 6, 7, 8, 1, 0] rfl) (fun x10p123_29 f_this_movedp123_30 er_32 H locs ls hP hD hS hl => ?_)
      subst er_32
      try dsimp only at h
      obtain ⟨x5_31, ex5_31⟩ : ∃ y : Int32, y = x5p82 + Int32.ofInt 1 := ⟨_, rfl⟩
      have h := kb_n_s ex5_31 h
      refine lv_iinc (v := x5_31) (lv' := [(5, .int x5_31), (0, .ref h_this), (1, .ref (a_this 0)), (2, .ref (a_this 1)), (3, .ref (a_this 2)), (4, .int x4p18), (8, .long x8_19), (10, .int x10p123_29)]) hx hb kdX4_permute_178 hl (k := 5) rfl ex5_31.symm (by decide) rfl (fun ls hl => ?_)
      refine lv_goto (tgt := 82) hx hb kdX4_permute_181 (by decide) ?_
      obtain rfl := Option.some.inj h
      exact ih x5_31 f_this_movedp123_30 r ho _ _ _ hP hD hS (lv_sub hl [1, 2, 3, 4, 5, 0] rfl) hk0
set_option maxHeartbeats 4000000 in
set_option maxRecDepth 100000 in
theorem klX4_permute_187 {p : Program} {l : Launch} {e : Env} {s : State} {m : MethodId} {args : Array Value} {below : List Frame} {meth : Method} {c : Code} {cells slots : Nat} {Q : State → Prop} {D : va_G} {cB cI cL cBB cII cSh : ClassId} {A : Nat → Prop} (C0 : CallFix p m c prog_6_method_11_code 13 s args kwA kRX4) (hlocks : meth.locks = false) (hK : va_K D kCl (kb_T cB cI cL cBB cII cSh) s) (hN : kb_N s) (hA : ∀ q, s.heap.size ≤ q → A q) (hcR : cells ≤ krX4_permute.cells) (hsR : slots ≤ krX4_permute.slots) (h_this : Nat) (a_this : Nat → Nat) (x4p18 : Int32) (this_rate : Int32) (this_place : Int32) (f_this_movedp82_34 : Nat → Int64) (f_this_columnsp28_12 : Nat → Int64) (f_this_turns : Nat → Int32) (f_this_targets : Nat → Int32) (f_this_roundConstants : Nat → Int64) :
    ∀ (fuel : Nat) (x5p187 : Int32) (f_this_lanesp187 : Nat → Int64) (r : Int32 × (Nat → Int64)), kb_w (fun u : Int32 × (Nat → Int64) => kSX4_permute_187 f_this_movedp82_34 u.1 u.2) fuel (x5p187, f_this_lanesp187) = some r → ∀ (H : Heap) (locs : List Loc) (ls : Array Slot), va_P D kCl (kWX4_permute cB cI cL cBB cII cSh h_this a_this this_rate this_place f_this_lanesp187 f_this_movedp82_34 f_this_columnsp28_12 f_this_turns f_this_targets f_this_roundConstants) H → va_D A (kWX4_permute cB cI cL cBB cII cSh h_this a_this this_rate this_place f_this_lanesp187 f_this_movedp82_34 f_this_columnsp28_12 f_this_turns f_this_targets f_this_roundConstants) → va_S A s.heap H locs → lv_has ls 13 [(0, .ref h_this), (1, .ref (a_this 0)), (2, .ref (a_this 1)), (3, .ref (a_this 2)), (4, .int x4p18), (5, .int x5p187)] → (∀ (x5p187' : Int32) (f_this_lanesp187' : Nat → Int64), r = (x5p187', f_this_lanesp187') → ∀ (H : Heap) (locs : List Loc) (ls : Array Slot), va_P D kCl (kWX4_permute cB cI cL cBB cII cSh h_this a_this this_rate this_place f_this_lanesp187' f_this_movedp82_34 f_this_columnsp28_12 f_this_turns f_this_targets f_this_roundConstants) H → va_D A (kWX4_permute cB cI cL cBB cII cSh h_this a_this this_rate this_place f_this_lanesp187' f_this_movedp82_34 f_this_columnsp28_12 f_this_turns f_this_targets f_this_roundConstants) → va_S A s.heap H locs → lv_has ls 13 [(0, .ref h_this), (1, .ref (a_this 0)), (2, .ref (a_this 1)), (3, .ref (a_this 2)), (4, .int x4p18), (5, .int x5p187')] → W p l e krX4_permute s m args below meth c H locs cells slots Q (F0 m 342 ls [])) → W p l e krX4_permute s m args below meth c H locs cells slots Q (F0 m 187 ls []) := by
  obtain ⟨hx, hb, hml, hown, hts⟩ := id C0
  intro fuel
  induction fuel with
  | zero =>
    intro x5p187 f_this_lanesp187 r h
    exact absurd h (kb_w_z _ _ _)
  | succ fuel ih =>
    intro x5p187 f_this_lanesp187 r h H locs ls hP hD hS hl hk0
    obtain ⟨o, h, ho⟩ := kb_w_s h
    have h : kSX4_permute_187 f_this_movedp82_34 x5p187 f_this_lanesp187 = some o := h
    unfold kSX4_permute_187 at h
    refine lv_iload hx hb kdX4_permute_187 (lv_at hl 5 rfl) ?_
    refine lv_bipush (v := 25) hx hb kdX4_permute_189 (by decide) ?_
    refine lv_icmp_ge (tgt := 342) hx hb kdX4_permute_191 (by decide) (fun c_35 => ?_) (fun c_35 => ?_)
    · have h := kb_b_t c_35 h
      obtain rfl := Option.some.inj h
      exact hk0 x5p187 f_this_lanesp187 ho.symm _ _ _ hP hD hS (lv_sub hl [0, 1, 2, 3, 4, 5] rfl)
    · have h := kb_b_f c_35 h
      refine lv_aload_n hx hb kdX4_permute_194 rfl (lv_at hl 1 rfl) ?_
      refine lv_iload hx hb kdX4_permute_195 (lv_at hl 5 rfl) ?_
      refine lv_aload_n hx hb kdX4_permute_197 rfl (lv_at hl 2 rfl) ?_
      refine lv_iload hx hb kdX4_permute_198 (lv_at hl 5 rfl) ?_
      obtain ⟨g_36, h⟩ := kb_g_s h
      refine va_lald hx hb hK hP 2 2 rfl rfl (kb_in_v g_36) kdX4_permute_200 ?_
      refine lv_aload_n hx hb kdX4_permute_201 rfl (lv_at hl 2 rfl) ?_
      refine lv_iload hx hb kdX4_permute_202 (lv_at hl 5 rfl) ?_
      refine lv_iconst (v := 1) hx hb kdX4_permute_204 (by decide) ?_
      refine lv_iadd hx hb kdX4_permute_205 ?_
      obtain ⟨g_37, h⟩ := kb_g_s h
      refine va_lald hx hb hK hP 2 2 rfl rfl (kb_in_v g_37) kdX4_permute_206 ?_
      refine lv_ldc2 (v := -1) hx hb hown (hts _ km_400) kdX4_permute_207 ?_
      refine lv_lxor hx hb kdX4_permute_210 ?_
      refine lv_aload_n hx hb kdX4_permute_211 rfl (lv_at hl 2 rfl) ?_
      refine lv_iload hx hb kdX4_permute_212 (lv_at hl 5 rfl) ?_
      refine lv_iconst (v := 2) hx hb kdX4_permute_214 (by decide) ?_
      refine lv_iadd hx hb kdX4_permute_215 ?_
      obtain ⟨g_38, h⟩ := kb_g_s h
      refine va_lald hx hb hK hP 2 2 rfl rfl (kb_in_v g_38) kdX4_permute_216 ?_
      refine lv_land hx hb kdX4_permute_217 ?_
      refine lv_lxor hx hb kdX4_permute_218 ?_
      obtain ⟨g_39, h⟩ := kb_g_s h
      refine va_last hx hb hK hP hD hS 1 2 rfl rfl (kb_in_v g_39) kdX4_permute_219 (fun H locs hP hD hS => ?_)
      obtain ⟨f_40, ef_40⟩ : ∃ y, y = vp_updL f_this_lanesp187 x5p187.toNatClampNeg ((f_this_movedp82_34 x5p187.toNatClampNeg) ^^^ (((f_this_movedp82_34 (x5p187 + (1 : Int32)).toNatClampNeg) ^^^ (-1 : Int64)) &&& (f_this_movedp82_34 (x5p187 + (2 : Int32)).toNatClampNeg))) := ⟨_, rfl⟩
      have h := kb_n_s ef_40 h
      have hP : va_P D kCl (kWX4_permute cB cI cL cBB cII cSh h_this a_this this_rate this_place f_40 f_this_movedp82_34 f_this_columnsp28_12 f_this_turns f_this_targets f_this_roundConstants) H := by rw [ef_40]; exact hP
      have hD : va_D A (kWX4_permute cB cI cL cBB cII cSh h_this a_this this_rate this_place f_40 f_this_movedp82_34 f_this_columnsp28_12 f_this_turns f_this_targets f_this_roundConstants) := by rw [ef_40]; exact hD
      refine lv_aload_n hx hb kdX4_permute_220 rfl (lv_at hl 1 rfl) ?_
      refine lv_iload hx hb kdX4_permute_221 (lv_at hl 5 rfl) ?_
      refine lv_iconst (v := 1) hx hb kdX4_permute_223 (by decide) ?_
      refine lv_iadd hx hb kdX4_permute_224 ?_
      refine lv_aload_n hx hb kdX4_permute_225 rfl (lv_at hl 2 rfl) ?_
      refine lv_iload hx hb kdX4_permute_226 (lv_at hl 5 rfl) ?_
      refine lv_iconst (v := 1) hx hb kdX4_permute_228 (by decide) ?_
      refine lv_iadd hx hb kdX4_permute_229 ?_
      obtain ⟨g_41, h⟩ := kb_g_s h
      refine va_lald hx hb hK hP 2 2 rfl rfl (kb_in_v g_41) kdX4_permute_230 ?_
      refine lv_aload_n hx hb kdX4_permute_231 rfl (lv_at hl 2 rfl) ?_
      refine lv_iload hx hb kdX4_permute_232 (lv_at hl 5 rfl) ?_
      refine lv_iconst (v := 2) hx hb kdX4_permute_234 (by decide) ?_
      refine lv_iadd hx hb kdX4_permute_235 ?_
      obtain ⟨g_42, h⟩ := kb_g_s h
      refine va_lald hx hb hK hP 2 2 rfl rfl (kb_in_v g_42) kdX4_permute_236 ?_
      refine lv_ldc2 (v := -1) hx hb hown (hts _ km_400) kdX4_permute_237 ?_
      refine lv_lxor hx hb kdX4_permute_240 ?_
      refine lv_aload_n hx hb kdX4_permute_241 rfl (lv_at hl 2 rfl) ?_
      refine lv_iload hx hb kdX4_permute_242 (lv_at hl 5 rfl) ?_
      refine lv_iconst (v := 3) hx hb kdX4_permute_244 (by decide) ?_
      refine lv_iadd hx hb kdX4_permute_245 ?_
      obtain ⟨g_43, h⟩ := kb_g_s h
      refine va_lald hx hb hK hP 2 2 rfl rfl (kb_in_v g_43) kdX4_permute_246 ?_
      refine lv_land hx hb kdX4_permute_247 ?_
      refine lv_lxor hx hb kdX4_permute_248 ?_
      obtain ⟨g_44, h⟩ := kb_g_s h
      refine va_last hx hb hK hP hD hS 1 2 rfl rfl (kb_in_v g_44) kdX4_permute_249 (fun H locs hP hD hS => ?_)
      obtain ⟨f_45, ef_45⟩ : ∃ y, y = vp_updL f_40 (x5p187 + (1 : Int32)).toNatClampNeg ((f_this_movedp82_34 (x5p187 + (1 : Int32)).toNatClampNeg) ^^^ (((f_this_movedp82_34 (x5p187 + (2 : Int32)).toNatClampNeg) ^^^ (-1 : Int64)) &&& (f_this_movedp82_34 (x5p187 + (3 : Int32)).toNatClampNeg))) := ⟨_, rfl⟩
      have h := kb_n_s ef_45 h
      have hP : va_P D kCl (kWX4_permute cB cI cL cBB cII cSh h_this a_this this_rate this_place f_45 f_this_movedp82_34 f_this_columnsp28_12 f_this_turns f_this_targets f_this_roundConstants) H := by rw [ef_45]; exact hP
      have hD : va_D A (kWX4_permute cB cI cL cBB cII cSh h_this a_this this_rate this_place f_45 f_this_movedp82_34 f_this_columnsp28_12 f_this_turns f_this_targets f_this_roundConstants) := by rw [ef_45]; exact hD
      refine lv_aload_n hx hb kdX4_permute_250 rfl (lv_at hl 1 rfl) ?_
      refine lv_iload hx hb kdX4_permute_251 (lv_at hl 5 rfl) ?_
      refine lv_iconst (v := 2) hx hb kdX4_permute_253 (by decide) ?_
      refine lv_iadd hx hb kdX4_permute_254 ?_
      refine lv_aload_n hx hb kdX4_permute_255 rfl (lv_at hl 2 rfl) ?_
      refine lv_iload hx hb kdX4_permute_256 (lv_at hl 5 rfl) ?_
      refine lv_iconst (v := 2) hx hb kdX4_permute_258 (by decide) ?_
      refine lv_iadd hx hb kdX4_permute_259 ?_
      obtain ⟨g_46, h⟩ := kb_g_s h
      refine va_lald hx hb hK hP 2 2 rfl rfl (kb_in_v g_46) kdX4_permute_260 ?_
      refine lv_aload_n hx hb kdX4_permute_261 rfl (lv_at hl 2 rfl) ?_
      refine lv_iload hx hb kdX4_permute_262 (lv_at hl 5 rfl) ?_
      refine lv_iconst (v := 3) hx hb kdX4_permute_264 (by decide) ?_
      refine lv_iadd hx hb kdX4_permute_265 ?_
      obtain ⟨g_47, h⟩ := kb_g_s h
      refine va_lald hx hb hK hP 2 2 rfl rfl (kb_in_v g_47) kdX4_permute_266 ?_
      refine lv_ldc2 (v := -1) hx hb hown (hts _ km_400) kdX4_permute_267 ?_
      refine lv_lxor hx hb kdX4_permute_270 ?_
      refine lv_aload_n hx hb kdX4_permute_271 rfl (lv_at hl 2 rfl) ?_
      refine lv_iload hx hb kdX4_permute_272 (lv_at hl 5 rfl) ?_
      refine lv_iconst (v := 4) hx hb kdX4_permute_274 (by decide) ?_
      refine lv_iadd hx hb kdX4_permute_275 ?_
      obtain ⟨g_48, h⟩ := kb_g_s h
      refine va_lald hx hb hK hP 2 2 rfl rfl (kb_in_v g_48) kdX4_permute_276 ?_
      refine lv_land hx hb kdX4_permute_277 ?_
      refine lv_lxor hx hb kdX4_permute_278 ?_
      obtain ⟨g_49, h⟩ := kb_g_s h
      refine va_last hx hb hK hP hD hS 1 2 rfl rfl (kb_in_v g_49) kdX4_permute_279 (fun H locs hP hD hS => ?_)
      obtain ⟨f_50, ef_50⟩ : ∃ y, y = vp_updL f_45 (x5p187 + (2 : Int32)).toNatClampNeg ((f_this_movedp82_34 (x5p187 + (2 : Int32)).toNatClampNeg) ^^^ (((f_this_movedp82_34 (x5p187 + (3 : Int32)).toNatClampNeg) ^^^ (-1 : Int64)) &&& (f_this_movedp82_34 (x5p187 + (4 : Int32)).toNatClampNeg))) := ⟨_, rfl⟩
      have h := kb_n_s ef_50 h
      have hP : va_P D kCl (kWX4_permute cB cI cL cBB cII cSh h_this a_this this_rate this_place f_50 f_this_movedp82_34 f_this_columnsp28_12 f_this_turns f_this_targets f_this_roundConstants) H := by rw [ef_50]; exact hP
      have hD : va_D A (kWX4_permute cB cI cL cBB cII cSh h_this a_this this_rate this_place f_50 f_this_movedp82_34 f_this_columnsp28_12 f_this_turns f_this_targets f_this_roundConstants) := by rw [ef_50]; exact hD
      refine lv_aload_n hx hb kdX4_permute_280 rfl (lv_at hl 1 rfl) ?_
      refine lv_iload hx hb kdX4_permute_281 (lv_at hl 5 rfl) ?_
      refine lv_iconst (v := 3) hx hb kdX4_permute_283 (by decide) ?_
      refine lv_iadd hx hb kdX4_permute_284 ?_
      refine lv_aload_n hx hb kdX4_permute_285 rfl (lv_at hl 2 rfl) ?_
      refine lv_iload hx hb kdX4_permute_286 (lv_at hl 5 rfl) ?_
      refine lv_iconst (v := 3) hx hb kdX4_permute_288 (by decide) ?_
      refine lv_iadd hx hb kdX4_permute_289 ?_
      obtain ⟨g_51, h⟩ := kb_g_s h
      refine va_lald hx hb hK hP 2 2 rfl rfl (kb_in_v g_51) kdX4_permute_290 ?_
      refine lv_aload_n hx hb kdX4_permute_291 rfl (lv_at hl 2 rfl) ?_
      refine lv_iload hx hb kdX4_permute_292 (lv_at hl 5 rfl) ?_
      refine lv_iconst (v := 4) hx hb kdX4_permute_294 (by decide) ?_
      refine lv_iadd hx hb kdX4_permute_295 ?_
      obtain ⟨g_52, h⟩ := kb_g_s h
      refine va_lald hx hb hK hP 2 2 rfl rfl (kb_in_v g_52) kdX4_permute_296 ?_
      refine lv_ldc2 (v := -1) hx hb hown (hts _ km_400) kdX4_permute_297 ?_
      refine lv_lxor hx hb kdX4_permute_300 ?_
      refine lv_aload_n hx hb kdX4_permute_301 rfl (lv_at hl 2 rfl) ?_
      refine lv_iload hx hb kdX4_permute_302 (lv_at hl 5 rfl) ?_
      obtain ⟨g_53, h⟩ := kb_g_s h
      refine va_lald hx hb hK hP 2 2 rfl rfl (kb_in_v g_53) kdX4_permute_304 ?_
      refine lv_land hx hb kdX4_permute_305 ?_
      refine lv_lxor hx hb kdX4_permute_306 ?_
      obtain ⟨g_54, h⟩ := kb_g_s h
      refine va_last hx hb hK hP hD hS 1 2 rfl rfl (kb_in_v g_54) kdX4_permute_307 (fun H locs hP hD hS => ?_)
      obtain ⟨f_55, ef_55⟩ : ∃ y, y = vp_updL f_50 (x5p187 + (3 : Int32)).toNatClampNeg ((f_this_movedp82_34 (x5p187 + (3 : Int32)).toNatClampNeg) ^^^ (((f_this_movedp82_34 (x5p187 + (4 : Int32)).toNatClampNeg) ^^^ (-1 : Int64)) &&& (f_this_movedp82_34 x5p187.toNatClampNeg))) := ⟨_, rfl⟩
      have h := kb_n_s ef_55 h
      have hP : va_P D kCl (kWX4_permute cB cI cL cBB cII cSh h_this a_this this_rate this_place f_55 f_this_movedp82_34 f_this_columnsp28_12 f_this_turns f_this_targets f_this_roundConstants) H := by rw [ef_55]; exact hP
      have hD : va_D A (kWX4_permute cB cI cL cBB cII cSh h_this a_this this_rate this_place f_55 f_this_movedp82_34 f_this_columnsp28_12 f_this_turns f_this_targets f_this_roundConstants) := by rw [ef_55]; exact hD
      refine lv_aload_n hx hb kdX4_permute_308 rfl (lv_at hl 1 rfl) ?_
      refine lv_iload hx hb kdX4_permute_309 (lv_at hl 5 rfl) ?_
      refine lv_iconst (v := 4) hx hb kdX4_permute_311 (by decide) ?_
      refine lv_iadd hx hb kdX4_permute_312 ?_
      refine lv_aload_n hx hb kdX4_permute_313 rfl (lv_at hl 2 rfl) ?_
      refine lv_iload hx hb kdX4_permute_314 (lv_at hl 5 rfl) ?_
      refine lv_iconst (v := 4) hx hb kdX4_permute_316 (by decide) ?_
      refine lv_iadd hx hb kdX4_permute_317 ?_
      obtain ⟨g_56, h⟩ := kb_g_s h
      refine va_lald hx hb hK hP 2 2 rfl rfl (kb_in_v g_56) kdX4_permute_318 ?_
      refine lv_aload_n hx hb kdX4_permute_319 rfl (lv_at hl 2 rfl) ?_
      refine lv_iload hx hb kdX4_permute_320 (lv_at hl 5 rfl) ?_
      obtain ⟨g_57, h⟩ := kb_g_s h
      refine va_lald hx hb hK hP 2 2 rfl rfl (kb_in_v g_57) kdX4_permute_322 ?_
      refine lv_ldc2 (v := -1) hx hb hown (hts _ km_400) kdX4_permute_323 ?_
      refine lv_lxor hx hb kdX4_permute_326 ?_
      refine lv_aload_n hx hb kdX4_permute_327 rfl (lv_at hl 2 rfl) ?_
      refine lv_iload hx hb kdX4_permute_328 (lv_at hl 5 rfl) ?_
      refine lv_iconst (v := 1) hx hb kdX4_permute_330 (by decide) ?_
      refine lv_iadd hx hb kdX4_permute_331 ?_
      obtain ⟨g_58, h⟩ := kb_g_s h
      refine va_lald hx hb hK hP 2 2 rfl rfl (kb_in_v g_58) kdX4_permute_332 ?_
      refine lv_land hx hb kdX4_permute_333 ?_
      refine lv_lxor hx hb kdX4_permute_334 ?_
      obtain ⟨g_59, h⟩ := kb_g_s h
      refine va_last hx hb hK hP hD hS 1 2 rfl rfl (kb_in_v g_59) kdX4_permute_335 (fun H locs hP hD hS => ?_)
      obtain ⟨f_60, ef_60⟩ : ∃ y, y = vp_updL f_55 (x5p187 + (4 : Int32)).toNatClampNeg ((f_this_movedp82_34 (x5p187 + (4 : Int32)).toNatClampNeg) ^^^ (((f_this_movedp82_34 x5p187.toNatClampNeg) ^^^ (-1 : Int64)) &&& (f_this_movedp82_34 (x5p187 + (1 : Int32)).toNatClampNeg))) := ⟨_, rfl⟩
      have h := kb_n_s ef_60 h
      have hP : va_P D kCl (kWX4_permute cB cI cL cBB cII cSh h_this a_this this_rate this_place f_60 f_this_movedp82_34 f_this_columnsp28_12 f_this_turns f_this_targets f_this_roundConstants) H := by rw [ef_60]; exact hP
      have hD : va_D A (kWX4_permute cB cI cL cBB cII cSh h_this a_this this_rate this_place f_60 f_this_movedp82_34 f_this_columnsp28_12 f_this_turns f_this_targets f_this_roundConstants) := by rw [ef_60]; exact hD
      obtain ⟨x5_61, ex5_61⟩ : ∃ y : Int32, y = x5p187 + Int32.ofInt 5 := ⟨_, rfl⟩
      have h := kb_n_s ex5_61 h
      refine lv_iinc (v := x5_61) (lv' := [(5, .int x5_61), (0, .ref h_this), (1, .ref (a_this 0)), (2, .ref (a_this 1)), (3, .ref (a_this 2)), (4, .int x4p18)]) hx hb kdX4_permute_336 hl (k := 5) rfl ex5_61.symm (by decide) rfl (fun ls hl => ?_)
      refine lv_goto (tgt := 187) hx hb kdX4_permute_339 (by decide) ?_
      obtain rfl := Option.some.inj h
      exact ih x5_61 f_60 r ho _ _ _ hP hD hS (lv_sub hl [1, 2, 3, 4, 5, 0] rfl) hk0
set_option maxHeartbeats 4000000 in
set_option maxRecDepth 100000 in
theorem klX4_permute_18 {p : Program} {l : Launch} {e : Env} {s : State} {m : MethodId} {args : Array Value} {below : List Frame} {meth : Method} {c : Code} {cells slots : Nat} {Q : State → Prop} {D : va_G} {cB cI cL cBB cII cSh : ClassId} {A : Nat → Prop} (C0 : CallFix p m c prog_6_method_11_code 13 s args kwA kRX4) (hlocks : meth.locks = false) (hK : va_K D kCl (kb_T cB cI cL cBB cII cSh) s) (hN : kb_N s) (hA : ∀ q, s.heap.size ≤ q → A q) (hcR : cells ≤ krX4_permute.cells) (hsR : slots ≤ krX4_permute.slots) (h_this : Nat) (a_this : Nat → Nat) (this_rate : Int32) (this_place : Int32) (f_this_turns : Nat → Int32) (f_this_targets : Nat → Int32) (f_this_roundConstants : Nat → Int64) :
    ∀ (fuel : Nat) (x4p18 : Int32) (f_this_columnsp18 : Nat → Int64) (f_this_lanesp18 : Nat → Int64) (f_this_movedp18 : Nat → Int64) (r : Int32 × (Nat → Int64) × (Nat → Int64) × (Nat → Int64)), kb_w (fun u : Int32 × (Nat → Int64) × (Nat → Int64) × (Nat → Int64) => kSX4_permute_18 f_this_turns f_this_targets f_this_roundConstants u.1 u.2.1 u.2.2.1 u.2.2.2) fuel (x4p18, f_this_columnsp18, f_this_lanesp18, f_this_movedp18) = some r → ∀ (H : Heap) (locs : List Loc) (ls : Array Slot), va_P D kCl (kWX4_permute cB cI cL cBB cII cSh h_this a_this this_rate this_place f_this_lanesp18 f_this_movedp18 f_this_columnsp18 f_this_turns f_this_targets f_this_roundConstants) H → va_D A (kWX4_permute cB cI cL cBB cII cSh h_this a_this this_rate this_place f_this_lanesp18 f_this_movedp18 f_this_columnsp18 f_this_turns f_this_targets f_this_roundConstants) → va_S A s.heap H locs → lv_has ls 13 [(0, .ref h_this), (1, .ref (a_this 0)), (2, .ref (a_this 1)), (3, .ref (a_this 2)), (4, .int x4p18)] → (∀ (x4p18' : Int32) (f_this_columnsp18' : Nat → Int64) (f_this_lanesp18' : Nat → Int64) (f_this_movedp18' : Nat → Int64), r = (x4p18', f_this_columnsp18', f_this_lanesp18', f_this_movedp18') → ∀ (H : Heap) (locs : List Loc) (ls : Array Slot), va_P D kCl (kWX4_permute cB cI cL cBB cII cSh h_this a_this this_rate this_place f_this_lanesp18' f_this_movedp18' f_this_columnsp18' f_this_turns f_this_targets f_this_roundConstants) H → va_D A (kWX4_permute cB cI cL cBB cII cSh h_this a_this this_rate this_place f_this_lanesp18' f_this_movedp18' f_this_columnsp18' f_this_turns f_this_targets f_this_roundConstants) → va_S A s.heap H locs → lv_has ls 13 [(0, .ref h_this), (1, .ref (a_this 0)), (2, .ref (a_this 1)), (3, .ref (a_this 2)), (4, .int x4p18')] → W p l e krX4_permute s m args below meth c H locs cells slots Q (F0 m 361 ls [])) → W p l e krX4_permute s m args below meth c H locs cells slots Q (F0 m 18 ls []) := by
  obtain ⟨hx, hb, hml, hown, hts⟩ := id C0
  intro fuel
  induction fuel with
  | zero =>
    intro x4p18 f_this_columnsp18 f_this_lanesp18 f_this_movedp18 r h
    exact absurd h (kb_w_z _ _ _)
  | succ fuel ih =>
    intro x4p18 f_this_columnsp18 f_this_lanesp18 f_this_movedp18 r h H locs ls hP hD hS hl hk0
    obtain ⟨o, h, ho⟩ := kb_w_s h
    have h : kSX4_permute_18 f_this_turns f_this_targets f_this_roundConstants x4p18 f_this_columnsp18 f_this_lanesp18 f_this_movedp18 = some o := h
    unfold kSX4_permute_18 at h
    refine lv_iload hx hb kdX4_permute_18 (lv_at hl 4 rfl) ?_
    refine lv_bipush (v := 24) hx hb kdX4_permute_20 (by decide) ?_
    refine lv_icmp_ge (tgt := 361) hx hb kdX4_permute_22 (by decide) (fun c_1 => ?_) (fun c_1 => ?_)
    · have h := kb_b_t c_1 h
      obtain rfl := Option.some.inj h
      exact hk0 x4p18 f_this_columnsp18 f_this_lanesp18 f_this_movedp18 ho.symm _ _ _ hP hD hS (lv_sub hl [0, 1, 2, 3, 4] rfl)
    · have h := kb_b_f c_1 h
      refine lv_iconst (v := 0) hx hb kdX4_permute_25 (by decide) ?_
      refine lv_istore (lv' := [(5, .int (0 : Int32)), (0, .ref h_this), (1, .ref (a_this 0)), (2, .ref (a_this 1)), (3, .ref (a_this 2)), (4, .int x4p18)]) hx hb kdX4_permute_26 hl (by decide) rfl (fun ls hl => ?_)
      obtain ⟨r_69, hr_69, h⟩ := kb_o_s h
      refine klX4_permute_28 C0 hlocks hK hN hA hcR hsR h_this a_this x4p18 this_rate this_place f_this_lanesp18 f_this_movedp18 f_this_turns f_this_targets f_this_roundConstants 100000 (0 : Int32) f_this_columnsp18 r_69 hr_69 _ _ _ hP hD hS (lv_sub hl [1, 2, 3, 4, 5, 0] rfl) (fun x5p28_11 f_this_columnsp28_12 er_69 H locs ls hP hD hS hl => ?_)
      subst er_69
      try dsimp only at h
      refine lv_iconst (v := 0) hx hb kdX4_permute_79 (by decide) ?_
      refine lv_istore (lv' := [(5, .int (0 : Int32)), (0, .ref h_this), (1, .ref (a_this 0)), (2, .ref (a_this 1)), (3, .ref (a_this 2)), (4, .int x4p18)]) hx hb kdX4_permute_80 hl (by decide) rfl (fun ls hl => ?_)
      obtain ⟨r_68, hr_68, h⟩ := kb_o_s h
      refine klX4_permute_82 C0 hlocks hK hN hA hcR hsR h_this a_this x4p18 this_rate this_place f_this_lanesp18 f_this_columnsp28_12 f_this_turns f_this_targets f_this_roundConstants 100000 (0 : Int32) f_this_movedp18 r_68 hr_68 _ _ _ hP hD hS (lv_sub hl [1, 2, 3, 4, 5, 0] rfl) (fun x5p82_33 f_this_movedp82_34 er_68 H locs ls hP hD hS hl => ?_)
      subst er_68
      try dsimp only at h
      refine lv_iconst (v := 0) hx hb kdX4_permute_184 (by decide) ?_
      refine lv_istore (lv' := [(5, .int (0 : Int32)), (0, .ref h_this), (1, .ref (a_this 0)), (2, .ref (a_this 1)), (3, .ref (a_this 2)), (4, .int x4p18)]) hx hb kdX4_permute_185 hl (by decide) rfl (fun ls hl => ?_)
      obtain ⟨r_67, hr_67, h⟩ := kb_o_s h
      refine klX4_permute_187 C0 hlocks hK hN hA hcR hsR h_this a_this x4p18 this_rate this_place f_this_movedp82_34 f_this_columnsp28_12 f_this_turns f_this_targets f_this_roundConstants 100000 (0 : Int32) f_this_lanesp18 r_67 hr_67 _ _ _ hP hD hS (lv_sub hl [1, 2, 3, 4, 5, 0] rfl) (fun x5p187_62 f_this_lanesp187_63 er_67 H locs ls hP hD hS hl => ?_)
      subst er_67
      try dsimp only at h
      refine lv_aload_n hx hb kdX4_permute_342 rfl (lv_at hl 1 rfl) ?_
      refine lv_iconst (v := 0) hx hb kdX4_permute_343 (by decide) ?_
      refine lv_dup2_11 hx hb kdX4_permute_344 rfl rfl ?_
      refine va_lald hx hb hK hP 1 2 rfl rfl (kb_in_v (by decide)) kdX4_permute_345 ?_
      refine lv_aload_n hx hb kdX4_permute_346 rfl (lv_at hl 0 rfl) ?_
      refine va_get (ci := 4) (v := .ref (a_this 5)) (C := kRX4) (T := kTX4) (N := 8) hx hb hts kinX4 hown hK hP 0 rfl rfl 5 (by decide) (hts _ km_83) (fun _ h9 => h9) rfl kdX4_permute_347 ?_
      refine lv_iload hx hb kdX4_permute_350 (lv_at hl 4 rfl) ?_
      obtain ⟨g_64, h⟩ := kb_g_s h
      refine va_lald hx hb hK hP 6 2 rfl rfl (kb_in_v g_64) kdX4_permute_352 ?_
      refine lv_lxor hx hb kdX4_permute_353 ?_
      refine va_last hx hb hK hP hD hS 1 2 rfl rfl (kb_in_v (by decide)) kdX4_permute_354 (fun H locs hP hD hS => ?_)
      obtain ⟨f_65, ef_65⟩ : ∃ y, y = vp_updL f_this_lanesp187_63 (0 : Int32).toNatClampNeg ((f_this_lanesp187_63 (0 : Int32).toNatClampNeg) ^^^ (f_this_roundConstants x4p18.toNatClampNeg)) := ⟨_, rfl⟩
      have h := kb_n_s ef_65 h
      have hP : va_P D kCl (kWX4_permute cB cI cL cBB cII cSh h_this a_this this_rate this_place f_65 f_this_movedp82_34 f_this_columnsp28_12 f_this_turns f_this_targets f_this_roundConstants) H := by rw [ef_65]; exact hP
      have hD : va_D A (kWX4_permute cB cI cL cBB cII cSh h_this a_this this_rate this_place f_65 f_this_movedp82_34 f_this_columnsp28_12 f_this_turns f_this_targets f_this_roundConstants) := by rw [ef_65]; exact hD
      obtain ⟨x4_66, ex4_66⟩ : ∃ y : Int32, y = x4p18 + Int32.ofInt 1 := ⟨_, rfl⟩
      have h := kb_n_s ex4_66 h
      refine lv_iinc (v := x4_66) (lv' := [(4, .int x4_66), (0, .ref h_this), (1, .ref (a_this 0)), (2, .ref (a_this 1)), (3, .ref (a_this 2)), (5, .int x5p187_62)]) hx hb kdX4_permute_355 hl (k := 4) rfl ex4_66.symm (by decide) rfl (fun ls hl => ?_)
      refine lv_goto (tgt := 18) hx hb kdX4_permute_358 (by decide) ?_
      obtain rfl := Option.some.inj h
      exact ih x4_66 f_this_columnsp28_12 f_65 f_this_movedp82_34 r ho _ _ _ hP hD hS (lv_sub hl [1, 2, 3, 4, 0] rfl) hk0
set_option maxHeartbeats 4000000 in
set_option maxRecDepth 100000 in
theorem kcX4_permute (l : Launch) (D : va_G) (cB cI cL cBB cII cSh : ClassId) (h_this : Nat) (a_this : Nat → Nat) (sz : Nat) (this_rate : Int32) (this_place : Int32) (f_this_lanes : Nat → Int64) (f_this_moved : Nat → Int64) (f_this_columns : Nat → Int64) (f_this_turns : Nat → Int32) (f_this_targets : Nat → Int32) (f_this_roundConstants : Nat → Int64) (out : (Nat → Int64) × (Nat → Int64) × (Nat → Int64)) (h : kFX4_permute f_this_lanes f_this_moved f_this_columns f_this_turns f_this_targets f_this_roundConstants = some out) : Met l kyX4_permute kwX4_permute krX4_permute (kb_P D kCl (kb_T cB cI cL cBB cII cSh) [.ref h_this] (kWX4_permute cB cI cL cBB cII cSh h_this a_this this_rate this_place f_this_lanes f_this_moved f_this_columns f_this_turns f_this_targets f_this_roundConstants) sz) (kb_Q D kCl (kb_T cB cI cL cBB cII cSh) (va_A (kWX4_permute cB cI cL cBB cII cSh h_this a_this this_rate this_place f_this_lanes f_this_moved f_this_columns f_this_turns f_this_targets f_this_roundConstants) sz) none (kWX4_permute cB cI cL cBB cII cSh h_this a_this this_rate this_place out.1 out.2.1 out.2.2 f_this_turns f_this_targets f_this_roundConstants)) 0 0 (va_A (kWX4_permute cB cI cL cBB cII cSh h_this a_this this_rate this_place f_this_lanes f_this_moved f_this_columns f_this_turns f_this_targets f_this_roundConstants) sz) := by
  refine Met.ofW (cc := prog_6_method_11_code) (maxL := 13) (ret := none) (by decide) rfl ?_
  intro p e s m args below meth c s₁ B hml hv
  obtain ⟨rfl, hsz, hP, hK, hN, hD0⟩ := hv
  have hx := B.exec
  have hb := B.bytes
  have hr := B.returns
  have hts0 := atoms_spec (ws := kwX4_permute) B.pre
  have hts : ∀ w ∈ kwA, w.before _ s = true := fun w h => hts0 w (List.mem_cons_of_mem _ h)
  have hown : s.vm.findClass kRX4 = some m.cls := findClass_of_methodNamed B.named
  have hlocks := B.notSynchronized
  subst hsz
  have hD := hD0.self (sz := s.heap.size)
  generalize hAe : va_A (kWX4_permute cB cI cL cBB cII cSh h_this a_this this_rate this_place f_this_lanes f_this_moved f_this_columns f_this_turns f_this_targets f_this_roundConstants) s.heap.size = A at hD ⊢
  have hA : ∀ q : Nat, s.heap.size ≤ q → A q := fun q h => by rw [← hAe]; exact Or.inr h
  have hS : va_S A s.heap s.heap [] := va_S.rf
  have C0 : CallFix p m c prog_6_method_11_code 13 s _ kwA kRX4 := ⟨hx, hb, hml, hown, hts⟩
  have hl := lv_entry ([.ref h_this]) (n := 13) (Nat.le_of_ble_eq_true rfl)
  rw [lg_entry_eq]
  generalize (lg_sl ([.ref h_this]) ++ List.replicate (13 - (lg_sl ([.ref h_this])).length) Slot.unset).toArray = ls at hl ⊢
  have hl : lv_has ls 13 [(0, .ref h_this)] := hl
  unfold kFX4_permute at h
  refine lv_aload_n hx hb kdX4_permute_0 rfl (lv_at hl 0 rfl) ?_
  refine va_get (ci := 4) (v := .ref (a_this 0)) (C := kRX4) (T := kTX4) (N := 8) hx hb hts kinX4 hown hK hP 0 rfl rfl 0 (by decide) (hts _ km_78) (fun _ h9 => h9) rfl kdX4_permute_1 ?_
  refine lv_astore_n (lv' := [(1, .ref (a_this 0)), (0, .ref h_this)]) hx hb kdX4_permute_4 rfl hl (by decide) rfl (fun ls hl => ?_)
  refine lv_aload_n hx hb kdX4_permute_5 rfl (lv_at hl 1 rfl) ?_
  refine va_get (ci := 4) (v := .ref (a_this 1)) (C := kRX4) (T := kTX4) (N := 8) hx hb hts kinX4 hown hK hP 0 rfl rfl 1 (by decide) (hts _ km_79) (fun _ h9 => h9) rfl kdX4_permute_6 ?_
  refine lv_astore_n (lv' := [(2, .ref (a_this 1)), (1, .ref (a_this 0)), (0, .ref h_this)]) hx hb kdX4_permute_9 rfl hl (by decide) rfl (fun ls hl => ?_)
  refine lv_aload_n hx hb kdX4_permute_10 rfl (lv_at hl 2 rfl) ?_
  refine va_get (ci := 4) (v := .ref (a_this 2)) (C := kRX4) (T := kTX4) (N := 8) hx hb hts kinX4 hown hK hP 0 rfl rfl 2 (by decide) (hts _ km_80) (fun _ h9 => h9) rfl kdX4_permute_11 ?_
  refine lv_astore_n (lv' := [(3, .ref (a_this 2)), (2, .ref (a_this 1)), (1, .ref (a_this 0)), (0, .ref h_this)]) hx hb kdX4_permute_14 rfl hl (by decide) rfl (fun ls hl => ?_)
  refine lv_iconst (v := 0) hx hb kdX4_permute_15 (by decide) ?_
  refine lv_istore (lv' := [(4, .int (0 : Int32)), (3, .ref (a_this 2)), (2, .ref (a_this 1)), (1, .ref (a_this 0)), (0, .ref h_this)]) hx hb kdX4_permute_16 hl (by decide) rfl (fun ls hl => ?_)
  obtain ⟨r_74, hr_74, h⟩ := kb_o_s h
  refine klX4_permute_18 C0 hlocks hK hN hA (by decide) (by decide) h_this a_this this_rate this_place f_this_turns f_this_targets f_this_roundConstants 100000 (0 : Int32) f_this_columns f_this_lanes f_this_moved r_74 hr_74 _ _ _ hP hD hS (lv_sub hl [4, 3, 2, 1, 0] rfl) (fun x4p18_70 f_this_columnsp18_71 f_this_lanesp18_72 f_this_movedp18_73 er_74 H locs ls hP hD hS hl => ?_)
  subst er_74
  try dsimp only at h
  obtain rfl := Option.some.inj h
  exact W.vret hx hb hr (fun t ht hW => ⟨⟨rfl, by rw [ht]; exact hP, va_K.moved hW.alike hK, hD⟩, hS.F ht⟩) hS.2.2 kdX4_permute_361
abbrev kWX4_take (cB cI cL cBB cII cSh : ClassId) (h_this : Nat) (a_this : Nat → Nat) (h_a1 : Nat) (n_a1 : Nat) (this_rate : Int32) (this_place : Int32) (f_this_lanes : Nat → Int64) (f_this_moved : Nat → Int64) (f_this_columns : Nat → Int64) (f_this_turns : Nat → Int32) (f_this_targets : Nat → Int32) (f_this_roundConstants : Nat → Int64) (f_a1 : Nat → Int32) : va_W := [(h_this, koX4 a_this this_rate this_place), ((a_this 0), .inl (cL, 25, .inr (.inl f_this_lanes))), ((a_this 1), .inl (cL, 25, .inr (.inl f_this_moved))), ((a_this 2), .inl (cL, 5, .inr (.inl f_this_columns))), ((a_this 3), .inl (cI, 25, .inl f_this_turns)), ((a_this 4), .inl (cI, 25, .inl f_this_targets)), ((a_this 5), .inl (cL, 24, .inr (.inl f_this_roundConstants))), (h_a1, .inl (cB, n_a1, .inl f_a1))]
def krX4_take : Room := { frames := 1, cells := 0, slots := 0, locals := 32 }
set_option maxHeartbeats 4000000 in
set_option maxRecDepth 100000 in
theorem klX4_take_3 {p : Program} {l : Launch} {e : Env} {s : State} {m : MethodId} {args : Array Value} {below : List Frame} {meth : Method} {c : Code} {cells slots : Nat} {Q : State → Prop} {D : va_G} {cB cI cL cBB cII cSh : ClassId} {A : Nat → Prop} (C0 : CallFix p m c prog_6_method_7_code 5 s args kwA kRX4) (hlocks : meth.locks = false) (hK : va_K D kCl (kb_T cB cI cL cBB cII cSh) s) (hN : kb_N s) (hA : ∀ q, s.heap.size ≤ q → A q) (hcR : cells ≤ krX4_take.cells) (hsR : slots ≤ krX4_take.slots) (h_this h_a1 : Nat) (a_this : Nat → Nat) (p2 : Int32) (p3 : Int32) (n_a1 : Nat) (this_rate : Int32) (f_this_turns : Nat → Int32) (f_this_targets : Nat → Int32) (f_this_roundConstants : Nat → Int64) (f_a1 : Nat → Int32) :
    ∀ (fuel : Nat) (x4p3 : Int32) (this_placep3 : Int32) (f_this_columnsp3 : Nat → Int64) (f_this_lanesp3 : Nat → Int64) (f_this_movedp3 : Nat → Int64) (r : Int32 × Int32 × (Nat → Int64) × (Nat → Int64) × (Nat → Int64)), kb_w (fun u : Int32 × Int32 × (Nat → Int64) × (Nat → Int64) × (Nat → Int64) => kSX4_take_3 p2 p3 n_a1 this_rate f_this_turns f_this_targets f_this_roundConstants f_a1 u.1 u.2.1 u.2.2.1 u.2.2.2.1 u.2.2.2.2) fuel (x4p3, this_placep3, f_this_columnsp3, f_this_lanesp3, f_this_movedp3) = some r → ∀ (H : Heap) (locs : List Loc) (ls : Array Slot), va_P D kCl (kWX4_take cB cI cL cBB cII cSh h_this a_this h_a1 n_a1 this_rate this_placep3 f_this_lanesp3 f_this_movedp3 f_this_columnsp3 f_this_turns f_this_targets f_this_roundConstants f_a1) H → va_D A (kWX4_take cB cI cL cBB cII cSh h_this a_this h_a1 n_a1 this_rate this_placep3 f_this_lanesp3 f_this_movedp3 f_this_columnsp3 f_this_turns f_this_targets f_this_roundConstants f_a1) → va_S A s.heap H locs → lv_has ls 5 [(0, .ref h_this), (1, .ref h_a1), (2, .int p2), (3, .int p3), (4, .int x4p3)] → (∀ (x4p3' : Int32) (this_placep3' : Int32) (f_this_columnsp3' : Nat → Int64) (f_this_lanesp3' : Nat → Int64) (f_this_movedp3' : Nat → Int64), r = (x4p3', this_placep3', f_this_columnsp3', f_this_lanesp3', f_this_movedp3') → ∀ (H : Heap) (locs : List Loc) (ls : Array Slot), va_P D kCl (kWX4_take cB cI cL cBB cII cSh h_this a_this h_a1 n_a1 this_rate this_placep3' f_this_lanesp3' f_this_movedp3' f_this_columnsp3' f_this_turns f_this_targets f_this_roundConstants f_a1) H → va_D A (kWX4_take cB cI cL cBB cII cSh h_this a_this h_a1 n_a1 this_rate this_placep3' f_this_lanesp3' f_this_movedp3' f_this_columnsp3' f_this_turns f_this_targets f_this_roundConstants f_a1) → va_S A s.heap H locs → lv_has ls 5 [(0, .ref h_this), (1, .ref h_a1), (2, .int p2), (3, .int p3), (4, .int x4p3')] → W p l e krX4_take s m args below meth c H locs cells slots Q (F0 m 59 ls [])) → W p l e krX4_take s m args below meth c H locs cells slots Q (F0 m 3 ls []) := by
  obtain ⟨hx, hb, hml, hown, hts⟩ := id C0
  intro fuel
  induction fuel with
  | zero =>
    intro x4p3 this_placep3 f_this_columnsp3 f_this_lanesp3 f_this_movedp3 r h
    exact absurd h (kb_w_z _ _ _)
  | succ fuel ih =>
    intro x4p3 this_placep3 f_this_columnsp3 f_this_lanesp3 f_this_movedp3 r h H locs ls hP hD hS hl hk0
    obtain ⟨o, h, ho⟩ := kb_w_s h
    have h : kSX4_take_3 p2 p3 n_a1 this_rate f_this_turns f_this_targets f_this_roundConstants f_a1 x4p3 this_placep3 f_this_columnsp3 f_this_lanesp3 f_this_movedp3 = some o := h
    unfold kSX4_take_3 at h
    refine lv_iload hx hb kdX4_take_3 (lv_at hl 4 rfl) ?_
    refine lv_iload_n hx hb kdX4_take_5 rfl (lv_at hl 3 rfl) ?_
    refine lv_icmp_ge (tgt := 59) hx hb kdX4_take_6 (by decide) (fun c_1 => ?_) (fun c_1 => ?_)
    · have h := kb_b_t c_1 h
      obtain rfl := Option.some.inj h
      exact hk0 x4p3 this_placep3 f_this_columnsp3 f_this_lanesp3 f_this_movedp3 ho.symm _ _ _ hP hD hS (lv_sub hl [0, 1, 2, 3, 4] rfl)
    · have h := kb_b_f c_1 h
      refine lv_aload_n hx hb kdX4_take_9 rfl (lv_at hl 0 rfl) ?_
      refine lv_aload_n hx hb kdX4_take_10 rfl (lv_at hl 0 rfl) ?_
      refine va_get (ci := 4) (v := .int this_placep3) (C := kRX4) (T := kTX4) (N := 8) hx hb hts kinX4 hown hK hP 0 rfl rfl 7 (by decide) (hts _ km_85) (fun _ h9 => h9) rfl kdX4_take_11 ?_
      refine lv_aload_n hx hb kdX4_take_14 rfl (lv_at hl 1 rfl) ?_
      refine lv_iload_n hx hb kdX4_take_15 rfl (lv_at hl 2 rfl) ?_
      refine lv_iload hx hb kdX4_take_16 (lv_at hl 4 rfl) ?_
      refine lv_iadd hx hb kdX4_take_18 ?_
      obtain ⟨g_2, h⟩ := kb_g_s h
      refine va_bald hx hb hK hP 7 0 rfl rfl (kb_in_v g_2) kdX4_take_19 ?_
      obtain ⟨u_4, hu_4, h⟩ := kb_o_s h
      obtain ⟨f_3, rfl⟩ : ∃ z, z = u_4 := ⟨_, rfl⟩
      try dsimp only at h
      have hC := (show [0, 1].map (fun i => (kWX4_take cB cI cL cBB cII cSh h_this a_this h_a1 n_a1 this_rate this_placep3 f_this_lanesp3 f_this_movedp3 f_this_columnsp3 f_this_turns f_this_targets f_this_roundConstants f_a1)[i]?) = List.map some (kWX4_mixIn cB cI cL cBB cII cSh h_this a_this this_rate this_placep3 f_this_lanesp3) from rfl)
      have hPc := kb_Psub hP [0, 1] hC
      have hDc := kb_Dsub hD [0, 1] hC (by simp [kb_nd])
      refine kb_call0 (va_runV (As := [.int this_placep3, .int (f_a1 (p2 + x4p3).toNatClampNeg)]) (rest := []) C0 (kcX4_mixIn l D cB cI cL cBB cII cSh h_this a_this _ this_placep3 (f_a1 (p2 + x4p3).toNatClampNeg) this_rate this_placep3 f_this_lanesp3 f_3 hu_4) (cwV 2 hts (kb_gV km_391 km_393 kp_19 km_4 km_394) rfl rfl rfl (by decide +kernel) ⟨Nat.le_of_ble_eq_true rfl, Nat.le_of_ble_eq_true rfl⟩) ⟨kb_P_bl, va_recv hK hP (ci := 4) (q0 := 0) rfl rfl, (fun U hU hW => ⟨rfl, by rw [hU], by rw [hU]; exact hPc, va_K.moved hW.alike hK, kb_N_to hW hN, hDc.weaken (fun _ _ _ _ => trivial)⟩)⟩ rfl rfl hl.1 rfl (lv_room (Nat.le_of_ble_eq_true rfl)) kdX4_take_20 ⟨hcR, hsR⟩) hP hD hS hA [0, 1] hC rfl (fun H locs hP hD hS => ?_)
      have hP : va_P D kCl (kWX4_take cB cI cL cBB cII cSh h_this a_this h_a1 n_a1 this_rate this_placep3 f_3 f_this_movedp3 f_this_columnsp3 f_this_turns f_this_targets f_this_roundConstants f_a1) H := hP
      have hD : va_D A (kWX4_take cB cI cL cBB cII cSh h_this a_this h_a1 n_a1 this_rate this_placep3 f_3 f_this_movedp3 f_this_columnsp3 f_this_turns f_this_targets f_this_roundConstants f_a1) := hD
      refine lv_aload_n hx hb kdX4_take_23 rfl (lv_at hl 0 rfl) ?_
      refine lv_dup hx hb kdX4_take_24 rfl ?_
      refine va_get (ci := 4) (v := .int this_placep3) (C := kRX4) (T := kTX4) (N := 8) hx hb hts kinX4 hown hK hP 0 rfl rfl 7 (by decide) (hts _ km_85) (fun _ h9 => h9) rfl kdX4_take_25 ?_
      refine lv_iconst (v := 1) hx hb kdX4_take_28 (by decide) ?_
      refine lv_iadd hx hb kdX4_take_29 ?_
      refine lv_topi (fun w_5 ew_5 => ?_)
      have h := kb_n_s ew_5 h
      refine va_put (ci := 4) (v := .int w_5) (C := kRX4) (T := kTX4) (N := 8) hx hb hts kinX4 ktyX4 ktyX4_ok knX4 hown hK hP hD hS 0 rfl rfl 7 (by decide) (hts _ km_85) (fun _ h9 => h9) rfl (ktyX4_ok 7 (by decide)) rfl rfl (Nat.le_of_ble_eq_true rfl) kdX4_take_30 (fun H locs hP hD hS => ?_)
      have hP : va_P D kCl (kWX4_take cB cI cL cBB cII cSh h_this a_this h_a1 n_a1 this_rate w_5 f_3 f_this_movedp3 f_this_columnsp3 f_this_turns f_this_targets f_this_roundConstants f_a1) H := hP
      have hD : va_D A (kWX4_take cB cI cL cBB cII cSh h_this a_this h_a1 n_a1 this_rate w_5 f_3 f_this_movedp3 f_this_columnsp3 f_this_turns f_this_targets f_this_roundConstants f_a1) := hD
      refine lv_aload_n hx hb kdX4_take_33 rfl (lv_at hl 0 rfl) ?_
      refine va_get (ci := 4) (v := .int w_5) (C := kRX4) (T := kTX4) (N := 8) hx hb hts kinX4 hown hK hP 0 rfl rfl 7 (by decide) (hts _ km_85) (fun _ h9 => h9) rfl kdX4_take_34 ?_
      refine lv_aload_n hx hb kdX4_take_37 rfl (lv_at hl 0 rfl) ?_
      refine va_get (ci := 4) (v := .int this_rate) (C := kRX4) (T := kTX4) (N := 8) hx hb hts kinX4 hown hK hP 0 rfl rfl 6 (by decide) (hts _ km_84) (fun _ h9 => h9) rfl kdX4_take_38 ?_
      refine lv_icmp_ne (tgt := 53) hx hb kdX4_take_41 (by decide) (fun c_6 => ?_) (fun c_6 => ?_)
      · have h := kb_b_f c_6 h
        obtain ⟨x4_7, ex4_7⟩ : ∃ y : Int32, y = x4p3 + Int32.ofInt 1 := ⟨_, rfl⟩
        have h := kb_n_s ex4_7 h
        refine lv_iinc (v := x4_7) (lv' := [(4, .int x4_7), (0, .ref h_this), (1, .ref h_a1), (2, .int p2), (3, .int p3)]) hx hb kdX4_take_53 hl (k := 4) rfl ex4_7.symm (by decide) rfl (fun ls hl => ?_)
        refine lv_goto (tgt := 3) hx hb kdX4_take_56 (by decide) ?_
        obtain rfl := Option.some.inj h
        exact ih x4_7 w_5 f_this_columnsp3 f_3 f_this_movedp3 r ho _ _ _ hP hD hS (lv_sub hl [1, 2, 3, 4, 0] rfl) hk0
      · have h := kb_b_t c_6 h
        refine lv_aload_n hx hb kdX4_take_44 rfl (lv_at hl 0 rfl) ?_
        obtain ⟨u_11, hu_11, h⟩ := kb_o_s h
        obtain ⟨f_8, f_9, f_10⟩ := u_11
        try dsimp only at h
        have hC := (show [0, 1, 2, 3, 4, 5, 6].map (fun i => (kWX4_take cB cI cL cBB cII cSh h_this a_this h_a1 n_a1 this_rate w_5 f_3 f_this_movedp3 f_this_columnsp3 f_this_turns f_this_targets f_this_roundConstants f_a1)[i]?) = List.map some (kWX4_permute cB cI cL cBB cII cSh h_this a_this this_rate w_5 f_3 f_this_movedp3 f_this_columnsp3 f_this_turns f_this_targets f_this_roundConstants) from rfl)
        have hPc := kb_Psub hP [0, 1, 2, 3, 4, 5, 6] hC
        have hDc := kb_Dsub hD [0, 1, 2, 3, 4, 5, 6] hC (by simp [kb_nd])
        refine kb_call0 (va_runV (As := []) (rest := []) C0 (kcX4_permute l D cB cI cL cBB cII cSh h_this a_this _ this_rate w_5 f_3 f_this_movedp3 f_this_columnsp3 f_this_turns f_this_targets f_this_roundConstants (f_8, f_9, f_10) hu_11) (cwV 0 hts (kb_gV km_396 km_398 kp_20 km_4 km_399) rfl rfl rfl (by decide +kernel) ⟨Nat.le_of_ble_eq_true rfl, Nat.le_of_ble_eq_true rfl⟩) ⟨kb_P_bl, va_recv hK hP (ci := 4) (q0 := 0) rfl rfl, (fun U hU hW => ⟨rfl, by rw [hU], by rw [hU]; exact hPc, va_K.moved hW.alike hK, kb_N_to hW hN, hDc.weaken (fun _ _ _ _ => trivial)⟩)⟩ rfl rfl hl.1 rfl (lv_room (Nat.le_of_ble_eq_true rfl)) kdX4_take_45 ⟨hcR, hsR⟩) hP hD hS hA [0, 1, 2, 3, 4, 5, 6] hC rfl (fun H locs hP hD hS => ?_)
        have hP : va_P D kCl (kWX4_take cB cI cL cBB cII cSh h_this a_this h_a1 n_a1 this_rate w_5 f_8 f_9 f_10 f_this_turns f_this_targets f_this_roundConstants f_a1) H := hP
        have hD : va_D A (kWX4_take cB cI cL cBB cII cSh h_this a_this h_a1 n_a1 this_rate w_5 f_8 f_9 f_10 f_this_turns f_this_targets f_this_roundConstants f_a1) := hD
        refine lv_aload_n hx hb kdX4_take_48 rfl (lv_at hl 0 rfl) ?_
        refine lv_iconst (v := 0) hx hb kdX4_take_49 (by decide) ?_
        refine va_put (ci := 4) (v := .int (0 : Int32)) (C := kRX4) (T := kTX4) (N := 8) hx hb hts kinX4 ktyX4 ktyX4_ok knX4 hown hK hP hD hS 0 rfl rfl 7 (by decide) (hts _ km_85) (fun _ h9 => h9) rfl (ktyX4_ok 7 (by decide)) rfl rfl (Nat.le_of_ble_eq_true rfl) kdX4_take_50 (fun H locs hP hD hS => ?_)
        have hP : va_P D kCl (kWX4_take cB cI cL cBB cII cSh h_this a_this h_a1 n_a1 this_rate (0 : Int32) f_8 f_9 f_10 f_this_turns f_this_targets f_this_roundConstants f_a1) H := hP
        have hD : va_D A (kWX4_take cB cI cL cBB cII cSh h_this a_this h_a1 n_a1 this_rate (0 : Int32) f_8 f_9 f_10 f_this_turns f_this_targets f_this_roundConstants f_a1) := hD
        obtain ⟨x4_12, ex4_12⟩ : ∃ y : Int32, y = x4p3 + Int32.ofInt 1 := ⟨_, rfl⟩
        have h := kb_n_s ex4_12 h
        refine lv_iinc (v := x4_12) (lv' := [(4, .int x4_12), (0, .ref h_this), (1, .ref h_a1), (2, .int p2), (3, .int p3)]) hx hb kdX4_take_53 hl (k := 4) rfl ex4_12.symm (by decide) rfl (fun ls hl => ?_)
        refine lv_goto (tgt := 3) hx hb kdX4_take_56 (by decide) ?_
        obtain rfl := Option.some.inj h
        exact ih x4_12 (0 : Int32) f_10 f_8 f_9 r ho _ _ _ hP hD hS (lv_sub hl [1, 2, 3, 4, 0] rfl) hk0
set_option maxHeartbeats 4000000 in
set_option maxRecDepth 100000 in
theorem kcX4_take (l : Launch) (D : va_G) (cB cI cL cBB cII cSh : ClassId) (h_this h_a1 : Nat) (a_this : Nat → Nat) (sz : Nat) (p2 : Int32) (p3 : Int32) (n_a1 : Nat) (this_rate : Int32) (this_place : Int32) (f_this_lanes : Nat → Int64) (f_this_moved : Nat → Int64) (f_this_columns : Nat → Int64) (f_this_turns : Nat → Int32) (f_this_targets : Nat → Int32) (f_this_roundConstants : Nat → Int64) (f_a1 : Nat → Int32) (out : Int32 × (Nat → Int64) × (Nat → Int64) × (Nat → Int64)) (h : kFX4_take p2 p3 n_a1 this_rate this_place f_this_lanes f_this_moved f_this_columns f_this_turns f_this_targets f_this_roundConstants f_a1 = some out) : Met l kyX4_take kwX4_take krX4_take (kb_P D kCl (kb_T cB cI cL cBB cII cSh) [.ref h_this, .ref h_a1, .int p2, .int p3] (kWX4_take cB cI cL cBB cII cSh h_this a_this h_a1 n_a1 this_rate this_place f_this_lanes f_this_moved f_this_columns f_this_turns f_this_targets f_this_roundConstants f_a1) sz) (kb_Q D kCl (kb_T cB cI cL cBB cII cSh) (va_A (kWX4_take cB cI cL cBB cII cSh h_this a_this h_a1 n_a1 this_rate this_place f_this_lanes f_this_moved f_this_columns f_this_turns f_this_targets f_this_roundConstants f_a1) sz) none (kWX4_take cB cI cL cBB cII cSh h_this a_this h_a1 n_a1 this_rate out.1 out.2.1 out.2.2.1 out.2.2.2 f_this_turns f_this_targets f_this_roundConstants f_a1)) 0 0 (va_A (kWX4_take cB cI cL cBB cII cSh h_this a_this h_a1 n_a1 this_rate this_place f_this_lanes f_this_moved f_this_columns f_this_turns f_this_targets f_this_roundConstants f_a1) sz) := by
  refine Met.ofW (cc := prog_6_method_7_code) (maxL := 5) (ret := none) (by decide) rfl ?_
  intro p e s m args below meth c s₁ B hml hv
  obtain ⟨rfl, hsz, hP, hK, hN, hD0⟩ := hv
  have hx := B.exec
  have hb := B.bytes
  have hr := B.returns
  have hts0 := atoms_spec (ws := kwX4_take) B.pre
  have hts : ∀ w ∈ kwA, w.before _ s = true := fun w h => hts0 w (List.mem_cons_of_mem _ h)
  have hown : s.vm.findClass kRX4 = some m.cls := findClass_of_methodNamed B.named
  have hlocks := B.notSynchronized
  subst hsz
  have hD := hD0.self (sz := s.heap.size)
  generalize hAe : va_A (kWX4_take cB cI cL cBB cII cSh h_this a_this h_a1 n_a1 this_rate this_place f_this_lanes f_this_moved f_this_columns f_this_turns f_this_targets f_this_roundConstants f_a1) s.heap.size = A at hD ⊢
  have hA : ∀ q : Nat, s.heap.size ≤ q → A q := fun q h => by rw [← hAe]; exact Or.inr h
  have hS : va_S A s.heap s.heap [] := va_S.rf
  have C0 : CallFix p m c prog_6_method_7_code 5 s _ kwA kRX4 := ⟨hx, hb, hml, hown, hts⟩
  have hl := lv_entry ([.ref h_this, .ref h_a1, .int p2, .int p3]) (n := 5) (Nat.le_of_ble_eq_true rfl)
  rw [lg_entry_eq]
  generalize (lg_sl ([.ref h_this, .ref h_a1, .int p2, .int p3]) ++ List.replicate (5 - (lg_sl ([.ref h_this, .ref h_a1, .int p2, .int p3])).length) Slot.unset).toArray = ls at hl ⊢
  have hl : lv_has ls 5 [(0, .ref h_this), (1, .ref h_a1), (2, .int p2), (3, .int p3)] := hl
  unfold kFX4_take at h
  refine lv_iconst (v := 0) hx hb kdX4_take_0 (by decide) ?_
  refine lv_istore (lv' := [(4, .int (0 : Int32)), (0, .ref h_this), (1, .ref h_a1), (2, .int p2), (3, .int p3)]) hx hb kdX4_take_1 hl (by decide) rfl (fun ls hl => ?_)
  obtain ⟨r_18, hr_18, h⟩ := kb_o_s h
  refine klX4_take_3 C0 hlocks hK hN hA (by decide) (by decide) h_this h_a1 a_this p2 p3 n_a1 this_rate f_this_turns f_this_targets f_this_roundConstants f_a1 100000 (0 : Int32) this_place f_this_columns f_this_lanes f_this_moved r_18 hr_18 _ _ _ hP hD hS (lv_sub hl [1, 2, 3, 4, 0] rfl) (fun x4p3_13 this_placep3_14 f_this_columnsp3_15 f_this_lanesp3_16 f_this_movedp3_17 er_18 H locs ls hP hD hS hl => ?_)
  subst er_18
  try dsimp only at h
  obtain rfl := Option.some.inj h
  exact W.vret hx hb hr (fun t ht hW => ⟨⟨rfl, by rw [ht]; exact hP, va_K.moved hW.alike hK, hD⟩, hS.F ht⟩) hS.2.2 kdX4_take_59
abbrev kWX4_finish (cB cI cL cBB cII cSh : ClassId) (h_this : Nat) (a_this : Nat → Nat) (this_rate : Int32) (this_place : Int32) (f_this_lanes : Nat → Int64) (f_this_moved : Nat → Int64) (f_this_columns : Nat → Int64) (f_this_turns : Nat → Int32) (f_this_targets : Nat → Int32) (f_this_roundConstants : Nat → Int64) : va_W := [(h_this, koX4 a_this this_rate this_place), ((a_this 0), .inl (cL, 25, .inr (.inl f_this_lanes))), ((a_this 1), .inl (cL, 25, .inr (.inl f_this_moved))), ((a_this 2), .inl (cL, 5, .inr (.inl f_this_columns))), ((a_this 3), .inl (cI, 25, .inl f_this_turns)), ((a_this 4), .inl (cI, 25, .inl f_this_targets)), ((a_this 5), .inl (cL, 24, .inr (.inl f_this_roundConstants)))]
def krX4_finish : Room := { frames := 1, cells := 0, slots := 0, locals := 32 }
set_option maxHeartbeats 4000000 in
set_option maxRecDepth 100000 in
theorem kcX4_finish (l : Launch) (D : va_G) (cB cI cL cBB cII cSh : ClassId) (h_this : Nat) (a_this : Nat → Nat) (sz : Nat) (p1 : Int32) (this_rate : Int32) (this_place : Int32) (f_this_lanes : Nat → Int64) (f_this_moved : Nat → Int64) (f_this_columns : Nat → Int64) (f_this_turns : Nat → Int32) (f_this_targets : Nat → Int32) (f_this_roundConstants : Nat → Int64) (out : Int32 × (Nat → Int64) × (Nat → Int64) × (Nat → Int64)) (h : kFX4_finish p1 this_rate this_place f_this_lanes f_this_moved f_this_columns f_this_turns f_this_targets f_this_roundConstants = some out) : Met l kyX4_finish kwX4_finish krX4_finish (kb_P D kCl (kb_T cB cI cL cBB cII cSh) [.ref h_this, .int p1] (kWX4_finish cB cI cL cBB cII cSh h_this a_this this_rate this_place f_this_lanes f_this_moved f_this_columns f_this_turns f_this_targets f_this_roundConstants) sz) (kb_Q D kCl (kb_T cB cI cL cBB cII cSh) (va_A (kWX4_finish cB cI cL cBB cII cSh h_this a_this this_rate this_place f_this_lanes f_this_moved f_this_columns f_this_turns f_this_targets f_this_roundConstants) sz) none (kWX4_finish cB cI cL cBB cII cSh h_this a_this this_rate out.1 out.2.1 out.2.2.1 out.2.2.2 f_this_turns f_this_targets f_this_roundConstants)) 0 0 (va_A (kWX4_finish cB cI cL cBB cII cSh h_this a_this this_rate this_place f_this_lanes f_this_moved f_this_columns f_this_turns f_this_targets f_this_roundConstants) sz) := by
  refine Met.ofW (cc := prog_6_method_8_code) (maxL := 2) (ret := none) (by decide) rfl ?_
  intro p e s m args below meth c s₁ B hml hv
  obtain ⟨rfl, hsz, hP, hK, hN, hD0⟩ := hv
  have hx := B.exec
  have hb := B.bytes
  have hr := B.returns
  have hts0 := atoms_spec (ws := kwX4_finish) B.pre
  have hts : ∀ w ∈ kwA, w.before _ s = true := fun w h => hts0 w (List.mem_cons_of_mem _ h)
  have hown : s.vm.findClass kRX4 = some m.cls := findClass_of_methodNamed B.named
  have hlocks := B.notSynchronized
  subst hsz
  have hD := hD0.self (sz := s.heap.size)
  generalize hAe : va_A (kWX4_finish cB cI cL cBB cII cSh h_this a_this this_rate this_place f_this_lanes f_this_moved f_this_columns f_this_turns f_this_targets f_this_roundConstants) s.heap.size = A at hD ⊢
  have hA : ∀ q : Nat, s.heap.size ≤ q → A q := fun q h => by rw [← hAe]; exact Or.inr h
  have hS : va_S A s.heap s.heap [] := va_S.rf
  have C0 : CallFix p m c prog_6_method_8_code 2 s _ kwA kRX4 := ⟨hx, hb, hml, hown, hts⟩
  have hl := lv_entry ([.ref h_this, .int p1]) (n := 2) (Nat.le_of_ble_eq_true rfl)
  rw [lg_entry_eq]
  generalize (lg_sl ([.ref h_this, .int p1]) ++ List.replicate (2 - (lg_sl ([.ref h_this, .int p1])).length) Slot.unset).toArray = ls at hl ⊢
  have hl : lv_has ls 2 [(0, .ref h_this), (1, .int p1)] := hl
  unfold kFX4_finish at h
  refine lv_aload_n hx hb kdX4_finish_0 rfl (lv_at hl 0 rfl) ?_
  refine lv_aload_n hx hb kdX4_finish_1 rfl (lv_at hl 0 rfl) ?_
  refine va_get (ci := 4) (v := .int this_place) (C := kRX4) (T := kTX4) (N := 8) hx hb hts kinX4 hown hK hP 0 rfl rfl 7 (by decide) (hts _ km_85) (fun _ h9 => h9) rfl kdX4_finish_2 ?_
  refine lv_iload_n hx hb kdX4_finish_5 rfl (lv_at hl 1 rfl) ?_
  obtain ⟨u_2, hu_2, h⟩ := kb_o_s h
  obtain ⟨f_1, rfl⟩ : ∃ z, z = u_2 := ⟨_, rfl⟩
  try dsimp only at h
  have hC := (show [0, 1].map (fun i => (kWX4_finish cB cI cL cBB cII cSh h_this a_this this_rate this_place f_this_lanes f_this_moved f_this_columns f_this_turns f_this_targets f_this_roundConstants)[i]?) = List.map some (kWX4_mixIn cB cI cL cBB cII cSh h_this a_this this_rate this_place f_this_lanes) from rfl)
  have hPc := kb_Psub hP [0, 1] hC
  have hDc := kb_Dsub hD [0, 1] hC (by simp [kb_nd])
  refine kb_call0 (va_runV (As := [.int this_place, .int p1]) (rest := []) C0 (kcX4_mixIn l D cB cI cL cBB cII cSh h_this a_this _ this_place p1 this_rate this_place f_this_lanes f_1 hu_2) (cwV 2 hts (kb_gV km_391 km_393 kp_19 km_4 km_394) rfl rfl rfl (by decide +kernel) ⟨Nat.le_of_ble_eq_true rfl, Nat.le_of_ble_eq_true rfl⟩) ⟨kb_P_bl, va_recv hK hP (ci := 4) (q0 := 0) rfl rfl, (fun U hU hW => ⟨rfl, by rw [hU], by rw [hU]; exact hPc, va_K.moved hW.alike hK, kb_N_to hW hN, hDc.weaken (fun _ _ _ _ => trivial)⟩)⟩ rfl rfl hl.1 rfl (lv_room (Nat.le_of_ble_eq_true rfl)) kdX4_finish_6 ⟨Nat.le_of_ble_eq_true rfl, Nat.le_of_ble_eq_true rfl⟩) hP hD hS hA [0, 1] hC rfl (fun H locs hP hD hS => ?_)
  have hP : va_P D kCl (kWX4_finish cB cI cL cBB cII cSh h_this a_this this_rate this_place f_1 f_this_moved f_this_columns f_this_turns f_this_targets f_this_roundConstants) H := hP
  have hD : va_D A (kWX4_finish cB cI cL cBB cII cSh h_this a_this this_rate this_place f_1 f_this_moved f_this_columns f_this_turns f_this_targets f_this_roundConstants) := hD
  refine lv_aload_n hx hb kdX4_finish_9 rfl (lv_at hl 0 rfl) ?_
  refine lv_aload_n hx hb kdX4_finish_10 rfl (lv_at hl 0 rfl) ?_
  refine va_get (ci := 4) (v := .int this_rate) (C := kRX4) (T := kTX4) (N := 8) hx hb hts kinX4 hown hK hP 0 rfl rfl 6 (by decide) (hts _ km_84) (fun _ h9 => h9) rfl kdX4_finish_11 ?_
  refine lv_iconst (v := 1) hx hb kdX4_finish_14 (by decide) ?_
  refine lv_isub hx hb kdX4_finish_15 ?_
  refine lv_sipush (v := 128) hx hb kdX4_finish_16 (by decide) ?_
  obtain ⟨u_4, hu_4, h⟩ := kb_o_s h
  obtain ⟨f_3, rfl⟩ : ∃ z, z = u_4 := ⟨_, rfl⟩
  try dsimp only at h
  have hC := (show [0, 1].map (fun i => (kWX4_finish cB cI cL cBB cII cSh h_this a_this this_rate this_place f_1 f_this_moved f_this_columns f_this_turns f_this_targets f_this_roundConstants)[i]?) = List.map some (kWX4_mixIn cB cI cL cBB cII cSh h_this a_this this_rate this_place f_1) from rfl)
  have hPc := kb_Psub hP [0, 1] hC
  have hDc := kb_Dsub hD [0, 1] hC (by simp [kb_nd])
  refine kb_call0 (va_runV (As := [.int (this_rate - (1 : Int32)), .int (128 : Int32)]) (rest := []) C0 (kcX4_mixIn l D cB cI cL cBB cII cSh h_this a_this _ (this_rate - (1 : Int32)) (128 : Int32) this_rate this_place f_1 f_3 hu_4) (cwV 2 hts (kb_gV km_391 km_393 kp_19 km_4 km_394) rfl rfl rfl (by decide +kernel) ⟨Nat.le_of_ble_eq_true rfl, Nat.le_of_ble_eq_true rfl⟩) ⟨kb_P_bl, va_recv hK hP (ci := 4) (q0 := 0) rfl rfl, (fun U hU hW => ⟨rfl, by rw [hU], by rw [hU]; exact hPc, va_K.moved hW.alike hK, kb_N_to hW hN, hDc.weaken (fun _ _ _ _ => trivial)⟩)⟩ rfl rfl hl.1 rfl (lv_room (Nat.le_of_ble_eq_true rfl)) kdX4_finish_19 ⟨Nat.le_of_ble_eq_true rfl, Nat.le_of_ble_eq_true rfl⟩) hP hD hS hA [0, 1] hC rfl (fun H locs hP hD hS => ?_)
  have hP : va_P D kCl (kWX4_finish cB cI cL cBB cII cSh h_this a_this this_rate this_place f_3 f_this_moved f_this_columns f_this_turns f_this_targets f_this_roundConstants) H := hP
  have hD : va_D A (kWX4_finish cB cI cL cBB cII cSh h_this a_this this_rate this_place f_3 f_this_moved f_this_columns f_this_turns f_this_targets f_this_roundConstants) := hD
  refine lv_aload_n hx hb kdX4_finish_22 rfl (lv_at hl 0 rfl) ?_
  obtain ⟨u_8, hu_8, h⟩ := kb_o_s h
  obtain ⟨f_5, f_6, f_7⟩ := u_8
  try dsimp only at h
  have hC := (show [0, 1, 2, 3, 4, 5, 6].map (fun i => (kWX4_finish cB cI cL cBB cII cSh h_this a_this this_rate this_place f_3 f_this_moved f_this_columns f_this_turns f_this_targets f_this_roundConstants)[i]?) = List.map some (kWX4_permute cB cI cL cBB cII cSh h_this a_this this_rate this_place f_3 f_this_moved f_this_columns f_this_turns f_this_targets f_this_roundConstants) from rfl)
  have hPc := kb_Psub hP [0, 1, 2, 3, 4, 5, 6] hC
  have hDc := kb_Dsub hD [0, 1, 2, 3, 4, 5, 6] hC (by simp [kb_nd])
  refine kb_call0 (va_runV (As := []) (rest := []) C0 (kcX4_permute l D cB cI cL cBB cII cSh h_this a_this _ this_rate this_place f_3 f_this_moved f_this_columns f_this_turns f_this_targets f_this_roundConstants (f_5, f_6, f_7) hu_8) (cwV 0 hts (kb_gV km_396 km_398 kp_20 km_4 km_399) rfl rfl rfl (by decide +kernel) ⟨Nat.le_of_ble_eq_true rfl, Nat.le_of_ble_eq_true rfl⟩) ⟨kb_P_bl, va_recv hK hP (ci := 4) (q0 := 0) rfl rfl, (fun U hU hW => ⟨rfl, by rw [hU], by rw [hU]; exact hPc, va_K.moved hW.alike hK, kb_N_to hW hN, hDc.weaken (fun _ _ _ _ => trivial)⟩)⟩ rfl rfl hl.1 rfl (lv_room (Nat.le_of_ble_eq_true rfl)) kdX4_finish_23 ⟨Nat.le_of_ble_eq_true rfl, Nat.le_of_ble_eq_true rfl⟩) hP hD hS hA [0, 1, 2, 3, 4, 5, 6] hC rfl (fun H locs hP hD hS => ?_)
  have hP : va_P D kCl (kWX4_finish cB cI cL cBB cII cSh h_this a_this this_rate this_place f_5 f_6 f_7 f_this_turns f_this_targets f_this_roundConstants) H := hP
  have hD : va_D A (kWX4_finish cB cI cL cBB cII cSh h_this a_this this_rate this_place f_5 f_6 f_7 f_this_turns f_this_targets f_this_roundConstants) := hD
  refine lv_aload_n hx hb kdX4_finish_26 rfl (lv_at hl 0 rfl) ?_
  refine lv_iconst (v := 0) hx hb kdX4_finish_27 (by decide) ?_
  refine va_put (ci := 4) (v := .int (0 : Int32)) (C := kRX4) (T := kTX4) (N := 8) hx hb hts kinX4 ktyX4 ktyX4_ok knX4 hown hK hP hD hS 0 rfl rfl 7 (by decide) (hts _ km_85) (fun _ h9 => h9) rfl (ktyX4_ok 7 (by decide)) rfl rfl (Nat.le_of_ble_eq_true rfl) kdX4_finish_28 (fun H locs hP hD hS => ?_)
  have hP : va_P D kCl (kWX4_finish cB cI cL cBB cII cSh h_this a_this this_rate (0 : Int32) f_5 f_6 f_7 f_this_turns f_this_targets f_this_roundConstants) H := hP
  have hD : va_D A (kWX4_finish cB cI cL cBB cII cSh h_this a_this this_rate (0 : Int32) f_5 f_6 f_7 f_this_turns f_this_targets f_this_roundConstants) := hD
  obtain rfl := Option.some.inj h
  exact W.vret hx hb hr (fun t ht hW => ⟨⟨rfl, by rw [ht]; exact hP, va_K.moved hW.alike hK, hD⟩, hS.F ht⟩) hS.2.2 kdX4_finish_31
abbrev kWX4_give (cB cI cL cBB cII cSh : ClassId) (h_this : Nat) (a_this : Nat → Nat) (h_a1 : Nat) (n_a1 : Nat) (this_rate : Int32) (this_place : Int32) (f_this_lanes : Nat → Int64) (f_this_moved : Nat → Int64) (f_this_columns : Nat → Int64) (f_this_turns : Nat → Int32) (f_this_targets : Nat → Int32) (f_this_roundConstants : Nat → Int64) (f_a1 : Nat → Int32) : va_W := [(h_this, koX4 a_this this_rate this_place), ((a_this 0), .inl (cL, 25, .inr (.inl f_this_lanes))), ((a_this 1), .inl (cL, 25, .inr (.inl f_this_moved))), ((a_this 2), .inl (cL, 5, .inr (.inl f_this_columns))), ((a_this 3), .inl (cI, 25, .inl f_this_turns)), ((a_this 4), .inl (cI, 25, .inl f_this_targets)), ((a_this 5), .inl (cL, 24, .inr (.inl f_this_roundConstants))), (h_a1, .inl (cB, n_a1, .inl f_a1))]
def krX4_give : Room := { frames := 1, cells := 0, slots := 0, locals := 32 }
set_option maxHeartbeats 4000000 in
set_option maxRecDepth 100000 in
theorem klX4_give_3 {p : Program} {l : Launch} {e : Env} {s : State} {m : MethodId} {args : Array Value} {below : List Frame} {meth : Method} {c : Code} {cells slots : Nat} {Q : State → Prop} {D : va_G} {cB cI cL cBB cII cSh : ClassId} {A : Nat → Prop} (C0 : CallFix p m c prog_6_method_9_code 5 s args kwA kRX4) (hlocks : meth.locks = false) (hK : va_K D kCl (kb_T cB cI cL cBB cII cSh) s) (hN : kb_N s) (hA : ∀ q, s.heap.size ≤ q → A q) (hcR : cells ≤ krX4_give.cells) (hsR : slots ≤ krX4_give.slots) (h_this h_a1 : Nat) (a_this : Nat → Nat) (p2 : Int32) (p3 : Int32) (n_a1 : Nat) (this_rate : Int32) (f_this_turns : Nat → Int32) (f_this_targets : Nat → Int32) (f_this_roundConstants : Nat → Int64) :
    ∀ (fuel : Nat) (x4p3 : Int32) (f_a1p3 : Nat → Int32) (this_placep3 : Int32) (f_this_columnsp3 : Nat → Int64) (f_this_lanesp3 : Nat → Int64) (f_this_movedp3 : Nat → Int64) (r : Int32 × (Nat → Int32) × Int32 × (Nat → Int64) × (Nat → Int64) × (Nat → Int64)), kb_w (fun u : Int32 × (Nat → Int32) × Int32 × (Nat → Int64) × (Nat → Int64) × (Nat → Int64) => kSX4_give_3 p2 p3 n_a1 this_rate f_this_turns f_this_targets f_this_roundConstants u.1 u.2.1 u.2.2.1 u.2.2.2.1 u.2.2.2.2.1 u.2.2.2.2.2) fuel (x4p3, f_a1p3, this_placep3, f_this_columnsp3, f_this_lanesp3, f_this_movedp3) = some r → ∀ (H : Heap) (locs : List Loc) (ls : Array Slot), va_P D kCl (kWX4_give cB cI cL cBB cII cSh h_this a_this h_a1 n_a1 this_rate this_placep3 f_this_lanesp3 f_this_movedp3 f_this_columnsp3 f_this_turns f_this_targets f_this_roundConstants f_a1p3) H → va_D A (kWX4_give cB cI cL cBB cII cSh h_this a_this h_a1 n_a1 this_rate this_placep3 f_this_lanesp3 f_this_movedp3 f_this_columnsp3 f_this_turns f_this_targets f_this_roundConstants f_a1p3) → va_S A s.heap H locs → lv_has ls 5 [(0, .ref h_this), (1, .ref h_a1), (2, .int p2), (3, .int p3), (4, .int x4p3)] → (∀ (x4p3' : Int32) (f_a1p3' : Nat → Int32) (this_placep3' : Int32) (f_this_columnsp3' : Nat → Int64) (f_this_lanesp3' : Nat → Int64) (f_this_movedp3' : Nat → Int64), r = (x4p3', f_a1p3', this_placep3', f_this_columnsp3', f_this_lanesp3', f_this_movedp3') → ∀ (H : Heap) (locs : List Loc) (ls : Array Slot), va_P D kCl (kWX4_give cB cI cL cBB cII cSh h_this a_this h_a1 n_a1 this_rate this_placep3' f_this_lanesp3' f_this_movedp3' f_this_columnsp3' f_this_turns f_this_targets f_this_roundConstants f_a1p3') H → va_D A (kWX4_give cB cI cL cBB cII cSh h_this a_this h_a1 n_a1 this_rate this_placep3' f_this_lanesp3' f_this_movedp3' f_this_columnsp3' f_this_turns f_this_targets f_this_roundConstants f_a1p3') → va_S A s.heap H locs → lv_has ls 5 [(0, .ref h_this), (1, .ref h_a1), (2, .int p2), (3, .int p3), (4, .int x4p3')] → W p l e krX4_give s m args below meth c H locs cells slots Q (F0 m 75 ls [])) → W p l e krX4_give s m args below meth c H locs cells slots Q (F0 m 3 ls []) := by
  obtain ⟨hx, hb, hml, hown, hts⟩ := id C0
  intro fuel
  induction fuel with
  | zero =>
    intro x4p3 f_a1p3 this_placep3 f_this_columnsp3 f_this_lanesp3 f_this_movedp3 r h
    exact absurd h (kb_w_z _ _ _)
  | succ fuel ih =>
    intro x4p3 f_a1p3 this_placep3 f_this_columnsp3 f_this_lanesp3 f_this_movedp3 r h H locs ls hP hD hS hl hk0
    obtain ⟨o, h, ho⟩ := kb_w_s h
    have h : kSX4_give_3 p2 p3 n_a1 this_rate f_this_turns f_this_targets f_this_roundConstants x4p3 f_a1p3 this_placep3 f_this_columnsp3 f_this_lanesp3 f_this_movedp3 = some o := h
    unfold kSX4_give_3 at h
    refine lv_iload hx hb kdX4_give_3 (lv_at hl 4 rfl) ?_
    refine lv_iload_n hx hb kdX4_give_5 rfl (lv_at hl 3 rfl) ?_
    refine lv_icmp_ge (tgt := 75) hx hb kdX4_give_6 (by decide) (fun c_1 => ?_) (fun c_1 => ?_)
    · have h := kb_b_t c_1 h
      obtain rfl := Option.some.inj h
      exact hk0 x4p3 f_a1p3 this_placep3 f_this_columnsp3 f_this_lanesp3 f_this_movedp3 ho.symm _ _ _ hP hD hS (lv_sub hl [0, 1, 2, 3, 4] rfl)
    · have h := kb_b_f c_1 h
      refine lv_aload_n hx hb kdX4_give_9 rfl (lv_at hl 0 rfl) ?_
      refine va_get (ci := 4) (v := .int this_placep3) (C := kRX4) (T := kTX4) (N := 8) hx hb hts kinX4 hown hK hP 0 rfl rfl 7 (by decide) (hts _ km_85) (fun _ h9 => h9) rfl kdX4_give_10 ?_
      refine lv_aload_n hx hb kdX4_give_13 rfl (lv_at hl 0 rfl) ?_
      refine va_get (ci := 4) (v := .int this_rate) (C := kRX4) (T := kTX4) (N := 8) hx hb hts kinX4 hown hK hP 0 rfl rfl 6 (by decide) (hts _ km_84) (fun _ h9 => h9) rfl kdX4_give_14 ?_
      refine lv_icmp_ne (tgt := 29) hx hb kdX4_give_17 (by decide) (fun c_2 => ?_) (fun c_2 => ?_)
      · have h := kb_b_f c_2 h
        refine lv_aload_n hx hb kdX4_give_29 rfl (lv_at hl 1 rfl) ?_
        refine lv_iload_n hx hb kdX4_give_30 rfl (lv_at hl 2 rfl) ?_
        refine lv_iload hx hb kdX4_give_31 (lv_at hl 4 rfl) ?_
        refine lv_iadd hx hb kdX4_give_33 ?_
        refine lv_aload_n hx hb kdX4_give_34 rfl (lv_at hl 0 rfl) ?_
        refine va_get (ci := 4) (v := .ref (a_this 0)) (C := kRX4) (T := kTX4) (N := 8) hx hb hts kinX4 hown hK hP 0 rfl rfl 0 (by decide) (hts _ km_78) (fun _ h9 => h9) rfl kdX4_give_35 ?_
        refine lv_aload_n hx hb kdX4_give_38 rfl (lv_at hl 0 rfl) ?_
        refine va_get (ci := 4) (v := .int this_placep3) (C := kRX4) (T := kTX4) (N := 8) hx hb hts kinX4 hown hK hP 0 rfl rfl 7 (by decide) (hts _ km_85) (fun _ h9 => h9) rfl kdX4_give_39 ?_
        refine lv_iconst (v := 3) hx hb kdX4_give_42 (by decide) ?_
        refine lv_ishr hx hb kdX4_give_43 ?_
        obtain ⟨g_3, h⟩ := kb_g_s h
        refine va_lald hx hb hK hP 1 2 rfl rfl (kb_in_v g_3) kdX4_give_44 ?_
        refine lv_bipush (v := 8) hx hb kdX4_give_45 (by decide) ?_
        refine lv_aload_n hx hb kdX4_give_47 rfl (lv_at hl 0 rfl) ?_
        refine va_get (ci := 4) (v := .int this_placep3) (C := kRX4) (T := kTX4) (N := 8) hx hb hts kinX4 hown hK hP 0 rfl rfl 7 (by decide) (hts _ km_85) (fun _ h9 => h9) rfl kdX4_give_48 ?_
        refine lv_bipush (v := 7) hx hb kdX4_give_51 (by decide) ?_
        refine lv_iand hx hb kdX4_give_53 ?_
        refine lv_imul hx hb kdX4_give_54 ?_
        refine lv_lushr (v := (((f_this_lanesp3 (this_placep3 >>> ((3 : Int32) &&& 31)).toNatClampNeg).toUInt64 >>> (((8 : Int32) * (this_placep3 &&& (7 : Int32))).toInt64.toUInt64 &&& Int64.toUInt64 63)).toInt64)) hx hb kdX4_give_55 rfl ?_
        refine lv_l2i (v := ((((f_this_lanesp3 (this_placep3 >>> ((3 : Int32) &&& 31)).toNatClampNeg).toUInt64 >>> (((8 : Int32) * (this_placep3 &&& (7 : Int32))).toInt64.toUInt64 &&& Int64.toUInt64 63)).toInt64).toInt32)) hx hb kdX4_give_56 rfl ?_
        refine lv_i2b (v := (((((f_this_lanesp3 (this_placep3 >>> ((3 : Int32) &&& 31)).toNatClampNeg).toUInt64 >>> (((8 : Int32) * (this_placep3 &&& (7 : Int32))).toInt64.toUInt64 &&& Int64.toUInt64 63)).toInt64).toInt32).toInt8.toInt32)) hx hb kdX4_give_57 rfl ?_
        obtain ⟨g_4, h⟩ := kb_g_s h
        refine va_bast hx hb hK hP hD hS 7 0 rfl rfl (kb_in_v g_4) kdX4_give_58 (fun H locs hP hD hS => ?_)
        obtain ⟨f_5, ef_5⟩ : ∃ y, y = upd f_a1p3 (p2 + x4p3).toNatClampNeg (vp_nar .byte (((((f_this_lanesp3 (this_placep3 >>> ((3 : Int32) &&& 31)).toNatClampNeg).toUInt64 >>> (((8 : Int32) * (this_placep3 &&& (7 : Int32))).toInt64.toUInt64 &&& Int64.toUInt64 63)).toInt64).toInt32).toInt8.toInt32)) := ⟨_, rfl⟩
        have h := kb_n_s ef_5 h
        have hP : va_P D kCl (kWX4_give cB cI cL cBB cII cSh h_this a_this h_a1 n_a1 this_rate this_placep3 f_this_lanesp3 f_this_movedp3 f_this_columnsp3 f_this_turns f_this_targets f_this_roundConstants f_5) H := by rw [ef_5]; exact hP
        have hD : va_D A (kWX4_give cB cI cL cBB cII cSh h_this a_this h_a1 n_a1 this_rate this_placep3 f_this_lanesp3 f_this_movedp3 f_this_columnsp3 f_this_turns f_this_targets f_this_roundConstants f_5) := by rw [ef_5]; exact hD
        refine lv_aload_n hx hb kdX4_give_59 rfl (lv_at hl 0 rfl) ?_
        refine lv_dup hx hb kdX4_give_60 rfl ?_
        refine va_get (ci := 4) (v := .int this_placep3) (C := kRX4) (T := kTX4) (N := 8) hx hb hts kinX4 hown hK hP 0 rfl rfl 7 (by decide) (hts _ km_85) (fun _ h9 => h9) rfl kdX4_give_61 ?_
        refine lv_iconst (v := 1) hx hb kdX4_give_64 (by decide) ?_
        refine lv_iadd hx hb kdX4_give_65 ?_
        refine lv_topi (fun w_6 ew_6 => ?_)
        have h := kb_n_s ew_6 h
        refine va_put (ci := 4) (v := .int w_6) (C := kRX4) (T := kTX4) (N := 8) hx hb hts kinX4 ktyX4 ktyX4_ok knX4 hown hK hP hD hS 0 rfl rfl 7 (by decide) (hts _ km_85) (fun _ h9 => h9) rfl (ktyX4_ok 7 (by decide)) rfl rfl (Nat.le_of_ble_eq_true rfl) kdX4_give_66 (fun H locs hP hD hS => ?_)
        have hP : va_P D kCl (kWX4_give cB cI cL cBB cII cSh h_this a_this h_a1 n_a1 this_rate w_6 f_this_lanesp3 f_this_movedp3 f_this_columnsp3 f_this_turns f_this_targets f_this_roundConstants f_5) H := hP
        have hD : va_D A (kWX4_give cB cI cL cBB cII cSh h_this a_this h_a1 n_a1 this_rate w_6 f_this_lanesp3 f_this_movedp3 f_this_columnsp3 f_this_turns f_this_targets f_this_roundConstants f_5) := hD
        obtain ⟨x4_7, ex4_7⟩ : ∃ y : Int32, y = x4p3 + Int32.ofInt 1 := ⟨_, rfl⟩
        have h := kb_n_s ex4_7 h
        refine lv_iinc (v := x4_7) (lv' := [(4, .int x4_7), (0, .ref h_this), (1, .ref h_a1), (2, .int p2), (3, .int p3)]) hx hb kdX4_give_69 hl (k := 4) rfl ex4_7.symm (by decide) rfl (fun ls hl => ?_)
        refine lv_goto (tgt := 3) hx hb kdX4_give_72 (by decide) ?_
        obtain rfl := Option.some.inj h
        exact ih x4_7 f_5 w_6 f_this_columnsp3 f_this_lanesp3 f_this_movedp3 r ho _ _ _ hP hD hS (lv_sub hl [1, 2, 3, 4, 0] rfl) hk0
      · have h := kb_b_t c_2 h
        refine lv_aload_n hx hb kdX4_give_20 rfl (lv_at hl 0 rfl) ?_
        obtain ⟨u_11, hu_11, h⟩ := kb_o_s h
        obtain ⟨f_8, f_9, f_10⟩ := u_11
        try dsimp only at h
        have hC := (show [0, 1, 2, 3, 4, 5, 6].map (fun i => (kWX4_give cB cI cL cBB cII cSh h_this a_this h_a1 n_a1 this_rate this_placep3 f_this_lanesp3 f_this_movedp3 f_this_columnsp3 f_this_turns f_this_targets f_this_roundConstants f_a1p3)[i]?) = List.map some (kWX4_permute cB cI cL cBB cII cSh h_this a_this this_rate this_placep3 f_this_lanesp3 f_this_movedp3 f_this_columnsp3 f_this_turns f_this_targets f_this_roundConstants) from rfl)
        have hPc := kb_Psub hP [0, 1, 2, 3, 4, 5, 6] hC
        have hDc := kb_Dsub hD [0, 1, 2, 3, 4, 5, 6] hC (by simp [kb_nd])
        refine kb_call0 (va_runV (As := []) (rest := []) C0 (kcX4_permute l D cB cI cL cBB cII cSh h_this a_this _ this_rate this_placep3 f_this_lanesp3 f_this_movedp3 f_this_columnsp3 f_this_turns f_this_targets f_this_roundConstants (f_8, f_9, f_10) hu_11) (cwV 0 hts (kb_gV km_396 km_398 kp_20 km_4 km_399) rfl rfl rfl (by decide +kernel) ⟨Nat.le_of_ble_eq_true rfl, Nat.le_of_ble_eq_true rfl⟩) ⟨kb_P_bl, va_recv hK hP (ci := 4) (q0 := 0) rfl rfl, (fun U hU hW => ⟨rfl, by rw [hU], by rw [hU]; exact hPc, va_K.moved hW.alike hK, kb_N_to hW hN, hDc.weaken (fun _ _ _ _ => trivial)⟩)⟩ rfl rfl hl.1 rfl (lv_room (Nat.le_of_ble_eq_true rfl)) kdX4_give_21 ⟨hcR, hsR⟩) hP hD hS hA [0, 1, 2, 3, 4, 5, 6] hC rfl (fun H locs hP hD hS => ?_)
        have hP : va_P D kCl (kWX4_give cB cI cL cBB cII cSh h_this a_this h_a1 n_a1 this_rate this_placep3 f_8 f_9 f_10 f_this_turns f_this_targets f_this_roundConstants f_a1p3) H := hP
        have hD : va_D A (kWX4_give cB cI cL cBB cII cSh h_this a_this h_a1 n_a1 this_rate this_placep3 f_8 f_9 f_10 f_this_turns f_this_targets f_this_roundConstants f_a1p3) := hD
        refine lv_aload_n hx hb kdX4_give_24 rfl (lv_at hl 0 rfl) ?_
        refine lv_iconst (v := 0) hx hb kdX4_give_25 (by decide) ?_
        refine va_put (ci := 4) (v := .int (0 : Int32)) (C := kRX4) (T := kTX4) (N := 8) hx hb hts kinX4 ktyX4 ktyX4_ok knX4 hown hK hP hD hS 0 rfl rfl 7 (by decide) (hts _ km_85) (fun _ h9 => h9) rfl (ktyX4_ok 7 (by decide)) rfl rfl (Nat.le_of_ble_eq_true rfl) kdX4_give_26 (fun H locs hP hD hS => ?_)
        have hP : va_P D kCl (kWX4_give cB cI cL cBB cII cSh h_this a_this h_a1 n_a1 this_rate (0 : Int32) f_8 f_9 f_10 f_this_turns f_this_targets f_this_roundConstants f_a1p3) H := hP
        have hD : va_D A (kWX4_give cB cI cL cBB cII cSh h_this a_this h_a1 n_a1 this_rate (0 : Int32) f_8 f_9 f_10 f_this_turns f_this_targets f_this_roundConstants f_a1p3) := hD
        refine lv_aload_n hx hb kdX4_give_29 rfl (lv_at hl 1 rfl) ?_
        refine lv_iload_n hx hb kdX4_give_30 rfl (lv_at hl 2 rfl) ?_
        refine lv_iload hx hb kdX4_give_31 (lv_at hl 4 rfl) ?_
        refine lv_iadd hx hb kdX4_give_33 ?_
        refine lv_aload_n hx hb kdX4_give_34 rfl (lv_at hl 0 rfl) ?_
        refine va_get (ci := 4) (v := .ref (a_this 0)) (C := kRX4) (T := kTX4) (N := 8) hx hb hts kinX4 hown hK hP 0 rfl rfl 0 (by decide) (hts _ km_78) (fun _ h9 => h9) rfl kdX4_give_35 ?_
        refine lv_aload_n hx hb kdX4_give_38 rfl (lv_at hl 0 rfl) ?_
        refine va_get (ci := 4) (v := .int (0 : Int32)) (C := kRX4) (T := kTX4) (N := 8) hx hb hts kinX4 hown hK hP 0 rfl rfl 7 (by decide) (hts _ km_85) (fun _ h9 => h9) rfl kdX4_give_39 ?_
        refine lv_iconst (v := 3) hx hb kdX4_give_42 (by decide) ?_
        refine lv_ishr hx hb kdX4_give_43 ?_
        obtain ⟨g_12, h⟩ := kb_g_s h
        refine va_lald hx hb hK hP 1 2 rfl rfl (kb_in_v g_12) kdX4_give_44 ?_
        refine lv_bipush (v := 8) hx hb kdX4_give_45 (by decide) ?_
        refine lv_aload_n hx hb kdX4_give_47 rfl (lv_at hl 0 rfl) ?_
        refine va_get (ci := 4) (v := .int (0 : Int32)) (C := kRX4) (T := kTX4) (N := 8) hx hb hts kinX4 hown hK hP 0 rfl rfl 7 (by decide) (hts _ km_85) (fun _ h9 => h9) rfl kdX4_give_48 ?_
        refine lv_bipush (v := 7) hx hb kdX4_give_51 (by decide) ?_
        refine lv_iand hx hb kdX4_give_53 ?_
        refine lv_imul hx hb kdX4_give_54 ?_
        refine lv_lushr (v := (((f_8 ((0 : Int32) >>> ((3 : Int32) &&& 31)).toNatClampNeg).toUInt64 >>> (((8 : Int32) * ((0 : Int32) &&& (7 : Int32))).toInt64.toUInt64 &&& Int64.toUInt64 63)).toInt64)) hx hb kdX4_give_55 rfl ?_
        refine lv_l2i (v := ((((f_8 ((0 : Int32) >>> ((3 : Int32) &&& 31)).toNatClampNeg).toUInt64 >>> (((8 : Int32) * ((0 : Int32) &&& (7 : Int32))).toInt64.toUInt64 &&& Int64.toUInt64 63)).toInt64).toInt32)) hx hb kdX4_give_56 rfl ?_
        refine lv_i2b (v := (((((f_8 ((0 : Int32) >>> ((3 : Int32) &&& 31)).toNatClampNeg).toUInt64 >>> (((8 : Int32) * ((0 : Int32) &&& (7 : Int32))).toInt64.toUInt64 &&& Int64.toUInt64 63)).toInt64).toInt32).toInt8.toInt32)) hx hb kdX4_give_57 rfl ?_
        obtain ⟨g_13, h⟩ := kb_g_s h
        refine va_bast hx hb hK hP hD hS 7 0 rfl rfl (kb_in_v g_13) kdX4_give_58 (fun H locs hP hD hS => ?_)
        obtain ⟨f_14, ef_14⟩ : ∃ y, y = upd f_a1p3 (p2 + x4p3).toNatClampNeg (vp_nar .byte (((((f_8 ((0 : Int32) >>> ((3 : Int32) &&& 31)).toNatClampNeg).toUInt64 >>> (((8 : Int32) * ((0 : Int32) &&& (7 : Int32))).toInt64.toUInt64 &&& Int64.toUInt64 63)).toInt64).toInt32).toInt8.toInt32)) := ⟨_, rfl⟩
        have h := kb_n_s ef_14 h
        have hP : va_P D kCl (kWX4_give cB cI cL cBB cII cSh h_this a_this h_a1 n_a1 this_rate (0 : Int32) f_8 f_9 f_10 f_this_turns f_this_targets f_this_roundConstants f_14) H := by rw [ef_14]; exact hP
        have hD : va_D A (kWX4_give cB cI cL cBB cII cSh h_this a_this h_a1 n_a1 this_rate (0 : Int32) f_8 f_9 f_10 f_this_turns f_this_targets f_this_roundConstants f_14) := by rw [ef_14]; exact hD
        refine lv_aload_n hx hb kdX4_give_59 rfl (lv_at hl 0 rfl) ?_
        refine lv_dup hx hb kdX4_give_60 rfl ?_
        refine va_get (ci := 4) (v := .int (0 : Int32)) (C := kRX4) (T := kTX4) (N := 8) hx hb hts kinX4 hown hK hP 0 rfl rfl 7 (by decide) (hts _ km_85) (fun _ h9 => h9) rfl kdX4_give_61 ?_
        refine lv_iconst (v := 1) hx hb kdX4_give_64 (by decide) ?_
        refine lv_iadd hx hb kdX4_give_65 ?_
        refine lv_topi (fun w_15 ew_15 => ?_)
        have h := kb_n_s ew_15 h
        refine va_put (ci := 4) (v := .int w_15) (C := kRX4) (T := kTX4) (N := 8) hx hb hts kinX4 ktyX4 ktyX4_ok knX4 hown hK hP hD hS 0 rfl rfl 7 (by decide) (hts _ km_85) (fun _ h9 => h9) rfl (ktyX4_ok 7 (by decide)) rfl rfl (Nat.le_of_ble_eq_true rfl) kdX4_give_66 (fun H locs hP hD hS => ?_)
        have hP : va_P D kCl (kWX4_give cB cI cL cBB cII cSh h_this a_this h_a1 n_a1 this_rate w_15 f_8 f_9 f_10 f_this_turns f_this_targets f_this_roundConstants f_14) H := hP
        have hD : va_D A (kWX4_give cB cI cL cBB cII cSh h_this a_this h_a1 n_a1 this_rate w_15 f_8 f_9 f_10 f_this_turns f_this_targets f_this_roundConstants f_14) := hD
        obtain ⟨x4_16, ex4_16⟩ : ∃ y : Int32, y = x4p3 + Int32.ofInt 1 := ⟨_, rfl⟩
        have h := kb_n_s ex4_16 h
        refine lv_iinc (v := x4_16) (lv' := [(4, .int x4_16), (0, .ref h_this), (1, .ref h_a1), (2, .int p2), (3, .int p3)]) hx hb kdX4_give_69 hl (k := 4) rfl ex4_16.symm (by decide) rfl (fun ls hl => ?_)
        refine lv_goto (tgt := 3) hx hb kdX4_give_72 (by decide) ?_
        obtain rfl := Option.some.inj h
        exact ih x4_16 f_14 w_15 f_10 f_8 f_9 r ho _ _ _ hP hD hS (lv_sub hl [1, 2, 3, 4, 0] rfl) hk0
set_option maxHeartbeats 4000000 in
set_option maxRecDepth 100000 in
theorem kcX4_give (l : Launch) (D : va_G) (cB cI cL cBB cII cSh : ClassId) (h_this h_a1 : Nat) (a_this : Nat → Nat) (sz : Nat) (p2 : Int32) (p3 : Int32) (n_a1 : Nat) (this_rate : Int32) (this_place : Int32) (f_this_lanes : Nat → Int64) (f_this_moved : Nat → Int64) (f_this_columns : Nat → Int64) (f_this_turns : Nat → Int32) (f_this_targets : Nat → Int32) (f_this_roundConstants : Nat → Int64) (f_a1 : Nat → Int32) (out : Int32 × (Nat → Int64) × (Nat → Int64) × (Nat → Int64) × (Nat → Int32)) (h : kFX4_give p2 p3 n_a1 this_rate this_place f_this_lanes f_this_moved f_this_columns f_this_turns f_this_targets f_this_roundConstants f_a1 = some out) : Met l kyX4_give kwX4_give krX4_give (kb_P D kCl (kb_T cB cI cL cBB cII cSh) [.ref h_this, .ref h_a1, .int p2, .int p3] (kWX4_give cB cI cL cBB cII cSh h_this a_this h_a1 n_a1 this_rate this_place f_this_lanes f_this_moved f_this_columns f_this_turns f_this_targets f_this_roundConstants f_a1) sz) (kb_Q D kCl (kb_T cB cI cL cBB cII cSh) (va_A (kWX4_give cB cI cL cBB cII cSh h_this a_this h_a1 n_a1 this_rate this_place f_this_lanes f_this_moved f_this_columns f_this_turns f_this_targets f_this_roundConstants f_a1) sz) none (kWX4_give cB cI cL cBB cII cSh h_this a_this h_a1 n_a1 this_rate out.1 out.2.1 out.2.2.1 out.2.2.2.1 f_this_turns f_this_targets f_this_roundConstants out.2.2.2.2)) 0 0 (va_A (kWX4_give cB cI cL cBB cII cSh h_this a_this h_a1 n_a1 this_rate this_place f_this_lanes f_this_moved f_this_columns f_this_turns f_this_targets f_this_roundConstants f_a1) sz) := by
  refine Met.ofW (cc := prog_6_method_9_code) (maxL := 5) (ret := none) (by decide) rfl ?_
  intro p e s m args below meth c s₁ B hml hv
  obtain ⟨rfl, hsz, hP, hK, hN, hD0⟩ := hv
  have hx := B.exec
  have hb := B.bytes
  have hr := B.returns
  have hts0 := atoms_spec (ws := kwX4_give) B.pre
  have hts : ∀ w ∈ kwA, w.before _ s = true := fun w h => hts0 w (List.mem_cons_of_mem _ h)
  have hown : s.vm.findClass kRX4 = some m.cls := findClass_of_methodNamed B.named
  have hlocks := B.notSynchronized
  subst hsz
  have hD := hD0.self (sz := s.heap.size)
  generalize hAe : va_A (kWX4_give cB cI cL cBB cII cSh h_this a_this h_a1 n_a1 this_rate this_place f_this_lanes f_this_moved f_this_columns f_this_turns f_this_targets f_this_roundConstants f_a1) s.heap.size = A at hD ⊢
  have hA : ∀ q : Nat, s.heap.size ≤ q → A q := fun q h => by rw [← hAe]; exact Or.inr h
  have hS : va_S A s.heap s.heap [] := va_S.rf
  have C0 : CallFix p m c prog_6_method_9_code 5 s _ kwA kRX4 := ⟨hx, hb, hml, hown, hts⟩
  have hl := lv_entry ([.ref h_this, .ref h_a1, .int p2, .int p3]) (n := 5) (Nat.le_of_ble_eq_true rfl)
  rw [lg_entry_eq]
  generalize (lg_sl ([.ref h_this, .ref h_a1, .int p2, .int p3]) ++ List.replicate (5 - (lg_sl ([.ref h_this, .ref h_a1, .int p2, .int p3])).length) Slot.unset).toArray = ls at hl ⊢
  have hl : lv_has ls 5 [(0, .ref h_this), (1, .ref h_a1), (2, .int p2), (3, .int p3)] := hl
  unfold kFX4_give at h
  refine lv_iconst (v := 0) hx hb kdX4_give_0 (by decide) ?_
  refine lv_istore (lv' := [(4, .int (0 : Int32)), (0, .ref h_this), (1, .ref h_a1), (2, .int p2), (3, .int p3)]) hx hb kdX4_give_1 hl (by decide) rfl (fun ls hl => ?_)
  obtain ⟨r_23, hr_23, h⟩ := kb_o_s h
  refine klX4_give_3 C0 hlocks hK hN hA (by decide) (by decide) h_this h_a1 a_this p2 p3 n_a1 this_rate f_this_turns f_this_targets f_this_roundConstants 100000 (0 : Int32) f_a1 this_place f_this_columns f_this_lanes f_this_moved r_23 hr_23 _ _ _ hP hD hS (lv_sub hl [1, 2, 3, 4, 0] rfl) (fun x4p3_17 f_a1p3_18 this_placep3_19 f_this_columnsp3_20 f_this_lanesp3_21 f_this_movedp3_22 er_23 H locs ls hP hD hS hl => ?_)
  subst er_23
  try dsimp only at h
  obtain rfl := Option.some.inj h
  exact W.vret hx hb hr (fun t ht hW => ⟨⟨rfl, by rw [ht]; exact hP, va_K.moved hW.alike hK, hD⟩, hS.F ht⟩) hS.2.2 kdX4_give_75
