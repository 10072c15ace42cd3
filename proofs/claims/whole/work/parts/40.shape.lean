abbrev kWX3_numbersSize (cB cI cL cBB cII cSh : ClassId) (h_this : Nat) (this_rank : Int32) (this_keyNoise : Int32) (this_vectorBits : Int32) (this_scalarBits : Int32) : va_W := [(h_this, koX3  this_rank this_keyNoise this_vectorBits this_scalarBits)]
def krX3_numbersSize : Room := { frames := 0, cells := 0, slots := 0, locals := 0 }
set_option maxHeartbeats 4000000 in
set_option maxRecDepth 100000 in
theorem kcX3_numbersSize (l : Launch) (D : va_G) (cB cI cL cBB cII cSh : ClassId) (h_this : Nat) (sz : Nat) (this_rank : Int32) (this_keyNoise : Int32) (this_vectorBits : Int32) (this_scalarBits : Int32) (out : Int32) (h : kFX3_numbersSize this_rank = some out) : Met l kyX3_numbersSize kwX3_numbersSize krX3_numbersSize (kb_P D kCl (kb_T cB cI cL cBB cII cSh) [.ref h_this] (kWX3_numbersSize cB cI cL cBB cII cSh h_this this_rank this_keyNoise this_vectorBits this_scalarBits) sz) (kb_Q D kCl (kb_T cB cI cL cBB cII cSh) (va_A (kWX3_numbersSize cB cI cL cBB cII cSh h_this this_rank this_keyNoise this_vectorBits this_scalarBits) sz) (some (.int out)) (kWX3_numbersSize cB cI cL cBB cII cSh h_this this_rank this_keyNoise this_vectorBits this_scalarBits)) 0 0 (va_A (kWX3_numbersSize cB cI cL cBB cII cSh h_this this_rank this_keyNoise this_vectorBits this_scalarBits) sz) := by
  refine Met.ofW (cc := prog_5_method_2_code) (maxL := 1) (ret := (some .int)) (by decide) rfl ?_
  intro p e s m args below meth c s₁ B hml hv
  obtain ⟨rfl, hsz, hP, hK, hN, hD0⟩ := hv
  have hx := B.exec
  have hb := B.bytes
  have hr := B.returns
  have hts0 := atoms_spec (ws := kwX3_numbersSize) B.pre
  have hts : ∀ w ∈ kwA, w.before _ s = true := fun w h => hts0 w (List.mem_cons_of_mem _ h)
  have hown : s.vm.findClass kRX3 = some m.cls := findClass_of_methodNamed B.named
  have hlocks := B.notSynchronized
  subst hsz
  have hD := hD0.self (sz := s.heap.size)
  generalize hAe : va_A (kWX3_numbersSize cB cI cL cBB cII cSh h_this this_rank this_keyNoise this_vectorBits this_scalarBits) s.heap.size = A at hD ⊢
  have hA : ∀ q : Nat, s.heap.size ≤ q → A q := fun q h => by rw [← hAe]; exact Or.inr h
  have hS : va_S A s.heap s.heap [] := va_S.rf
  have C0 : CallFix p m c prog_5_method_2_code 1 s _ kwA kRX3 := ⟨hx, hb, hml, hown, hts⟩
  have hl := lv_entry ([.ref h_this]) (n := 1) (Nat.le_of_ble_eq_true rfl)
  rw [lg_entry_eq]
  generalize (lg_sl ([.ref h_this]) ++ List.replicate (1 - (lg_sl ([.ref h_this])).length) Slot.unset).toArray = ls at hl ⊢
  have hl : lv_has ls 1 [(0, .ref h_this)] := hl
  unfold kFX3_numbersSize at h
  refine lv_sipush (v := 384) hx hb kdX3_numbersSize_0 (by decide) ?_
  refine lv_aload_n hx hb kdX3_numbersSize_3 rfl (lv_at hl 0 rfl) ?_
  refine va_get (ci := 3) (v := .int this_rank) (C := kRX3) (T := kTX3) (N := 4) hx hb hts kinX3 hown hK hP 0 rfl rfl 0 (by decide) (hts _ km_35) (fun _ h9 => h9) rfl kdX3_numbersSize_4 ?_
  refine lv_imul hx hb kdX3_numbersSize_7 ?_
  obtain rfl := Option.some.inj h
  exact W.iret (v := ((384 : Int32) * this_rank)) hx hb hr (fun t ht hW => ⟨⟨rfl, by rw [ht]; exact hP, va_K.moved hW.alike hK, hD⟩, hS.F ht⟩) hS.2.2 kdX3_numbersSize_8
abbrev kWX3_publicSize (cB cI cL cBB cII cSh : ClassId) (h_this : Nat) (this_rank : Int32) (this_keyNoise : Int32) (this_vectorBits : Int32) (this_scalarBits : Int32) : va_W := [(h_this, koX3  this_rank this_keyNoise this_vectorBits this_scalarBits)]
def krX3_publicSize : Room := { frames := 1, cells := 0, slots := 0, locals := 20 }
set_option maxHeartbeats 4000000 in
set_option maxRecDepth 100000 in
theorem kcX3_publicSize (l : Launch) (D : va_G) (cB cI cL cBB cII cSh : ClassId) (h_this : Nat) (sz : Nat) (this_rank : Int32) (this_keyNoise : Int32) (this_vectorBits : Int32) (this_scalarBits : Int32) (out : Int32) (h : kFX3_publicSize this_rank = some out) : Met l kyX3_publicSize kwX3_publicSize krX3_publicSize (kb_P D kCl (kb_T cB cI cL cBB cII cSh) [.ref h_this] (kWX3_publicSize cB cI cL cBB cII cSh h_this this_rank this_keyNoise this_vectorBits this_scalarBits) sz) (kb_Q D kCl (kb_T cB cI cL cBB cII cSh) (va_A (kWX3_publicSize cB cI cL cBB cII cSh h_this this_rank this_keyNoise this_vectorBits this_scalarBits) sz) (some (.int out)) (kWX3_publicSize cB cI cL cBB cII cSh h_this this_rank this_keyNoise this_vectorBits this_scalarBits)) 0 0 (va_A (kWX3_publicSize cB cI cL cBB cII cSh h_this this_rank this_keyNoise this_vectorBits this_scalarBits) sz) := by
  refine Met.ofW (cc := prog_5_method_3_code) (maxL := 1) (ret := (some .int)) (by decide) rfl ?_
  intro p e s m args below meth c s₁ B hml hv
  obtain ⟨rfl, hsz, hP, hK, hN, hD0⟩ := hv
  have hx := B.exec
  have hb := B.bytes
  have hr := B.returns
  have hts0 := atoms_spec (ws := kwX3_publicSize) B.pre
  have hts : ∀ w ∈ kwA, w.before _ s = true := fun w h => hts0 w (List.mem_cons_of_mem _ h)
  have hown : s.vm.findClass kRX3 = some m.cls := findClass_of_methodNamed B.named
  have hlocks := B.notSynchronized
  subst hsz
  have hD := hD0.self (sz := s.heap.size)
  generalize hAe : va_A (kWX3_publicSize cB cI cL cBB cII cSh h_this this_rank this_keyNoise this_vectorBits this_scalarBits) s.heap.size = A at hD ⊢
  have hA : ∀ q : Nat, s.heap.size ≤ q → A q := fun q h => by rw [← hAe]; exact Or.inr h
  have hS : va_S A s.heap s.heap [] := va_S.rf
  have C0 : CallFix p m c prog_5_method_3_code 1 s _ kwA kRX3 := ⟨hx, hb, hml, hown, hts⟩
  have hl := lv_entry ([.ref h_this]) (n := 1) (Nat.le_of_ble_eq_true rfl)
  rw [lg_entry_eq]
  generalize (lg_sl ([.ref h_this]) ++ List.replicate (1 - (lg_sl ([.ref h_this])).length) Slot.unset).toArray = ls at hl ⊢
  have hl : lv_has ls 1 [(0, .ref h_this)] := hl
  unfold kFX3_publicSize at h
  refine lv_aload_n hx hb kdX3_publicSize_0 rfl (lv_at hl 0 rfl) ?_
  obtain ⟨u_2, hu_2, h⟩ := kb_o_s h
  obtain ⟨r_1, rfl⟩ : ∃ z, z = u_2 := ⟨_, rfl⟩
  try dsimp only at h
  have hC := (show [0].map (fun i => (kWX3_publicSize cB cI cL cBB cII cSh h_this this_rank this_keyNoise this_vectorBits this_scalarBits)[i]?) = List.map some (kWX3_numbersSize cB cI cL cBB cII cSh h_this this_rank this_keyNoise this_vectorBits this_scalarBits) from rfl)
  have hPc := kb_Psub hP [0] hC
  have hDc := kb_Dsub hD [0] hC (by simp [kb_nd])
  refine kb_call0 (va_runV (As := []) (rest := []) C0 (kcX3_numbersSize l D cB cI cL cBB cII cSh h_this _ this_rank this_keyNoise this_vectorBits this_scalarBits r_1 hu_2) (cwV 0 hts (kb_gV km_473 km_465 km_466 km_2 km_467) rfl rfl rfl (by decide +kernel) ⟨Nat.le_of_ble_eq_true rfl, Nat.le_of_ble_eq_true rfl⟩) ⟨kb_P_bl, va_recv hK hP (ci := 3) (q0 := 0) rfl rfl, (fun U hU hW => ⟨rfl, by rw [hU], by rw [hU]; exact hPc, va_K.moved hW.alike hK, kb_N_to hW hN, hDc.weaken (fun _ _ _ _ => trivial)⟩)⟩ rfl rfl hl.1 rfl (lv_room (Nat.le_of_ble_eq_true rfl)) kdX3_publicSize_1 ⟨Nat.le_of_ble_eq_true rfl, Nat.le_of_ble_eq_true rfl⟩) hP hD hS hA [0] hC rfl (fun H locs hP hD hS => ?_)
  have hP : va_P D kCl (kWX3_publicSize cB cI cL cBB cII cSh h_this this_rank this_keyNoise this_vectorBits this_scalarBits) H := hP
  have hD : va_D A (kWX3_publicSize cB cI cL cBB cII cSh h_this this_rank this_keyNoise this_vectorBits this_scalarBits) := hD
  refine lv_bipush (v := 32) hx hb kdX3_publicSize_4 (by decide) ?_
  refine lv_iadd hx hb kdX3_publicSize_6 ?_
  obtain rfl := Option.some.inj h
  exact W.iret (v := (r_1 + (32 : Int32))) hx hb hr (fun t ht hW => ⟨⟨rfl, by rw [ht]; exact hP, va_K.moved hW.alike hK, hD⟩, hS.F ht⟩) hS.2.2 kdX3_publicSize_7
abbrev kWX3_hashPlace (cB cI cL cBB cII cSh : ClassId) (h_this : Nat) (this_rank : Int32) (this_keyNoise : Int32) (this_vectorBits : Int32) (this_scalarBits : Int32) : va_W := [(h_this, koX3  this_rank this_keyNoise this_vectorBits this_scalarBits)]
def krX3_hashPlace : Room := { frames := 2, cells := 0, slots := 0, locals := 40 }
set_option maxHeartbeats 4000000 in
set_option maxRecDepth 100000 in
theorem kcX3_hashPlace (l : Launch) (D : va_G) (cB cI cL cBB cII cSh : ClassId) (h_this : Nat) (sz : Nat) (this_rank : Int32) (this_keyNoise : Int32) (this_vectorBits : Int32) (this_scalarBits : Int32) (out : Int32) (h : kFX3_hashPlace this_rank = some out) : Met l kyX3_hashPlace kwX3_hashPlace krX3_hashPlace (kb_P D kCl (kb_T cB cI cL cBB cII cSh) [.ref h_this] (kWX3_hashPlace cB cI cL cBB cII cSh h_this this_rank this_keyNoise this_vectorBits this_scalarBits) sz) (kb_Q D kCl (kb_T cB cI cL cBB cII cSh) (va_A (kWX3_hashPlace cB cI cL cBB cII cSh h_this this_rank this_keyNoise this_vectorBits this_scalarBits) sz) (some (.int out)) (kWX3_hashPlace cB cI cL cBB cII cSh h_this this_rank this_keyNoise this_vectorBits this_scalarBits)) 0 0 (va_A (kWX3_hashPlace cB cI cL cBB cII cSh h_this this_rank this_keyNoise this_vectorBits this_scalarBits) sz) := by
  refine Met.ofW (cc := prog_5_method_4_code) (maxL := 1) (ret := (some .int)) (by decide) rfl ?_
  intro p e s m args below meth c s₁ B hml hv
  obtain ⟨rfl, hsz, hP, hK, hN, hD0⟩ := hv
  have hx := B.exec
  have hb := B.bytes
  have hr := B.returns
  have hts0 := atoms_spec (ws := kwX3_hashPlace) B.pre
  have hts : ∀ w ∈ kwA, w.before _ s = true := fun w h => hts0 w (List.mem_cons_of_mem _ h)
  have hown : s.vm.findClass kRX3 = some m.cls := findClass_of_methodNamed B.named
  have hlocks := B.notSynchronized
  subst hsz
  have hD := hD0.self (sz := s.heap.size)
  generalize hAe : va_A (kWX3_hashPlace cB cI cL cBB cII cSh h_this this_rank this_keyNoise this_vectorBits this_scalarBits) s.heap.size = A at hD ⊢
  have hA : ∀ q : Nat, s.heap.size ≤ q → A q := fun q h => by rw [← hAe]; exact Or.inr h
  have hS : va_S A s.heap s.heap [] := va_S.rf
  have C0 : CallFix p m c prog_5_method_4_code 1 s _ kwA kRX3 := ⟨hx, hb, hml, hown, hts⟩
  have hl := lv_entry ([.ref h_this]) (n := 1) (Nat.le_of_ble_eq_true rfl)
  rw [lg_entry_eq]
  generalize (lg_sl ([.ref h_this]) ++ List.replicate (1 - (lg_sl ([.ref h_this])).length) Slot.unset).toArray = ls at hl ⊢
  have hl : lv_has ls 1 [(0, .ref h_this)] := hl
  unfold kFX3_hashPlace at h
  refine lv_aload_n hx hb kdX3_hashPlace_0 rfl (lv_at hl 0 rfl) ?_
  obtain ⟨u_2, hu_2, h⟩ := kb_o_s h
  obtain ⟨r_1, rfl⟩ : ∃ z, z = u_2 := ⟨_, rfl⟩
  try dsimp only at h
  have hC := (show [0].map (fun i => (kWX3_hashPlace cB cI cL cBB cII cSh h_this this_rank this_keyNoise this_vectorBits this_scalarBits)[i]?) = List.map some (kWX3_numbersSize cB cI cL cBB cII cSh h_this this_rank this_keyNoise this_vectorBits this_scalarBits) from rfl)
  have hPc := kb_Psub hP [0] hC
  have hDc := kb_Dsub hD [0] hC (by simp [kb_nd])
  refine kb_call0 (va_runV (As := []) (rest := []) C0 (kcX3_numbersSize l D cB cI cL cBB cII cSh h_this _ this_rank this_keyNoise this_vectorBits this_scalarBits r_1 hu_2) (cwV 0 hts (kb_gV km_473 km_465 km_466 km_2 km_467) rfl rfl rfl (by decide +kernel) ⟨Nat.le_of_ble_eq_true rfl, Nat.le_of_ble_eq_true rfl⟩) ⟨kb_P_bl, va_recv hK hP (ci := 3) (q0 := 0) rfl rfl, (fun U hU hW => ⟨rfl, by rw [hU], by rw [hU]; exact hPc, va_K.moved hW.alike hK, kb_N_to hW hN, hDc.weaken (fun _ _ _ _ => trivial)⟩)⟩ rfl rfl hl.1 rfl (lv_room (Nat.le_of_ble_eq_true rfl)) kdX3_hashPlace_1 ⟨Nat.le_of_ble_eq_true rfl, Nat.le_of_ble_eq_true rfl⟩) hP hD hS hA [0] hC rfl (fun H locs hP hD hS => ?_)
  have hP : va_P D kCl (kWX3_hashPlace cB cI cL cBB cII cSh h_this this_rank this_keyNoise this_vectorBits this_scalarBits) H := hP
  have hD : va_D A (kWX3_hashPlace cB cI cL cBB cII cSh h_this this_rank this_keyNoise this_vectorBits this_scalarBits) := hD
  refine lv_aload_n hx hb kdX3_hashPlace_4 rfl (lv_at hl 0 rfl) ?_
  obtain ⟨u_4, hu_4, h⟩ := kb_o_s h
  obtain ⟨r_3, rfl⟩ : ∃ z, z = u_4 := ⟨_, rfl⟩
  try dsimp only at h
  have hC := (show [0].map (fun i => (kWX3_hashPlace cB cI cL cBB cII cSh h_this this_rank this_keyNoise this_vectorBits this_scalarBits)[i]?) = List.map some (kWX3_publicSize cB cI cL cBB cII cSh h_this this_rank this_keyNoise this_vectorBits this_scalarBits) from rfl)
  have hPc := kb_Psub hP [0] hC
  have hDc := kb_Dsub hD [0] hC (by simp [kb_nd])
  refine kb_call0 (va_runV (As := []) (rest := [.int r_1]) C0 (kcX3_publicSize l D cB cI cL cBB cII cSh h_this _ this_rank this_keyNoise this_vectorBits this_scalarBits r_3 hu_4) (cwV 0 hts (kb_gV km_482 km_470 km_471 km_2 km_472) rfl rfl rfl (by decide +kernel) ⟨Nat.le_of_ble_eq_true rfl, Nat.le_of_ble_eq_true rfl⟩) ⟨kb_P_bl, va_recv hK hP (ci := 3) (q0 := 0) rfl rfl, (fun U hU hW => ⟨rfl, by rw [hU], by rw [hU]; exact hPc, va_K.moved hW.alike hK, kb_N_to hW hN, hDc.weaken (fun _ _ _ _ => trivial)⟩)⟩ rfl rfl hl.1 rfl (lv_room (Nat.le_of_ble_eq_true rfl)) kdX3_hashPlace_5 ⟨Nat.le_of_ble_eq_true rfl, Nat.le_of_ble_eq_true rfl⟩) hP hD hS hA [0] hC rfl (fun H locs hP hD hS => ?_)
  have hP : va_P D kCl (kWX3_hashPlace cB cI cL cBB cII cSh h_this this_rank this_keyNoise this_vectorBits this_scalarBits) H := hP
  have hD : va_D A (kWX3_hashPlace cB cI cL cBB cII cSh h_this this_rank this_keyNoise this_vectorBits this_scalarBits) := hD
  refine lv_iadd hx hb kdX3_hashPlace_8 ?_
  obtain rfl := Option.some.inj h
  exact W.iret (v := (r_1 + r_3)) hx hb hr (fun t ht hW => ⟨⟨rfl, by rw [ht]; exact hP, va_K.moved hW.alike hK, hD⟩, hS.F ht⟩) hS.2.2 kdX3_hashPlace_9
abbrev kWX3_secretSize (cB cI cL cBB cII cSh : ClassId) (h_this : Nat) (this_rank : Int32) (this_keyNoise : Int32) (this_vectorBits : Int32) (this_scalarBits : Int32) : va_W := [(h_this, koX3  this_rank this_keyNoise this_vectorBits this_scalarBits)]
def krX3_secretSize : Room := { frames := 3, cells := 0, slots := 0, locals := 60 }
set_option maxHeartbeats 4000000 in
set_option maxRecDepth 100000 in
theorem kcX3_secretSize (l : Launch) (D : va_G) (cB cI cL cBB cII cSh : ClassId) (h_this : Nat) (sz : Nat) (this_rank : Int32) (this_keyNoise : Int32) (this_vectorBits : Int32) (this_scalarBits : Int32) (out : Int32) (h : kFX3_secretSize this_rank = some out) : Met l kyX3_secretSize kwX3_secretSize krX3_secretSize (kb_P D kCl (kb_T cB cI cL cBB cII cSh) [.ref h_this] (kWX3_secretSize cB cI cL cBB cII cSh h_this this_rank this_keyNoise this_vectorBits this_scalarBits) sz) (kb_Q D kCl (kb_T cB cI cL cBB cII cSh) (va_A (kWX3_secretSize cB cI cL cBB cII cSh h_this this_rank this_keyNoise this_vectorBits this_scalarBits) sz) (some (.int out)) (kWX3_secretSize cB cI cL cBB cII cSh h_this this_rank this_keyNoise this_vectorBits this_scalarBits)) 0 0 (va_A (kWX3_secretSize cB cI cL cBB cII cSh h_this this_rank this_keyNoise this_vectorBits this_scalarBits) sz) := by
  refine Met.ofW (cc := prog_5_method_5_code) (maxL := 1) (ret := (some .int)) (by decide) rfl ?_
  intro p e s m args below meth c s₁ B hml hv
  obtain ⟨rfl, hsz, hP, hK, hN, hD0⟩ := hv
  have hx := B.exec
  have hb := B.bytes
  have hr := B.returns
  have hts0 := atoms_spec (ws := kwX3_secretSize) B.pre
  have hts : ∀ w ∈ kwA, w.before _ s = true := fun w h => hts0 w (List.mem_cons_of_mem _ h)
  have hown : s.vm.findClass kRX3 = some m.cls := findClass_of_methodNamed B.named
  have hlocks := B.notSynchronized
  subst hsz
  have hD := hD0.self (sz := s.heap.size)
  generalize hAe : va_A (kWX3_secretSize cB cI cL cBB cII cSh h_this this_rank this_keyNoise this_vectorBits this_scalarBits) s.heap.size = A at hD ⊢
  have hA : ∀ q : Nat, s.heap.size ≤ q → A q := fun q h => by rw [← hAe]; exact Or.inr h
  have hS : va_S A s.heap s.heap [] := va_S.rf
  have C0 : CallFix p m c prog_5_method_5_code 1 s _ kwA kRX3 := ⟨hx, hb, hml, hown, hts⟩
  have hl := lv_entry ([.ref h_this]) (n := 1) (Nat.le_of_ble_eq_true rfl)
  rw [lg_entry_eq]
  generalize (lg_sl ([.ref h_this]) ++ List.replicate (1 - (lg_sl ([.ref h_this])).length) Slot.unset).toArray = ls at hl ⊢
  have hl : lv_has ls 1 [(0, .ref h_this)] := hl
  unfold kFX3_secretSize at h
  refine lv_aload_n hx hb kdX3_secretSize_0 rfl (lv_at hl 0 rfl) ?_
  obtain ⟨u_2, hu_2, h⟩ := kb_o_s h
  obtain ⟨r_1, rfl⟩ : ∃ z, z = u_2 := ⟨_, rfl⟩
  try dsimp only at h
  have hC := (show [0].map (fun i => (kWX3_secretSize cB cI cL cBB cII cSh h_this this_rank this_keyNoise this_vectorBits this_scalarBits)[i]?) = List.map some (kWX3_hashPlace cB cI cL cBB cII cSh h_this this_rank this_keyNoise this_vectorBits this_scalarBits) from rfl)
  have hPc := kb_Psub hP [0] hC
  have hDc := kb_Dsub hD [0] hC (by simp [kb_nd])
  refine kb_call0 (va_runV (As := []) (rest := []) C0 (kcX3_hashPlace l D cB cI cL cBB cII cSh h_this _ this_rank this_keyNoise this_vectorBits this_scalarBits r_1 hu_2) (cwV 0 hts (kb_gV km_488 km_479 km_480 km_2 km_481) rfl rfl rfl (by decide +kernel) ⟨Nat.le_of_ble_eq_true rfl, Nat.le_of_ble_eq_true rfl⟩) ⟨kb_P_bl, va_recv hK hP (ci := 3) (q0 := 0) rfl rfl, (fun U hU hW => ⟨rfl, by rw [hU], by rw [hU]; exact hPc, va_K.moved hW.alike hK, kb_N_to hW hN, hDc.weaken (fun _ _ _ _ => trivial)⟩)⟩ rfl rfl hl.1 rfl (lv_room (Nat.le_of_ble_eq_true rfl)) kdX3_secretSize_1 ⟨Nat.le_of_ble_eq_true rfl, Nat.le_of_ble_eq_true rfl⟩) hP hD hS hA [0] hC rfl (fun H locs hP hD hS => ?_)
  have hP : va_P D kCl (kWX3_secretSize cB cI cL cBB cII cSh h_this this_rank this_keyNoise this_vectorBits this_scalarBits) H := hP
  have hD : va_D A (kWX3_secretSize cB cI cL cBB cII cSh h_this this_rank this_keyNoise this_vectorBits this_scalarBits) := hD
  refine lv_bipush (v := 64) hx hb kdX3_secretSize_4 (by decide) ?_
  refine lv_iadd hx hb kdX3_secretSize_6 ?_
  obtain rfl := Option.some.inj h
  exact W.iret (v := (r_1 + (64 : Int32))) hx hb hr (fun t ht hW => ⟨⟨rfl, by rw [ht]; exact hP, va_K.moved hW.alike hK, hD⟩, hS.F ht⟩) hS.2.2 kdX3_secretSize_7
abbrev kWX3_vectorPartSize (cB cI cL cBB cII cSh : ClassId) (h_this : Nat) (this_rank : Int32) (this_keyNoise : Int32) (this_vectorBits : Int32) (this_scalarBits : Int32) : va_W := [(h_this, koX3  this_rank this_keyNoise this_vectorBits this_scalarBits)]
def krX3_vectorPartSize : Room := { frames := 0, cells := 0, slots := 0, locals := 0 }
set_option maxHeartbeats 4000000 in
set_option maxRecDepth 100000 in
theorem kcX3_vectorPartSize (l : Launch) (D : va_G) (cB cI cL cBB cII cSh : ClassId) (h_this : Nat) (sz : Nat) (this_rank : Int32) (this_keyNoise : Int32) (this_vectorBits : Int32) (this_scalarBits : Int32) (out : Int32) (h : kFX3_vectorPartSize this_vectorBits = some out) : Met l kyX3_vectorPartSize kwX3_vectorPartSize krX3_vectorPartSize (kb_P D kCl (kb_T cB cI cL cBB cII cSh) [.ref h_this] (kWX3_vectorPartSize cB cI cL cBB cII cSh h_this this_rank this_keyNoise this_vectorBits this_scalarBits) sz) (kb_Q D kCl (kb_T cB cI cL cBB cII cSh) (va_A (kWX3_vectorPartSize cB cI cL cBB cII cSh h_this this_rank this_keyNoise this_vectorBits this_scalarBits) sz) (some (.int out)) (kWX3_vectorPartSize cB cI cL cBB cII cSh h_this this_rank this_keyNoise this_vectorBits this_scalarBits)) 0 0 (va_A (kWX3_vectorPartSize cB cI cL cBB cII cSh h_this this_rank this_keyNoise this_vectorBits this_scalarBits) sz) := by
  refine Met.ofW (cc := prog_5_method_6_code) (maxL := 1) (ret := (some .int)) (by decide) rfl ?_
  intro p e s m args below meth c s₁ B hml hv
  obtain ⟨rfl, hsz, hP, hK, hN, hD0⟩ := hv
  have hx := B.exec
  have hb := B.bytes
  have hr := B.returns
  have hts0 := atoms_spec (ws := kwX3_vectorPartSize) B.pre
  have hts : ∀ w ∈ kwA, w.before _ s = true := fun w h => hts0 w (List.mem_cons_of_mem _ h)
  have hown : s.vm.findClass kRX3 = some m.cls := findClass_of_methodNamed B.named
  have hlocks := B.notSynchronized
  subst hsz
  have hD := hD0.self (sz := s.heap.size)
  generalize hAe : va_A (kWX3_vectorPartSize cB cI cL cBB cII cSh h_this this_rank this_keyNoise this_vectorBits this_scalarBits) s.heap.size = A at hD ⊢
  have hA : ∀ q : Nat, s.heap.size ≤ q → A q := fun q h => by rw [← hAe]; exact Or.inr h
  have hS : va_S A s.heap s.heap [] := va_S.rf
  have C0 : CallFix p m c prog_5_method_6_code 1 s _ kwA kRX3 := ⟨hx, hb, hml, hown, hts⟩
  have hl := lv_entry ([.ref h_this]) (n := 1) (Nat.le_of_ble_eq_true rfl)
  rw [lg_entry_eq]
  generalize (lg_sl ([.ref h_this]) ++ List.replicate (1 - (lg_sl ([.ref h_this])).length) Slot.unset).toArray = ls at hl ⊢
  have hl : lv_has ls 1 [(0, .ref h_this)] := hl
  unfold kFX3_vectorPartSize at h
  refine lv_bipush (v := 32) hx hb kdX3_vectorPartSize_0 (by decide) ?_
  refine lv_aload_n hx hb kdX3_vectorPartSize_2 rfl (lv_at hl 0 rfl) ?_
  refine va_get (ci := 3) (v := .int this_vectorBits) (C := kRX3) (T := kTX3) (N := 4) hx hb hts kinX3 hown hK hP 0 rfl rfl 2 (by decide) (hts _ km_39) (fun _ h9 => h9) rfl kdX3_vectorPartSize_3 ?_
  refine lv_imul hx hb kdX3_vectorPartSize_6 ?_
  obtain rfl := Option.some.inj h
  exact W.iret (v := ((32 : Int32) * this_vectorBits)) hx hb hr (fun t ht hW => ⟨⟨rfl, by rw [ht]; exact hP, va_K.moved hW.alike hK, hD⟩, hS.F ht⟩) hS.2.2 kdX3_vectorPartSize_7
abbrev kWX3_scalarPlace (cB cI cL cBB cII cSh : ClassId) (h_this : Nat) (this_rank : Int32) (this_keyNoise : Int32) (this_vectorBits : Int32) (this_scalarBits : Int32) : va_W := [(h_this, koX3  this_rank this_keyNoise this_vectorBits this_scalarBits)]
def krX3_scalarPlace : Room := { frames := 1, cells := 0, slots := 0, locals := 20 }
set_option maxHeartbeats 4000000 in
set_option maxRecDepth 100000 in
theorem kcX3_scalarPlace (l : Launch) (D : va_G) (cB cI cL cBB cII cSh : ClassId) (h_this : Nat) (sz : Nat) (this_rank : Int32) (this_keyNoise : Int32) (this_vectorBits : Int32) (this_scalarBits : Int32) (out : Int32) (h : kFX3_scalarPlace this_rank this_vectorBits = some out) : Met l kyX3_scalarPlace kwX3_scalarPlace krX3_scalarPlace (kb_P D kCl (kb_T cB cI cL cBB cII cSh) [.ref h_this] (kWX3_scalarPlace cB cI cL cBB cII cSh h_this this_rank this_keyNoise this_vectorBits this_scalarBits) sz) (kb_Q D kCl (kb_T cB cI cL cBB cII cSh) (va_A (kWX3_scalarPlace cB cI cL cBB cII cSh h_this this_rank this_keyNoise this_vectorBits this_scalarBits) sz) (some (.int out)) (kWX3_scalarPlace cB cI cL cBB cII cSh h_this this_rank this_keyNoise this_vectorBits this_scalarBits)) 0 0 (va_A (kWX3_scalarPlace cB cI cL cBB cII cSh h_this this_rank this_keyNoise this_vectorBits this_scalarBits) sz) := by
  refine Met.ofW (cc := prog_5_method_7_code) (maxL := 1) (ret := (some .int)) (by decide) rfl ?_
  intro p e s m args below meth c s₁ B hml hv
  obtain ⟨rfl, hsz, hP, hK, hN, hD0⟩ := hv
  have hx := B.exec
  have hb := B.bytes
  have hr := B.returns
  have hts0 := atoms_spec (ws := kwX3_scalarPlace) B.pre
  have hts : ∀ w ∈ kwA, w.before _ s = true := fun w h => hts0 w (List.mem_cons_of_mem _ h)
  have hown : s.vm.findClass kRX3 = some m.cls := findClass_of_methodNamed B.named
  have hlocks := B.notSynchronized
  subst hsz
  have hD := hD0.self (sz := s.heap.size)
  generalize hAe : va_A (kWX3_scalarPlace cB cI cL cBB cII cSh h_this this_rank this_keyNoise this_vectorBits this_scalarBits) s.heap.size = A at hD ⊢
  have hA : ∀ q : Nat, s.heap.size ≤ q → A q := fun q h => by rw [← hAe]; exact Or.inr h
  have hS : va_S A s.heap s.heap [] := va_S.rf
  have C0 : CallFix p m c prog_5_method_7_code 1 s _ kwA kRX3 := ⟨hx, hb, hml, hown, hts⟩
  have hl := lv_entry ([.ref h_this]) (n := 1) (Nat.le_of_ble_eq_true rfl)
  rw [lg_entry_eq]
  generalize (lg_sl ([.ref h_this]) ++ List.replicate (1 - (lg_sl ([.ref h_this])).length) Slot.unset).toArray = ls at hl ⊢
  have hl : lv_has ls 1 [(0, .ref h_this)] := hl
  unfold kFX3_scalarPlace at h
  refine lv_aload_n hx hb kdX3_scalarPlace_0 rfl (lv_at hl 0 rfl) ?_
  obtain ⟨u_2, hu_2, h⟩ := kb_o_s h
  obtain ⟨r_1, rfl⟩ : ∃ z, z = u_2 := ⟨_, rfl⟩
  try dsimp only at h
  have hC := (show [0].map (fun i => (kWX3_scalarPlace cB cI cL cBB cII cSh h_this this_rank this_keyNoise this_vectorBits this_scalarBits)[i]?) = List.map some (kWX3_vectorPartSize cB cI cL cBB cII cSh h_this this_rank this_keyNoise this_vectorBits this_scalarBits) from rfl)
  have hPc := kb_Psub hP [0] hC
  have hDc := kb_Dsub hD [0] hC (by simp [kb_nd])
  refine kb_call0 (va_runV (As := []) (rest := []) C0 (kcX3_vectorPartSize l D cB cI cL cBB cII cSh h_this _ this_rank this_keyNoise this_vectorBits this_scalarBits r_1 hu_2) (cwV 0 hts (kb_gV km_566 km_544 km_545 km_2 km_546) rfl rfl rfl (by decide +kernel) ⟨Nat.le_of_ble_eq_true rfl, Nat.le_of_ble_eq_true rfl⟩) ⟨kb_P_bl, va_recv hK hP (ci := 3) (q0 := 0) rfl rfl, (fun U hU hW => ⟨rfl, by rw [hU], by rw [hU]; exact hPc, va_K.moved hW.alike hK, kb_N_to hW hN, hDc.weaken (fun _ _ _ _ => trivial)⟩)⟩ rfl rfl hl.1 rfl (lv_room (Nat.le_of_ble_eq_true rfl)) kdX3_scalarPlace_1 ⟨Nat.le_of_ble_eq_true rfl, Nat.le_of_ble_eq_true rfl⟩) hP hD hS hA [0] hC rfl (fun H locs hP hD hS => ?_)
  have hP : va_P D kCl (kWX3_scalarPlace cB cI cL cBB cII cSh h_this this_rank this_keyNoise this_vectorBits this_scalarBits) H := hP
  have hD : va_D A (kWX3_scalarPlace cB cI cL cBB cII cSh h_this this_rank this_keyNoise this_vectorBits this_scalarBits) := hD
  refine lv_aload_n hx hb kdX3_scalarPlace_4 rfl (lv_at hl 0 rfl) ?_
  refine va_get (ci := 3) (v := .int this_rank) (C := kRX3) (T := kTX3) (N := 4) hx hb hts kinX3 hown hK hP 0 rfl rfl 0 (by decide) (hts _ km_35) (fun _ h9 => h9) rfl kdX3_scalarPlace_5 ?_
  refine lv_imul hx hb kdX3_scalarPlace_8 ?_
  obtain rfl := Option.some.inj h
  exact W.iret (v := (r_1 * this_rank)) hx hb hr (fun t ht hW => ⟨⟨rfl, by rw [ht]; exact hP, va_K.moved hW.alike hK, hD⟩, hS.F ht⟩) hS.2.2 kdX3_scalarPlace_9
abbrev kWX3_packetSize (cB cI cL cBB cII cSh : ClassId) (h_this : Nat) (this_rank : Int32) (this_keyNoise : Int32) (this_vectorBits : Int32) (this_scalarBits : Int32) : va_W := [(h_this, koX3  this_rank this_keyNoise this_vectorBits this_scalarBits)]
def krX3_packetSize : Room := { frames := 2, cells := 0, slots := 0, locals := 40 }
set_option maxHeartbeats 4000000 in
set_option maxRecDepth 100000 in
theorem kcX3_packetSize (l : Launch) (D : va_G) (cB cI cL cBB cII cSh : ClassId) (h_this : Nat) (sz : Nat) (this_rank : Int32) (this_keyNoise : Int32) (this_vectorBits : Int32) (this_scalarBits : Int32) (out : Int32) (h : kFX3_packetSize this_rank this_vectorBits this_scalarBits = some out) : Met l kyX3_packetSize kwX3_packetSize krX3_packetSize (kb_P D kCl (kb_T cB cI cL cBB cII cSh) [.ref h_this] (kWX3_packetSize cB cI cL cBB cII cSh h_this this_rank this_keyNoise this_vectorBits this_scalarBits) sz) (kb_Q D kCl (kb_T cB cI cL cBB cII cSh) (va_A (kWX3_packetSize cB cI cL cBB cII cSh h_this this_rank this_keyNoise this_vectorBits this_scalarBits) sz) (some (.int out)) (kWX3_packetSize cB cI cL cBB cII cSh h_this this_rank this_keyNoise this_vectorBits this_scalarBits)) 0 0 (va_A (kWX3_packetSize cB cI cL cBB cII cSh h_this this_rank this_keyNoise this_vectorBits this_scalarBits) sz) := by
  refine Met.ofW (cc := prog_5_method_8_code) (maxL := 1) (ret := (some .int)) (by decide) rfl ?_
  intro p e s m args below meth c s₁ B hml hv
  obtain ⟨rfl, hsz, hP, hK, hN, hD0⟩ := hv
  have hx := B.exec
  have hb := B.bytes
  have hr := B.returns
  have hts0 := atoms_spec (ws := kwX3_packetSize) B.pre
  have hts : ∀ w ∈ kwA, w.before _ s = true := fun w h => hts0 w (List.mem_cons_of_mem _ h)
  have hown : s.vm.findClass kRX3 = some m.cls := findClass_of_methodNamed B.named
  have hlocks := B.notSynchronized
  subst hsz
  have hD := hD0.self (sz := s.heap.size)
  generalize hAe : va_A (kWX3_packetSize cB cI cL cBB cII cSh h_this this_rank this_keyNoise this_vectorBits this_scalarBits) s.heap.size = A at hD ⊢
  have hA : ∀ q : Nat, s.heap.size ≤ q → A q := fun q h => by rw [← hAe]; exact Or.inr h
  have hS : va_S A s.heap s.heap [] := va_S.rf
  have C0 : CallFix p m c prog_5_method_8_code 1 s _ kwA kRX3 := ⟨hx, hb, hml, hown, hts⟩
  have hl := lv_entry ([.ref h_this]) (n := 1) (Nat.le_of_ble_eq_true rfl)
  rw [lg_entry_eq]
  generalize (lg_sl ([.ref h_this]) ++ List.replicate (1 - (lg_sl ([.ref h_this])).length) Slot.unset).toArray = ls at hl ⊢
  have hl : lv_has ls 1 [(0, .ref h_this)] := hl
  unfold kFX3_packetSize at h
  refine lv_aload_n hx hb kdX3_packetSize_0 rfl (lv_at hl 0 rfl) ?_
  obtain ⟨u_2, hu_2, h⟩ := kb_o_s h
  obtain ⟨r_1, rfl⟩ : ∃ z, z = u_2 := ⟨_, rfl⟩
  try dsimp only at h
  have hC := (show [0].map (fun i => (kWX3_packetSize cB cI cL cBB cII cSh h_this this_rank this_keyNoise this_vectorBits this_scalarBits)[i]?) = List.map some (kWX3_scalarPlace cB cI cL cBB cII cSh h_this this_rank this_keyNoise this_vectorBits this_scalarBits) from rfl)
  have hPc := kb_Psub hP [0] hC
  have hDc := kb_Dsub hD [0] hC (by simp [kb_nd])
  refine kb_call0 (va_runV (As := []) (rest := []) C0 (kcX3_scalarPlace l D cB cI cL cBB cII cSh h_this _ this_rank this_keyNoise this_vectorBits this_scalarBits r_1 hu_2) (cwV 0 hts (kb_gV km_571 km_563 km_564 km_2 km_565) rfl rfl rfl (by decide +kernel) ⟨Nat.le_of_ble_eq_true rfl, Nat.le_of_ble_eq_true rfl⟩) ⟨kb_P_bl, va_recv hK hP (ci := 3) (q0 := 0) rfl rfl, (fun U hU hW => ⟨rfl, by rw [hU], by rw [hU]; exact hPc, va_K.moved hW.alike hK, kb_N_to hW hN, hDc.weaken (fun _ _ _ _ => trivial)⟩)⟩ rfl rfl hl.1 rfl (lv_room (Nat.le_of_ble_eq_true rfl)) kdX3_packetSize_1 ⟨Nat.le_of_ble_eq_true rfl, Nat.le_of_ble_eq_true rfl⟩) hP hD hS hA [0] hC rfl (fun H locs hP hD hS => ?_)
  have hP : va_P D kCl (kWX3_packetSize cB cI cL cBB cII cSh h_this this_rank this_keyNoise this_vectorBits this_scalarBits) H := hP
  have hD : va_D A (kWX3_packetSize cB cI cL cBB cII cSh h_this this_rank this_keyNoise this_vectorBits this_scalarBits) := hD
  refine lv_bipush (v := 32) hx hb kdX3_packetSize_4 (by decide) ?_
  refine lv_aload_n hx hb kdX3_packetSize_6 rfl (lv_at hl 0 rfl) ?_
  refine va_get (ci := 3) (v := .int this_scalarBits) (C := kRX3) (T := kTX3) (N := 4) hx hb hts kinX3 hown hK hP 0 rfl rfl 3 (by decide) (hts _ km_41) (fun _ h9 => h9) rfl kdX3_packetSize_7 ?_
  refine lv_imul hx hb kdX3_packetSize_10 ?_
  refine lv_iadd hx hb kdX3_packetSize_11 ?_
  obtain rfl := Option.some.inj h
  exact W.iret (v := (r_1 + ((32 : Int32) * this_scalarBits))) hx hb hr (fun t ht hW => ⟨⟨rfl, by rw [ht]; exact hP, va_K.moved hW.alike hK, hD⟩, hS.F ht⟩) hS.2.2 kdX3_packetSize_12
