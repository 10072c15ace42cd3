-- 484.ModuleKem.Sponge.finish.lean.txt
abbrev kWX4_finish (cB cI cL cBB cII cSh : ClassId) (h_this : Nat) (a_this : Nat → Nat) (this_rate : Int32) (this_place : Int32) (f_this_lanes : Nat → Int64) (f_this_moved : Nat → Int64) (f_this_columns : Nat → Int64) (f_this_turns : Nat → Int32) (f_this_targets : Nat → Int32) (f_this_roundConstants : Nat → Int64) : va_W := [(h_this, koX4 a_this this_rate this_place), ((a_this 0), .inl (cL, 25, .inr (.inl f_this_lanes))), ((a_this 1), .inl (cL, 25, .inr (.inl f_this_moved))), ((a_this 2), .inl (cL, 5, .inr (.inl f_this_columns))), ((a_this 3), .inl (cI, 25, .inl f_this_turns)), ((a_this 4), .inl (cI, 25, .inl f_this_targets)), ((a_this 5), .inl (cL, 24, .inr (.inl f_this_roundConstants)))]
def krX4_finish : Room := { frames := 1, cells := 0, slots := 0, locals := 32 }
set_option maxHeartbeats 4000000 in
set_option maxRecDepth 100000 in
theorem kcX4_finish (l : Launch) (D : va_G) (cB cI cL cBB cII cSh : ClassId) (h_this : Nat) (a_this : Nat → Nat) (sz : Nat) (p1 : Int32) (this_rate : Int32) (this_place : Int32) (f_this_lanes : Nat → Int64) (f_this_moved : Nat → Int64) (f_this_columns : Nat → Int64) (f_this_turns : Nat → Int32) (f_this_targets : Nat → Int32) (f_this_roundConstants : Nat → Int64) (out : Int32 × (Nat → Int64) × (Nat → Int64) × (Nat → Int64)) (h : kFX4_finish p1 this_rate this_place f_this_lanes f_this_moved f_this_columns f_this_turns f_this_targets f_this_roundConstants = some out) : Met l kyX4_finish kwX4_finish krX4_finish (kb_P D kCl (kb_T cB cI cL cBB cII cSh) [.ref h_this, .int p1] (kWX4_finish cB cI cL cBB cII cSh h_this a_this this_rate this_place f_this_lanes f_this_moved f_this_columns f_this_turns f_this_targets f_this_roundConstants) sz) (kb_Q D kCl (kb_T cB cI cL cBB cII cSh) (va_A (kWX4_finish cB cI cL cBB cII cSh h_this a_this this_rate this_place f_this_lanes f_this_moved f_this_columns f_this_turns f_this_targets f_this_roundConstants) sz) none (kWX4_finish cB cI cL cBB cII cSh h_this a_this this_rate out.1 out.2.1 out.2.2.1 out.2.2.2 f_this_turns f_this_targets f_this_roundConstants)) 0 0 (va_A (kWX4_finish cB cI cL cBB cII cSh h_this a_this this_rate this_place f_this_lanes f_this_moved f_this_columns f_this_turns f_this_targets f_this_roundConstants) sz) := by
  refine Met.ofW (cc := prog_6_method_8_code) (maxL := 2) (ret := none) (by decide) rfl ?_
  intro p e s m args below meth c s₁ B hml hv
  obtain ⟨rfl, hsz, hP, hK, hN, hD0⟩ := hv
  have hx := B.exec
  have hb := B.bytes
  have hr := B.returns
  have hts0 := atoms_spec (ws := kwX4_finish) B.pre
  have hts : ∀ w ∈ kwA, w.before _ s = true := fun w h => hts0 w (List.mem_cons_of_mem _ h)
  have hown : s.vm.findClass kRX4 = some m.cls := findClass_of_methodNamed B.named
  have hlocks := B.notSynchronized
  subst hsz
  have hD := hD0.self (sz := s.heap.size)
  generalize hAe : va_A (kWX4_finish cB cI cL cBB cII cSh h_this a_this this_rate this_place f_this_lanes f_this_moved f_this_columns f_this_turns f_this_targets f_this_roundConstants) s.heap.size = A at hD ⊢
  have hA : ∀ q : Nat, s.heap.size ≤ q → A q := fun q h => by rw [← hAe]; exact Or.inr h
  have hS : va_S A s.heap s.heap [] := va_S.rf
  have C0 : CallFix p m c prog_6_method_8_code 2 s _ kwA kRX4 := ⟨hx, hb, hml, hown, hts⟩
  have hl := lv_entry ([.ref h_this, .int p1]) (n := 2) (Nat.le_of_ble_eq_true rfl)
  rw [lg_entry_eq]
  generalize (lg_sl ([.ref h_this, .int p1]) ++ List.replicate (2 - (lg_sl ([.ref h_this, .int p1])).length) Slot.unset).toArray = ls at hl ⊢
  have hl : lv_has ls 2 [(0, .ref h_this), (1, .int p1)] := hl
  unfold kFX4_finish at h
  refine lv_aload_n hx hb kdX4_finish_0 rfl (lv_at hl 0 rfl) ?_
  refine lv_aload_n hx hb kdX4_finish_1 rfl (lv_at hl 0 rfl) ?_
  refine va_get (ci := 4) (v := .int this_place) (C := kRX4) (T := kTX4) (N := 8) hx hb hts kinX4 hown hK hP 0 rfl rfl 7 (by decide) (hts _ km_85) (fun _ h9 => h9) rfl kdX4_finish_2 ?_
  refine lv_iload_n hx hb kdX4_finish_5 rfl (lv_at hl 1 rfl) ?_
  obtain ⟨u_2, hu_2, h⟩ := kb_o_s h
  obtain ⟨f_1, rfl⟩ : ∃ z, z = u_2 := ⟨_, rfl⟩
  try dsimp only at h
  have hC := (show ([0, 1] : List Nat).map (fun i : Nat => (kWX4_finish cB cI cL cBB cII cSh h_this a_this this_rate this_place f_this_lanes f_this_moved f_this_columns f_this_turns f_this_targets f_this_roundConstants)[i]?) = List.map some (kWX4_mixIn cB cI cL cBB cII cSh h_this a_this this_rate this_place f_this_lanes) from rfl)
  have hPc := kb_Psub hP ([0, 1] : List Nat) hC
  have hDc := kb_Dsub hD ([0, 1] : List Nat) hC (by simp [kb_nd])
  refine kb_call0 (va_runV (As := [.int this_place, .int p1]) (rest := []) C0 (kcX4_mixIn l D cB cI cL cBB cII cSh h_this a_this _ this_place p1 this_rate this_place f_this_lanes f_1 hu_2) (cwV 2 hts (kb_gV km_391 km_393 kp_19 km_4 km_394) rfl rfl rfl (by decide +kernel) ⟨Nat.le_of_ble_eq_true rfl, Nat.le_of_ble_eq_true rfl⟩) ⟨kb_P_bl, va_recv hK hP (ci := 4) (q0 := 0) rfl rfl, (fun U hU hW => ⟨rfl, by rw [hU], by rw [hU]; exact hPc, va_K.moved hW.alike hK, kb_N_to hW hN, hDc.weaken (fun _ _ _ _ => trivial)⟩)⟩ rfl rfl hl.1 rfl (lv_room (Nat.le_of_ble_eq_true rfl)) kdX4_finish_6 ⟨Nat.le_of_ble_eq_true rfl, Nat.le_of_ble_eq_true rfl⟩) hP hD hS hA ([0, 1] : List Nat) hC rfl (fun H locs hP hD hS => ?_)
  have hP : va_P D kCl (kWX4_finish cB cI cL cBB cII cSh h_this a_this this_rate this_place f_1 f_this_moved f_this_columns f_this_turns f_this_targets f_this_roundConstants) H := hP
  have hD : va_D A (kWX4_finish cB cI cL cBB cII cSh h_this a_this this_rate this_place f_1 f_this_moved f_this_columns f_this_turns f_this_targets f_this_roundConstants) := hD
  refine lv_aload_n hx hb kdX4_finish_9 rfl (lv_at hl 0 rfl) ?_
  refine lv_aload_n hx hb kdX4_finish_10 rfl (lv_at hl 0 rfl) ?_
  refine va_get (ci := 4) (v := .int this_rate) (C := kRX4) (T := kTX4) (N := 8) hx hb hts kinX4 hown hK hP 0 rfl rfl 6 (by decide) (hts _ km_84) (fun _ h9 => h9) rfl kdX4_finish_11 ?_
  refine lv_iconst (v := 1) hx hb kdX4_finish_14 (by decide) ?_
  refine lv_isub hx hb kdX4_finish_15 ?_
  refine lv_sipush (v := 128) hx hb kdX4_finish_16 (by decide) ?_
  obtain ⟨u_4, hu_4, h⟩ := kb_o_s h
  obtain ⟨f_3, rfl⟩ : ∃ z, z = u_4 := ⟨_, rfl⟩
  try dsimp only at h
  have hC := (show ([0, 1] : List Nat).map (fun i : Nat => (kWX4_finish cB cI cL cBB cII cSh h_this a_this this_rate this_place f_1 f_this_moved f_this_columns f_this_turns f_this_targets f_this_roundConstants)[i]?) = List.map some (kWX4_mixIn cB cI cL cBB cII cSh h_this a_this this_rate this_place f_1) from rfl)
  have hPc := kb_Psub hP ([0, 1] : List Nat) hC
  have hDc := kb_Dsub hD ([0, 1] : List Nat) hC (by simp [kb_nd])
  refine kb_call0 (va_runV (As := [.int (this_rate - (1 : Int32)), .int (128 : Int32)]) (rest := []) C0 (kcX4_mixIn l D cB cI cL cBB cII cSh h_this a_this _ (this_rate - (1 : Int32)) (128 : Int32) this_rate this_place f_1 f_3 hu_4) (cwV 2 hts (kb_gV km_391 km_393 kp_19 km_4 km_394) rfl rfl rfl (by decide +kernel) ⟨Nat.le_of_ble_eq_true rfl, Nat.le_of_ble_eq_true rfl⟩) ⟨kb_P_bl, va_recv hK hP (ci := 4) (q0 := 0) rfl rfl, (fun U hU hW => ⟨rfl, by rw [hU], by rw [hU]; exact hPc, va_K.moved hW.alike hK, kb_N_to hW hN, hDc.weaken (fun _ _ _ _ => trivial)⟩)⟩ rfl rfl hl.1 rfl (lv_room (Nat.le_of_ble_eq_true rfl)) kdX4_finish_19 ⟨Nat.le_of_ble_eq_true rfl, Nat.le_of_ble_eq_true rfl⟩) hP hD hS hA ([0, 1] : List Nat) hC rfl (fun H locs hP hD hS => ?_)
  have hP : va_P D kCl (kWX4_finish cB cI cL cBB cII cSh h_this a_this this_rate this_place f_3 f_this_moved f_this_columns f_this_turns f_this_targets f_this_roundConstants) H := hP
  have hD : va_D A (kWX4_finish cB cI cL cBB cII cSh h_this a_this this_rate this_place f_3 f_this_moved f_this_columns f_this_turns f_this_targets f_this_roundConstants) := hD
  refine lv_aload_n hx hb kdX4_finish_22 rfl (lv_at hl 0 rfl) ?_
  obtain ⟨u_8, hu_8, h⟩ := kb_o_s h
  obtain ⟨f_5, f_6, f_7⟩ := u_8
  try dsimp only at h
  have hC := (show ([0, 1, 2, 3, 4, 5, 6] : List Nat).map (fun i : Nat => (kWX4_finish cB cI cL cBB cII cSh h_this a_this this_rate this_place f_3 f_this_moved f_this_columns f_this_turns f_this_targets f_this_roundConstants)[i]?) = List.map some (kWX4_permute cB cI cL cBB cII cSh h_this a_this this_rate this_place f_3 f_this_moved f_this_columns f_this_turns f_this_targets f_this_roundConstants) from rfl)
  have hPc := kb_Psub hP ([0, 1, 2, 3, 4, 5, 6] : List Nat) hC
  have hDc := kb_Dsub hD ([0, 1, 2, 3, 4, 5, 6] : List Nat) hC (by simp [kb_nd])
  refine kb_call0 (va_runV (As := []) (rest := []) C0 (kcX4_permute l D cB cI cL cBB cII cSh h_this a_this _ this_rate this_place f_3 f_this_moved f_this_columns f_this_turns f_this_targets f_this_roundConstants (f_5, f_6, f_7) hu_8) (cwV 0 hts (kb_gV km_396 km_398 kp_20 km_4 km_399) rfl rfl rfl (by decide +kernel) ⟨Nat.le_of_ble_eq_true rfl, Nat.le_of_ble_eq_true rfl⟩) ⟨kb_P_bl, va_recv hK hP (ci := 4) (q0 := 0) rfl rfl, (fun U hU hW => ⟨rfl, by rw [hU], by rw [hU]; exact hPc, va_K.moved hW.alike hK, kb_N_to hW hN, hDc.weaken (fun _ _ _ _ => trivial)⟩)⟩ rfl rfl hl.1 rfl (lv_room (Nat.le_of_ble_eq_true rfl)) kdX4_finish_23 ⟨Nat.le_of_ble_eq_true rfl, Nat.le_of_ble_eq_true rfl⟩) hP hD hS hA ([0, 1, 2, 3, 4, 5, 6] : List Nat) hC rfl (fun H locs hP hD hS => ?_)
  have hP : va_P D kCl (kWX4_finish cB cI cL cBB cII cSh h_this a_this this_rate this_place f_5 f_6 f_7 f_this_turns f_this_targets f_this_roundConstants) H := hP
  have hD : va_D A (kWX4_finish cB cI cL cBB cII cSh h_this a_this this_rate this_place f_5 f_6 f_7 f_this_turns f_this_targets f_this_roundConstants) := hD
  refine lv_aload_n hx hb kdX4_finish_26 rfl (lv_at hl 0 rfl) ?_
  refine lv_iconst (v := 0) hx hb kdX4_finish_27 (by decide) ?_
  refine va_put (ci := 4) (v := .int (0 : Int32)) (C := kRX4) (T := kTX4) (N := 8) hx hb hts kinX4 ktyX4 ktyX4_ok knX4 hown hK hP hD hS 0 rfl rfl 7 (by decide) (hts _ km_85) (fun _ h9 => h9) rfl (ktyX4_ok 7 (by decide)) rfl rfl (Nat.le_of_ble_eq_true rfl) kdX4_finish_28 (fun H locs hP hD hS => ?_)
  have hP : va_P D kCl (kWX4_finish cB cI cL cBB cII cSh h_this a_this this_rate (0 : Int32) f_5 f_6 f_7 f_this_turns f_this_targets f_this_roundConstants) H := hP
  have hD : va_D A (kWX4_finish cB cI cL cBB cII cSh h_this a_this this_rate (0 : Int32) f_5 f_6 f_7 f_this_turns f_this_targets f_this_roundConstants) := hD
  obtain rfl := Option.some.inj h
  exact W.vret hx hb hr (fun t ht hW => ⟨⟨rfl, by rw [ht]; exact hP, va_K.moved hW.alike hK, hD⟩, hS.F ht⟩) hS.2.2 kdX4_finish_31

-- 485.ModuleKem.Sponge.give.lean.txt
abbrev kWX4_give (cB cI cL cBB cII cSh : ClassId) (h_this : Nat) (a_this : Nat → Nat) (h_a1 : Nat) (n_a1 : Nat) (this_rate : Int32) (this_place : Int32) (f_this_lanes : Nat → Int64) (f_this_moved : Nat → Int64) (f_this_columns : Nat → Int64) (f_this_turns : Nat → Int32) (f_this_targets : Nat → Int32) (f_this_roundConstants : Nat → Int64) (f_a1 : Nat → Int32) : va_W := [(h_this, koX4 a_this this_rate this_place), ((a_this 0), .inl (cL, 25, .inr (.inl f_this_lanes))), ((a_this 1), .inl (cL, 25, .inr (.inl f_this_moved))), ((a_this 2), .inl (cL, 5, .inr (.inl f_this_columns))), ((a_this 3), .inl (cI, 25, .inl f_this_turns)), ((a_this 4), .inl (cI, 25, .inl f_this_targets)), ((a_this 5), .inl (cL, 24, .inr (.inl f_this_roundConstants))), (h_a1, .inl (cB, n_a1, .inl f_a1))]
def krX4_give : Room := { frames := 1, cells := 0, slots := 0, locals := 32 }
set_option maxHeartbeats 4000000 in
set_option maxRecDepth 100000 in
theorem klX4_give_3 {p : Program} {l : Launch} {e : Env} {s : State} {m : MethodId} {args : Array Value} {below : List Frame} {meth : Method} {c : Code} {cells slots : Nat} {Q : State → Prop} {D : va_G} {cB cI cL cBB cII cSh : ClassId} {A : Nat → Prop} (C0 : CallFix p m c prog_6_method_9_code 5 s args kwA kRX4) (hlocks : meth.locks = false) (hK : va_K D kCl (kb_T cB cI cL cBB cII cSh) s) (hN : kb_N s) (hA : ∀ q, s.heap.size ≤ q → A q) (hcR : cells ≤ krX4_give.cells) (hsR : slots ≤ krX4_give.slots) (h_this h_a1 : Nat) (a_this : Nat → Nat) (p2 : Int32) (p3 : Int32) (n_a1 : Nat) (this_rate : Int32) (f_this_turns : Nat → Int32) (f_this_targets : Nat → Int32) (f_this_roundConstants : Nat → Int64) :
    ∀ (fuel : Nat) (x4p3 : Int32) (f_a1p3 : Nat → Int32) (this_placep3 : Int32) (f_this_columnsp3 : Nat → Int64) (f_this_lanesp3 : Nat → Int64) (f_this_movedp3 : Nat → Int64) (r : Int32 × (Nat → Int32) × Int32 × (Nat → Int64) × (Nat → Int64) × (Nat → Int64)), kb_w (fun u : Int32 × (Nat → Int32) × Int32 × (Nat → Int64) × (Nat → Int64) × (Nat → Int64) => kSX4_give_3 p2 p3 n_a1 this_rate f_this_turns f_this_targets f_this_roundConstants u.1 u.2.1 u.2.2.1 u.2.2.2.1 u.2.2.2.2.1 u.2.2.2.2.2) fuel (x4p3, f_a1p3, this_placep3, f_this_columnsp3, f_this_lanesp3, f_this_movedp3) = some r → ∀ (H : Heap) (locs : List Loc) (ls : Array Slot), va_P D kCl (kWX4_give cB cI cL cBB cII cSh h_this a_this h_a1 n_a1 this_rate this_placep3 f_this_lanesp3 f_this_movedp3 f_this_columnsp3 f_this_turns f_this_targets f_this_roundConstants f_a1p3) H → va_D A (kWX4_give cB cI cL cBB cII cSh h_this a_this h_a1 n_a1 this_rate this_placep3 f_this_lanesp3 f_this_movedp3 f_this_columnsp3 f_this_turns f_this_targets f_this_roundConstants f_a1p3) → va_S A s.heap H locs → lv_has ls 5 [(0, .ref h_this), (1, .ref h_a1), (2, .int p2), (3, .int p3), (4, .int x4p3)] → (∀ (x4p3' : Int32) (f_a1p3' : Nat → Int32) (this_placep3' : Int32) (f_this_columnsp3' : Nat → Int64) (f_this_lanesp3' : Nat → Int64) (f_this_movedp3' : Nat → Int64), r = (x4p3', f_a1p3', this_placep3', f_this_columnsp3', f_this_lanesp3', f_this_movedp3') → ∀ (H : Heap) (locs : List Loc) (ls : Array Slot), va_P D kCl (kWX4_give cB cI cL cBB cII cSh h_this a_this h_a1 n_a1 this_rate this_placep3' f_this_lanesp3' f_this_movedp3' f_this_columnsp3' f_this_turns f_this_targets f_this_roundConstants f_a1p3') H → va_D A (kWX4_give cB cI cL cBB cII cSh h_this a_this h_a1 n_a1 this_rate this_placep3' f_this_lanesp3' f_this_movedp3' f_this_columnsp3' f_this_turns f_this_targets f_this_roundConstants f_a1p3') → va_S A s.heap H locs → lv_has ls 5 [(0, .ref h_this), (1, .ref h_a1), (2, .int p2), (3, .int p3), (4, .int x4p3')] → W p l e krX4_give s m args below meth c H locs cells slots Q (F0 m 75 ls [])) → W p l e krX4_give s m args below meth c H locs cells slots Q (F0 m 3 ls []) := by
  obtain ⟨hx, hb, hml, hown, hts⟩ := id C0
  intro fuel
  induction fuel with
  | zero =>
    intro x4p3 f_a1p3 this_placep3 f_this_columnsp3 f_this_lanesp3 f_this_movedp3 r h
    exact absurd h (kb_w_z _ _ _)
  | succ fuel ih =>
    intro x4p3 f_a1p3 this_placep3 f_this_columnsp3 f_this_lanesp3 f_this_movedp3 r h H locs ls hP hD hS hl hk0
    obtain ⟨o, h, ho⟩ := kb_w_s h
    have h : kSX4_give_3 p2 p3 n_a1 this_rate f_this_turns f_this_targets f_this_roundConstants x4p3 f_a1p3 this_placep3 f_this_columnsp3 f_this_lanesp3 f_this_movedp3 = some o := h
    unfold kSX4_give_3 at h
    refine lv_iload hx hb kdX4_give_3 (lv_at hl 4 rfl) ?_
    refine lv_iload_n hx hb kdX4_give_5 rfl (lv_at hl 3 rfl) ?_
    refine lv_icmp_ge (tgt := 75) hx hb kdX4_give_6 (by decide) (fun c_1 => ?_) (fun c_1 => ?_)
    · have h := kb_b_t c_1 h
      obtain rfl := Option.some.inj h
      exact hk0 x4p3 f_a1p3 this_placep3 f_this_columnsp3 f_this_lanesp3 f_this_movedp3 ho.symm _ _ _ hP hD hS (lv_sub hl [0, 1, 2, 3, 4] rfl)
    · have h := kb_b_f c_1 h
      refine lv_aload_n hx hb kdX4_give_9 rfl (lv_at hl 0 rfl) ?_
      refine va_get (ci := 4) (v := .int this_placep3) (C := kRX4) (T := kTX4) (N := 8) hx hb hts kinX4 hown hK hP 0 rfl rfl 7 (by decide) (hts _ km_85) (fun _ h9 => h9) rfl kdX4_give_10 ?_
      refine lv_aload_n hx hb kdX4_give_13 rfl (lv_at hl 0 rfl) ?_
      refine va_get (ci := 4) (v := .int this_rate) (C := kRX4) (T := kTX4) (N := 8) hx hb hts kinX4 hown hK hP 0 rfl rfl 6 (by decide) (hts _ km_84) (fun _ h9 => h9) rfl kdX4_give_14 ?_
      refine lv_icmp_ne (tgt := 29) hx hb kdX4_give_17 (by decide) (fun c_2 => ?_) (fun c_2 => ?_)
      · have h := kb_b_f c_2 h
        refine lv_aload_n hx hb kdX4_give_29 rfl (lv_at hl 1 rfl) ?_
        refine lv_iload_n hx hb kdX4_give_30 rfl (lv_at hl 2 rfl) ?_
        refine lv_iload hx hb kdX4_give_31 (lv_at hl 4 rfl) ?_
        refine lv_iadd hx hb kdX4_give_33 ?_
        refine lv_aload_n hx hb kdX4_give_34 rfl (lv_at hl 0 rfl) ?_
        refine va_get (ci := 4) (v := .ref (a_this 0)) (C := kRX4) (T := kTX4) (N := 8) hx hb hts kinX4 hown hK hP 0 rfl rfl 0 (by decide) (hts _ km_78) (fun _ h9 => h9) rfl kdX4_give_35 ?_
        refine lv_aload_n hx hb kdX4_give_38 rfl (lv_at hl 0 rfl) ?_
        refine va_get (ci := 4) (v := .int this_placep3) (C := kRX4) (T := kTX4) (N := 8) hx hb hts kinX4 hown hK hP 0 rfl rfl 7 (by decide) (hts _ km_85) (fun _ h9 => h9) rfl kdX4_give_39 ?_
        refine lv_iconst (v := 3) hx hb kdX4_give_42 (by decide) ?_
        refine lv_ishr hx hb kdX4_give_43 ?_
        obtain ⟨g_3, h⟩ := kb_g_s h
        refine va_lald hx hb hK hP 1 2 rfl rfl (kb_in_v g_3) kdX4_give_44 ?_
        refine lv_bipush (v := 8) hx hb kdX4_give_45 (by decide) ?_
        refine lv_aload_n hx hb kdX4_give_47 rfl (lv_at hl 0 rfl) ?_
        refine va_get (ci := 4) (v := .int this_placep3) (C := kRX4) (T := kTX4) (N := 8) hx hb hts kinX4 hown hK hP 0 rfl rfl 7 (by decide) (hts _ km_85) (fun _ h9 => h9) rfl kdX4_give_48 ?_
        refine lv_bipush (v := 7) hx hb kdX4_give_51 (by decide) ?_
        refine lv_iand hx hb kdX4_give_53 ?_
        refine lv_imul hx hb kdX4_give_54 ?_
        refine lv_lushr (v := (((f_this_lanesp3 (this_placep3 >>> ((3 : Int32) &&& 31)).toNatClampNeg).toUInt64 >>> (((8 : Int32) * (this_placep3 &&& (7 : Int32))).toInt64.toUInt64 &&& Int64.toUInt64 63)).toInt64)) hx hb kdX4_give_55 rfl ?_
        refine lv_l2i (v := ((((f_this_lanesp3 (this_placep3 >>> ((3 : Int32) &&& 31)).toNatClampNeg).toUInt64 >>> (((8 : Int32) * (this_placep3 &&& (7 : Int32))).toInt64.toUInt64 &&& Int64.toUInt64 63)).toInt64).toInt32)) hx hb kdX4_give_56 rfl ?_
        refine lv_i2b (v := (((((f_this_lanesp3 (this_placep3 >>> ((3 : Int32) &&& 31)).toNatClampNeg).toUInt64 >>> (((8 : Int32) * (this_placep3 &&& (7 : Int32))).toInt64.toUInt64 &&& Int64.toUInt64 63)).toInt64).toInt32).toInt8.toInt32)) hx hb kdX4_give_57 rfl ?_
        obtain ⟨g_4, h⟩ := kb_g_s h
        refine va_bast hx hb hK hP hD hS 7 0 rfl rfl (kb_in_v g_4) kdX4_give_58 (fun H locs hP hD hS => ?_)
        obtain ⟨f_5, ef_5⟩ : ∃ y, y = upd f_a1p3 (p2 + x4p3).toNatClampNeg (vp_nar .byte (((((f_this_lanesp3 (this_placep3 >>> ((3 : Int32) &&& 31)).toNatClampNeg).toUInt64 >>> (((8 : Int32) * (this_placep3 &&& (7 : Int32))).toInt64.toUInt64 &&& Int64.toUInt64 63)).toInt64).toInt32).toInt8.toInt32)) := ⟨_, rfl⟩
        have h := kb_n_s ef_5 h
        have hP : va_P D kCl (kWX4_give cB cI cL cBB cII cSh h_this a_this h_a1 n_a1 this_rate this_placep3 f_this_lanesp3 f_this_movedp3 f_this_columnsp3 f_this_turns f_this_targets f_this_roundConstants f_5) H := by rw [ef_5]; exact hP
        have hD : va_D A (kWX4_give cB cI cL cBB cII cSh h_this a_this h_a1 n_a1 this_rate this_placep3 f_this_lanesp3 f_this_movedp3 f_this_columnsp3 f_this_turns f_this_targets f_this_roundConstants f_5) := by rw [ef_5]; exact hD
        refine lv_aload_n hx hb kdX4_give_59 rfl (lv_at hl 0 rfl) ?_
        refine lv_dup hx hb kdX4_give_60 rfl ?_
        refine va_get (ci := 4) (v := .int this_placep3) (C := kRX4) (T := kTX4) (N := 8) hx hb hts kinX4 hown hK hP 0 rfl rfl 7 (by decide) (hts _ km_85) (fun _ h9 => h9) rfl kdX4_give_61 ?_
        refine lv_iconst (v := 1) hx hb kdX4_give_64 (by decide) ?_
        refine lv_iadd hx hb kdX4_give_65 ?_
        refine lv_topi (fun w_6 ew_6 => ?_)
        have h := kb_n_s ew_6 h
        refine va_put (ci := 4) (v := .int w_6) (C := kRX4) (T := kTX4) (N := 8) hx hb hts kinX4 ktyX4 ktyX4_ok knX4 hown hK hP hD hS 0 rfl rfl 7 (by decide) (hts _ km_85) (fun _ h9 => h9) rfl (ktyX4_ok 7 (by decide)) rfl rfl (Nat.le_of_ble_eq_true rfl) kdX4_give_66 (fun H locs hP hD hS => ?_)
        have hP : va_P D kCl (kWX4_give cB cI cL cBB cII cSh h_this a_this h_a1 n_a1 this_rate w_6 f_this_lanesp3 f_this_movedp3 f_this_columnsp3 f_this_turns f_this_targets f_this_roundConstants f_5) H := hP
        have hD : va_D A (kWX4_give cB cI cL cBB cII cSh h_this a_this h_a1 n_a1 this_rate w_6 f_this_lanesp3 f_this_movedp3 f_this_columnsp3 f_this_turns f_this_targets f_this_roundConstants f_5) := hD
        obtain ⟨x4_7, ex4_7⟩ : ∃ y : Int32, y = x4p3 + Int32.ofInt 1 := ⟨_, rfl⟩
        have h := kb_n_s ex4_7 h
        refine lv_iinc (v := x4_7) (lv' := [(4, .int x4_7), (0, .ref h_this), (1, .ref h_a1), (2, .int p2), (3, .int p3)]) hx hb kdX4_give_69 hl (k := 4) rfl ex4_7.symm (by decide) rfl (fun ls hl => ?_)
        refine lv_goto (tgt := 3) hx hb kdX4_give_72 (by decide) ?_
        obtain rfl := Option.some.inj h
        exact ih x4_7 f_5 w_6 f_this_columnsp3 f_this_lanesp3 f_this_movedp3 r ho _ _ _ hP hD hS (lv_sub hl [1, 2, 3, 4, 0] rfl) hk0
      · have h := kb_b_t c_2 h
        refine lv_aload_n hx hb kdX4_give_20 rfl (lv_at hl 0 rfl) ?_
        obtain ⟨u_11, hu_11, h⟩ := kb_o_s h
        obtain ⟨f_8, f_9, f_10⟩ := u_11
        try dsimp only at h
        have hC := (show ([0, 1, 2, 3, 4, 5, 6] : List Nat).map (fun i : Nat => (kWX4_give cB cI cL cBB cII cSh h_this a_this h_a1 n_a1 this_rate this_placep3 f_this_lanesp3 f_this_movedp3 f_this_columnsp3 f_this_turns f_this_targets f_this_roundConstants f_a1p3)[i]?) = List.map some (kWX4_permute cB cI cL cBB cII cSh h_this a_this this_rate this_placep3 f_this_lanesp3 f_this_movedp3 f_this_columnsp3 f_this_turns f_this_targets f_this_roundConstants) from rfl)
        have hPc := kb_Psub hP ([0, 1, 2, 3, 4, 5, 6] : List Nat) hC
        have hDc := kb_Dsub hD ([0, 1, 2, 3, 4, 5, 6] : List Nat) hC (by simp [kb_nd])
        refine kb_call0 (va_runV (As := []) (rest := []) C0 (kcX4_permute l D cB cI cL cBB cII cSh h_this a_this _ this_rate this_placep3 f_this_lanesp3 f_this_movedp3 f_this_columnsp3 f_this_turns f_this_targets f_this_roundConstants (f_8, f_9, f_10) hu_11) (cwV 0 hts (kb_gV km_396 km_398 kp_20 km_4 km_399) rfl rfl rfl (by decide +kernel) ⟨Nat.le_of_ble_eq_true rfl, Nat.le_of_ble_eq_true rfl⟩) ⟨kb_P_bl, va_recv hK hP (ci := 4) (q0 := 0) rfl rfl, (fun U hU hW => ⟨rfl, by rw [hU], by rw [hU]; exact hPc, va_K.moved hW.alike hK, kb_N_to hW hN, hDc.weaken (fun _ _ _ _ => trivial)⟩)⟩ rfl rfl hl.1 rfl (lv_room (Nat.le_of_ble_eq_true rfl)) kdX4_give_21 ⟨hcR, hsR⟩) hP hD hS hA ([0, 1, 2, 3, 4, 5, 6] : List Nat) hC rfl (fun H locs hP hD hS => ?_)
        have hP : va_P D kCl (kWX4_give cB cI cL cBB cII cSh h_this a_this h_a1 n_a1 this_rate this_placep3 f_8 f_9 f_10 f_this_turns f_this_targets f_this_roundConstants f_a1p3) H := hP
        have hD : va_D A (kWX4_give cB cI cL cBB cII cSh h_this a_this h_a1 n_a1 this_rate this_placep3 f_8 f_9 f_10 f_this_turns f_this_targets f_this_roundConstants f_a1p3) := hD
        refine lv_aload_n hx hb kdX4_give_24 rfl (lv_at hl 0 rfl) ?_
        refine lv_iconst (v := 0) hx hb kdX4_give_25 (by decide) ?_
        refine va_put (ci := 4) (v := .int (0 : Int32)) (C := kRX4) (T := kTX4) (N := 8) hx hb hts kinX4 ktyX4 ktyX4_ok knX4 hown hK hP hD hS 0 rfl rfl 7 (by decide) (hts _ km_85) (fun _ h9 => h9) rfl (ktyX4_ok 7 (by decide)) rfl rfl (Nat.le_of_ble_eq_true rfl) kdX4_give_26 (fun H locs hP hD hS => ?_)
        have hP : va_P D kCl (kWX4_give cB cI cL cBB cII cSh h_this a_this h_a1 n_a1 this_rate (0 : Int32) f_8 f_9 f_10 f_this_turns f_this_targets f_this_roundConstants f_a1p3) H := hP
        have hD : va_D A (kWX4_give cB cI cL cBB cII cSh h_this a_this h_a1 n_a1 this_rate (0 : Int32) f_8 f_9 f_10 f_this_turns f_this_targets f_this_roundConstants f_a1p3) := hD
        refine lv_aload_n hx hb kdX4_give_29 rfl (lv_at hl 1 rfl) ?_
        refine lv_iload_n hx hb kdX4_give_30 rfl (lv_at hl 2 rfl) ?_
        refine lv_iload hx hb kdX4_give_31 (lv_at hl 4 rfl) ?_
        refine lv_iadd hx hb kdX4_give_33 ?_
        refine lv_aload_n hx hb kdX4_give_34 rfl (lv_at hl 0 rfl) ?_
        refine va_get (ci := 4) (v := .ref (a_this 0)) (C := kRX4) (T := kTX4) (N := 8) hx hb hts kinX4 hown hK hP 0 rfl rfl 0 (by decide) (hts _ km_78) (fun _ h9 => h9) rfl kdX4_give_35 ?_
        refine lv_aload_n hx hb kdX4_give_38 rfl (lv_at hl 0 rfl) ?_
        refine va_get (ci := 4) (v := .int (0 : Int32)) (C := kRX4) (T := kTX4) (N := 8) hx hb hts kinX4 hown hK hP 0 rfl rfl 7 (by decide) (hts _ km_85) (fun _ h9 => h9) rfl kdX4_give_39 ?_
        refine lv_iconst (v := 3) hx hb kdX4_give_42 (by decide) ?_
        refine lv_ishr hx hb kdX4_give_43 ?_
        obtain ⟨g_12, h⟩ := kb_g_s h
        refine va_lald hx hb hK hP 1 2 rfl rfl (kb_in_v g_12) kdX4_give_44 ?_
        refine lv_bipush (v := 8) hx hb kdX4_give_45 (by decide) ?_
        refine lv_aload_n hx hb kdX4_give_47 rfl (lv_at hl 0 rfl) ?_
        refine va_get (ci := 4) (v := .int (0 : Int32)) (C := kRX4) (T := kTX4) (N := 8) hx hb hts kinX4 hown hK hP 0 rfl rfl 7 (by decide) (hts _ km_85) (fun _ h9 => h9) rfl kdX4_give_48 ?_
        refine lv_bipush (v := 7) hx hb kdX4_give_51 (by decide) ?_
        refine lv_iand hx hb kdX4_give_53 ?_
        refine lv_imul hx hb kdX4_give_54 ?_
        refine lv_lushr (v := (((f_8 ((0 : Int32) >>> ((3 : Int32) &&& 31)).toNatClampNeg).toUInt64 >>> (((8 : Int32) * ((0 : Int32) &&& (7 : Int32))).toInt64.toUInt64 &&& Int64.toUInt64 63)).toInt64)) hx hb kdX4_give_55 rfl ?_
        refine lv_l2i (v := ((((f_8 ((0 : Int32) >>> ((3 : Int32) &&& 31)).toNatClampNeg).toUInt64 >>> (((8 : Int32) * ((0 : Int32) &&& (7 : Int32))).toInt64.toUInt64 &&& Int64.toUInt64 63)).toInt64).toInt32)) hx hb kdX4_give_56 rfl ?_
        refine lv_i2b (v := (((((f_8 ((0 : Int32) >>> ((3 : Int32) &&& 31)).toNatClampNeg).toUInt64 >>> (((8 : Int32) * ((0 : Int32) &&& (7 : Int32))).toInt64.toUInt64 &&& Int64.toUInt64 63)).toInt64).toInt32).toInt8.toInt32)) hx hb kdX4_give_57 rfl ?_
        obtain ⟨g_13, h⟩ := kb_g_s h
        refine va_bast hx hb hK hP hD hS 7 0 rfl rfl (kb_in_v g_13) kdX4_give_58 (fun H locs hP hD hS => ?_)
        obtain ⟨f_14, ef_14⟩ : ∃ y, y = upd f_a1p3 (p2 + x4p3).toNatClampNeg (vp_nar .byte (((((f_8 ((0 : Int32) >>> ((3 : Int32) &&& 31)).toNatClampNeg).toUInt64 >>> (((8 : Int32) * ((0 : Int32) &&& (7 : Int32))).toInt64.toUInt64 &&& Int64.toUInt64 63)).toInt64).toInt32).toInt8.toInt32)) := ⟨_, rfl⟩
        have h := kb_n_s ef_14 h
        have hP : va_P D kCl (kWX4_give cB cI cL cBB cII cSh h_this a_this h_a1 n_a1 this_rate (0 : Int32) f_8 f_9 f_10 f_this_turns f_this_targets f_this_roundConstants f_14) H := by rw [ef_14]; exact hP
        have hD : va_D A (kWX4_give cB cI cL cBB cII cSh h_this a_this h_a1 n_a1 this_rate (0 : Int32) f_8 f_9 f_10 f_this_turns f_this_targets f_this_roundConstants f_14) := by rw [ef_14]; exact hD
        refine lv_aload_n hx hb kdX4_give_59 rfl (lv_at hl 0 rfl) ?_
        refine lv_dup hx hb kdX4_give_60 rfl ?_
        refine va_get (ci := 4) (v := .int (0 : Int32)) (C := kRX4) (T := kTX4) (N := 8) hx hb hts kinX4 hown hK hP 0 rfl rfl 7 (by decide) (hts _ km_85) (fun _ h9 => h9) rfl kdX4_give_61 ?_
        refine lv_iconst (v := 1) hx hb kdX4_give_64 (by decide) ?_
        refine lv_iadd hx hb kdX4_give_65 ?_
        refine lv_topi (fun w_15 ew_15 => ?_)
        have h := kb_n_s ew_15 h
        refine va_put (ci := 4) (v := .int w_15) (C := kRX4) (T := kTX4) (N := 8) hx hb hts kinX4 ktyX4 ktyX4_ok knX4 hown hK hP hD hS 0 rfl rfl 7 (by decide) (hts _ km_85) (fun _ h9 => h9) rfl (ktyX4_ok 7 (by decide)) rfl rfl (Nat.le_of_ble_eq_true rfl) kdX4_give_66 (fun H locs hP hD hS => ?_)
        have hP : va_P D kCl (kWX4_give cB cI cL cBB cII cSh h_this a_this h_a1 n_a1 this_rate w_15 f_8 f_9 f_10 f_this_turns f_this_targets f_this_roundConstants f_14) H := hP
        have hD : va_D A (kWX4_give cB cI cL cBB cII cSh h_this a_this h_a1 n_a1 this_rate w_15 f_8 f_9 f_10 f_this_turns f_this_targets f_this_roundConstants f_14) := hD
        obtain ⟨x4_16, ex4_16⟩ : ∃ y : Int32, y = x4p3 + Int32.ofInt 1 := ⟨_, rfl⟩
        have h := kb_n_s ex4_16 h
        refine lv_iinc (v := x4_16) (lv' := [(4, .int x4_16), (0, .ref h_this), (1, .ref h_a1), (2, .int p2), (3, .int p3)]) hx hb kdX4_give_69 hl (k := 4) rfl ex4_16.symm (by decide) rfl (fun ls hl => ?_)
        refine lv_goto (tgt := 3) hx hb kdX4_give_72 (by decide) ?_
        obtain rfl := Option.some.inj h
        exact ih x4_16 f_14 w_15 f_10 f_8 f_9 r ho _ _ _ hP hD hS (lv_sub hl [1, 2, 3, 4, 0] rfl) hk0
set_option maxHeartbeats 4000000 in
set_option maxRecDepth 100000 in
theorem kcX4_give (l : Launch) (D : va_G) (cB cI cL cBB cII cSh : ClassId) (h_this h_a1 : Nat) (a_this : Nat → Nat) (sz : Nat) (p2 : Int32) (p3 : Int32) (n_a1 : Nat) (this_rate : Int32) (this_place : Int32) (f_this_lanes : Nat → Int64) (f_this_moved : Nat → Int64) (f_this_columns : Nat → Int64) (f_this_turns : Nat → Int32) (f_this_targets : Nat → Int32) (f_this_roundConstants : Nat → Int64) (f_a1 : Nat → Int32) (out : Int32 × (Nat → Int64) × (Nat → Int64) × (Nat → Int64) × (Nat → Int32)) (h : kFX4_give p2 p3 n_a1 this_rate this_place f_this_lanes f_this_moved f_this_columns f_this_turns f_this_targets f_this_roundConstants f_a1 = some out) : Met l kyX4_give kwX4_give krX4_give (kb_P D kCl (kb_T cB cI cL cBB cII cSh) [.ref h_this, .ref h_a1, .int p2, .int p3] (kWX4_give cB cI cL cBB cII cSh h_this a_this h_a1 n_a1 this_rate this_place f_this_lanes f_this_moved f_this_columns f_this_turns f_this_targets f_this_roundConstants f_a1) sz) (kb_Q D kCl (kb_T cB cI cL cBB cII cSh) (va_A (kWX4_give cB cI cL cBB cII cSh h_this a_this h_a1 n_a1 this_rate this_place f_this_lanes f_this_moved f_this_columns f_this_turns f_this_targets f_this_roundConstants f_a1) sz) none (kWX4_give cB cI cL cBB cII cSh h_this a_this h_a1 n_a1 this_rate out.1 out.2.1 out.2.2.1 out.2.2.2.1 f_this_turns f_this_targets f_this_roundConstants out.2.2.2.2)) 0 0 (va_A (kWX4_give cB cI cL cBB cII cSh h_this a_this h_a1 n_a1 this_rate this_place f_this_lanes f_this_moved f_this_columns f_this_turns f_this_targets f_this_roundConstants f_a1) sz) := by
  refine Met.ofW (cc := prog_6_method_9_code) (maxL := 5) (ret := none) (by decide) rfl ?_
  intro p e s m args below meth c s₁ B hml hv
  obtain ⟨rfl, hsz, hP, hK, hN, hD0⟩ := hv
  have hx := B.exec
  have hb := B.bytes
  have hr := B.returns
  have hts0 := atoms_spec (ws := kwX4_give) B.pre
  have hts : ∀ w ∈ kwA, w.before _ s = true := fun w h => hts0 w (List.mem_cons_of_mem _ h)
  have hown : s.vm.findClass kRX4 = some m.cls := findClass_of_methodNamed B.named
  have hlocks := B.notSynchronized
  subst hsz
  have hD := hD0.self (sz := s.heap.size)
  generalize hAe : va_A (kWX4_give cB cI cL cBB cII cSh h_this a_this h_a1 n_a1 this_rate this_place f_this_lanes f_this_moved f_this_columns f_this_turns f_this_targets f_this_roundConstants f_a1) s.heap.size = A at hD ⊢
  have hA : ∀ q : Nat, s.heap.size ≤ q → A q := fun q h => by rw [← hAe]; exact Or.inr h
  have hS : va_S A s.heap s.heap [] := va_S.rf
  have C0 : CallFix p m c prog_6_method_9_code 5 s _ kwA kRX4 := ⟨hx, hb, hml, hown, hts⟩
  have hl := lv_entry ([.ref h_this, .ref h_a1, .int p2, .int p3]) (n := 5) (Nat.le_of_ble_eq_true rfl)
  rw [lg_entry_eq]
  generalize (lg_sl ([.ref h_this, .ref h_a1, .int p2, .int p3]) ++ List.replicate (5 - (lg_sl ([.ref h_this, .ref h_a1, .int p2, .int p3])).length) Slot.unset).toArray = ls at hl ⊢
  have hl : lv_has ls 5 [(0, .ref h_this), (1, .ref h_a1), (2, .int p2), (3, .int p3)] := hl
  unfold kFX4_give at h
  refine lv_iconst (v := 0) hx hb kdX4_give_0 (by decide) ?_
  refine lv_istore (lv' := [(4, .int (0 : Int32)), (0, .ref h_this), (1, .ref h_a1), (2, .int p2), (3, .int p3)]) hx hb kdX4_give_1 hl (by decide) rfl (fun ls hl => ?_)
  obtain ⟨r_23, hr_23, h⟩ := kb_o_s h
  refine klX4_give_3 C0 hlocks hK hN hA (by decide) (by decide) h_this h_a1 a_this p2 p3 n_a1 this_rate f_this_turns f_this_targets f_this_roundConstants 100000 (0 : Int32) f_a1 this_place f_this_columns f_this_lanes f_this_moved r_23 hr_23 _ _ _ hP hD hS (lv_sub hl [1, 2, 3, 4, 0] rfl) (fun x4p3_17 f_a1p3_18 this_placep3_19 f_this_columnsp3_20 f_this_lanesp3_21 f_this_movedp3_22 er_23 H locs ls hP hD hS hl => ?_)
  subst er_23
  try dsimp only at h
  obtain rfl := Option.some.inj h
  exact W.vret hx hb hr (fun t ht hW => ⟨⟨rfl, by rw [ht]; exact hP, va_K.moved hW.alike hK, hD⟩, hS.F ht⟩) hS.2.2 kdX4_give_75

-- 486.ModuleKemModel.put.lean.txt
abbrev kWX5_put (cB cI cL cBB cII cSh : ClassId) (h_this : Nat) (a_this : Nat → Nat) (this_taped : Int32) (this_code : Int32) (this_kind : Int32) (this_rate : Int32) (this_filled : Int32) (this_total : Int64) (this_bitAt : Int32) (this_k : Int32) (this_e1 : Int32) (this_du : Int32) (this_dv : Int32) (f_this_cubes : Nat → Int64) (f_this_turns : Nat → Int32) (f_this_round : Nat → Int64) (f_this_state : Nat → Int64) (f_this_other : Nat → Int64) (f_this_column : Nat → Int64) (f_this_words : Nat → Int64) (f_this_block : Nat → Int32) : va_W := [(h_this, koX5 a_this this_taped this_code this_kind this_rate this_filled this_total this_bitAt this_k this_e1 this_du this_dv), ((a_this 6), .inl (cL, 80, .inr (.inl f_this_cubes))), ((a_this 11), .inl (cI, 25, .inl f_this_turns)), ((a_this 12), .inl (cL, 24, .inr (.inl f_this_round))), ((a_this 13), .inl (cL, 25, .inr (.inl f_this_state))), ((a_this 14), .inl (cL, 25, .inr (.inl f_this_other))), ((a_this 15), .inl (cL, 5, .inr (.inl f_this_column))), ((a_this 16), .inl (cL, 80, .inr (.inl f_this_words))), ((a_this 17), .inl (cB, 128, .inl f_this_block))]
def krX5_put : Room := { frames := 2, cells := 0, slots := 0, locals := 63 }
set_option maxHeartbeats 4000000 in
set_option maxRecDepth 100000 in
theorem kjX5_put_30 {p : Program} {l : Launch} {e : Env} {s : State} {m : MethodId} {args : Array Value} {below : List Frame} {meth : Method} {c : Code} {D : va_G} {cB cI cL cBB cII cSh : ClassId} {A : Nat → Prop} (C0 : CallFix p m c prog_8_method_27_code 2 s args kwA kRX5) (hlocks : meth.locks = false) (hr : meth.sig.returnType = none) (hK : va_K D kCl (kb_T cB cI cL cBB cII cSh) s) (hN : kb_N s) (hA : ∀ q, s.heap.size ≤ q → A q) (h_this : Nat) (a_this : Nat → Nat) (this_taped : Int32) (this_code : Int32) (this_kind : Int32) (this_rate : Int32) (this_filledj30 : Int32) (this_totalj30 : Int64) (this_bitAt : Int32) (this_k : Int32) (this_e1 : Int32) (this_du : Int32) (this_dv : Int32) (f_this_cubes : Nat → Int64) (f_this_turns : Nat → Int32) (f_this_round : Nat → Int64) (f_this_statej30 : Nat → Int64) (f_this_otherj30 : Nat → Int64) (f_this_columnj30 : Nat → Int64) (f_this_wordsj30 : Nat → Int64) (f_this_blockj30 : Nat → Int32) (out : Int32 × Int64 × (Nat → Int64) × (Nat → Int64) × (Nat → Int64) × (Nat → Int64) × (Nat → Int32)) (h : kJX5_put_30 this_kind this_rate this_filledj30 this_totalj30 f_this_cubes f_this_turns f_this_round f_this_statej30 f_this_otherj30 f_this_columnj30 f_this_wordsj30 f_this_blockj30 = some out) (H : Heap) (locs : List Loc) (ls : Array Slot) (hP : va_P D kCl (kWX5_put cB cI cL cBB cII cSh h_this a_this this_taped this_code this_kind this_rate this_filledj30 this_totalj30 this_bitAt this_k this_e1 this_du this_dv f_this_cubes f_this_turns f_this_round f_this_statej30 f_this_otherj30 f_this_columnj30 f_this_wordsj30 f_this_blockj30) H) (hD : va_D A (kWX5_put cB cI cL cBB cII cSh h_this a_this this_taped this_code this_kind this_rate this_filledj30 this_totalj30 this_bitAt this_k this_e1 this_du this_dv f_this_cubes f_this_turns f_this_round f_this_statej30 f_this_otherj30 f_this_columnj30 f_this_wordsj30 f_this_blockj30)) (hS : va_S A s.heap H locs) (hl : lv_has ls 2 [(0, .ref h_this)]) : W p l e krX5_put s m args below meth c H locs 0 0 (MQ below (kb_Q D kCl (kb_T cB cI cL cBB cII cSh) A none (kWX5_put cB cI cL cBB cII cSh h_this a_this this_taped this_code this_kind this_rate out.1 out.2.1 this_bitAt this_k this_e1 this_du this_dv f_this_cubes f_this_turns f_this_round out.2.2.1 out.2.2.2.1 out.2.2.2.2.1 out.2.2.2.2.2.1 out.2.2.2.2.2.2)) args s 0 0 A) (F0 m 30 ls []) := by
  obtain ⟨hx, hb, hml, hown, hts⟩ := id C0
  unfold kJX5_put_30 at h
  refine lv_aload_n hx hb kdX5_put_30 rfl (lv_at hl 0 rfl) ?_
  refine lv_dup hx hb kdX5_put_31 rfl ?_
  refine va_get (ci := 5) (v := .int this_filledj30) (C := kRX5) (T := kTX5) (N := 35) hx hb hts kinX5 hown hK hP 0 rfl rfl 20 (by decide) (hts _ km_701) (fun _ h9 => h9) rfl kdX5_put_32 ?_
  refine lv_iconst (v := 1) hx hb kdX5_put_35 (by decide) ?_
  refine lv_iadd hx hb kdX5_put_36 ?_
  refine lv_topi (fun w_6 ew_6 => ?_)
  have h := kb_n_s ew_6 h
  refine va_put (ci := 5) (v := .int w_6) (C := kRX5) (T := kTX5) (N := 35) hx hb hts kinX5 ktyX5 ktyX5_ok knX5 hown hK hP hD hS 0 rfl rfl 20 (by decide) (hts _ km_701) (fun _ h9 => h9) rfl (ktyX5_ok 20 (by decide)) rfl rfl (Nat.le_of_ble_eq_true rfl) kdX5_put_37 (fun H locs hP hD hS => ?_)
  have hP : va_P D kCl (kWX5_put cB cI cL cBB cII cSh h_this a_this this_taped this_code this_kind this_rate w_6 this_totalj30 this_bitAt this_k this_e1 this_du this_dv f_this_cubes f_this_turns f_this_round f_this_statej30 f_this_otherj30 f_this_columnj30 f_this_wordsj30 f_this_blockj30) H := hP
  have hD : va_D A (kWX5_put cB cI cL cBB cII cSh h_this a_this this_taped this_code this_kind this_rate w_6 this_totalj30 this_bitAt this_k this_e1 this_du this_dv f_this_cubes f_this_turns f_this_round f_this_statej30 f_this_otherj30 f_this_columnj30 f_this_wordsj30 f_this_blockj30) := hD
  refine lv_aload_n hx hb kdX5_put_40 rfl (lv_at hl 0 rfl) ?_
  refine lv_dup hx hb kdX5_put_41 rfl ?_
  refine va_get (ci := 5) (v := .long this_totalj30) (C := kRX5) (T := kTX5) (N := 35) hx hb hts kinX5 hown hK hP 0 rfl rfl 21 (by decide) (hts _ km_702) (fun _ h9 => h9) rfl kdX5_put_42 ?_
  refine lv_lconst (v := 1) hx hb kdX5_put_45 (by decide) ?_
  refine lv_ladd hx hb kdX5_put_46 ?_
  refine lv_topl (fun w_7 ew_7 => ?_)
  have h := kb_n_s ew_7 h
  refine va_put (ci := 5) (v := .long w_7) (C := kRX5) (T := kTX5) (N := 35) hx hb hts kinX5 ktyX5 ktyX5_ok knX5 hown hK hP hD hS 0 rfl rfl 21 (by decide) (hts _ km_702) (fun _ h9 => h9) rfl (ktyX5_ok 21 (by decide)) rfl rfl (Nat.le_of_ble_eq_true rfl) kdX5_put_47 (fun H locs hP hD hS => ?_)
  have hP : va_P D kCl (kWX5_put cB cI cL cBB cII cSh h_this a_this this_taped this_code this_kind this_rate w_6 w_7 this_bitAt this_k this_e1 this_du this_dv f_this_cubes f_this_turns f_this_round f_this_statej30 f_this_otherj30 f_this_columnj30 f_this_wordsj30 f_this_blockj30) H := hP
  have hD : va_D A (kWX5_put cB cI cL cBB cII cSh h_this a_this this_taped this_code this_kind this_rate w_6 w_7 this_bitAt this_k this_e1 this_du this_dv f_this_cubes f_this_turns f_this_round f_this_statej30 f_this_otherj30 f_this_columnj30 f_this_wordsj30 f_this_blockj30) := hD
  refine lv_aload_n hx hb kdX5_put_50 rfl (lv_at hl 0 rfl) ?_
  refine va_get (ci := 5) (v := .int w_6) (C := kRX5) (T := kTX5) (N := 35) hx hb hts kinX5 hown hK hP 0 rfl rfl 20 (by decide) (hts _ km_701) (fun _ h9 => h9) rfl kdX5_put_51 ?_
  refine lv_aload_n hx hb kdX5_put_54 rfl (lv_at hl 0 rfl) ?_
  refine va_get (ci := 5) (v := .int this_rate) (C := kRX5) (T := kTX5) (N := 35) hx hb hts kinX5 hown hK hP 0 rfl rfl 19 (by decide) (hts _ km_700) (fun _ h9 => h9) rfl kdX5_put_55 ?_
  refine lv_icmp_ne (tgt := 100) hx hb kdX5_put_58 (by decide) (fun c_8 => ?_) (fun c_8 => ?_)
  · have h := kb_b_f c_8 h
    obtain rfl := Option.some.inj h
    exact W.vret hx hb hr (fun t ht hW => ⟨⟨rfl, by rw [ht]; exact hP, va_K.moved hW.alike hK, hD⟩, hS.F ht⟩) hS.2.2 kdX5_put_100
  · have h := kb_b_t c_8 h
    refine lv_aload_n hx hb kdX5_put_61 rfl (lv_at hl 0 rfl) ?_
    obtain ⟨u_10, hu_10, h⟩ := kb_o_s h
    obtain ⟨r_9, rfl⟩ : ∃ z, z = u_10 := ⟨_, rfl⟩
    try dsimp only at h
    have hC := (show ([0] : List Nat).map (fun i : Nat => (kWX5_put cB cI cL cBB cII cSh h_this a_this this_taped this_code this_kind this_rate w_6 w_7 this_bitAt this_k this_e1 this_du this_dv f_this_cubes f_this_turns f_this_round f_this_statej30 f_this_otherj30 f_this_columnj30 f_this_wordsj30 f_this_blockj30)[i]?) = List.map some (kWX5_sponge cB cI cL cBB cII cSh h_this a_this this_taped this_code this_kind this_rate w_6 w_7 this_bitAt this_k this_e1 this_du this_dv) from rfl)
    have hPc := kb_Psub hP ([0] : List Nat) hC
    have hDc := kb_Dsub hD ([0] : List Nat) hC (by simp [kb_nd])
    refine kb_call0 (va_runV (As := []) (rest := []) C0 (kcX5_sponge l D cB cI cL cBB cII cSh h_this a_this _ this_taped this_code this_kind this_rate w_6 w_7 this_bitAt this_k this_e1 this_du this_dv r_9 hu_10) (cwV 0 hts (kb_gV km_645 km_647 kp_3 km_6 km_648) rfl rfl rfl (by decide +kernel) ⟨Nat.le_of_ble_eq_true rfl, Nat.le_of_ble_eq_true rfl⟩) ⟨kb_P_bl, va_recv hK hP (ci := 5) (q0 := 0) rfl rfl, (fun U hU hW => ⟨rfl, by rw [hU], by rw [hU]; exact hPc, va_K.moved hW.alike hK, kb_N_to hW hN, hDc.weaken (fun _ _ _ _ => trivial)⟩)⟩ rfl rfl hl.1 rfl (lv_room (Nat.le_of_ble_eq_true rfl)) kdX5_put_62 ⟨Nat.le_of_ble_eq_true rfl, Nat.le_of_ble_eq_true rfl⟩) hP hD hS hA ([0] : List Nat) hC rfl (fun H locs hP hD hS => ?_)
    have hP : va_P D kCl (kWX5_put cB cI cL cBB cII cSh h_this a_this this_taped this_code this_kind this_rate w_6 w_7 this_bitAt this_k this_e1 this_du this_dv f_this_cubes f_this_turns f_this_round f_this_statej30 f_this_otherj30 f_this_columnj30 f_this_wordsj30 f_this_blockj30) H := hP
    have hD : va_D A (kWX5_put cB cI cL cBB cII cSh h_this a_this this_taped this_code this_kind this_rate w_6 w_7 this_bitAt this_k this_e1 this_du this_dv f_this_cubes f_this_turns f_this_round f_this_statej30 f_this_otherj30 f_this_columnj30 f_this_wordsj30 f_this_blockj30) := hD
    refine lv_if_eq (tgt := 75) hx hb kdX5_put_65 (by decide) (fun c_11 => ?_) (fun c_11 => ?_)
    · have h := kb_b_t c_11 h
      refine lv_aload_n hx hb kdX5_put_75 rfl (lv_at hl 0 rfl) ?_
      refine va_get (ci := 5) (v := .int this_rate) (C := kRX5) (T := kTX5) (N := 35) hx hb hts kinX5 hown hK hP 0 rfl rfl 19 (by decide) (hts _ km_700) (fun _ h9 => h9) rfl kdX5_put_76 ?_
      refine lv_bipush (v := 64) hx hb kdX5_put_79 (by decide) ?_
      refine lv_icmp_ne (tgt := 91) hx hb kdX5_put_81 (by decide) (fun c_12 => ?_) (fun c_12 => ?_)
      · have h := kb_b_f c_12 h
        refine lv_aload_n hx hb kdX5_put_91 rfl (lv_at hl 0 rfl) ?_
        obtain ⟨u_15, hu_15, h⟩ := kb_o_s h
        obtain ⟨f_13, f_14⟩ := u_15
        try dsimp only at h
        have hC := (show ([0, 1, 4, 7, 8] : List Nat).map (fun i : Nat => (kWX5_put cB cI cL cBB cII cSh h_this a_this this_taped this_code this_kind this_rate w_6 w_7 this_bitAt this_k this_e1 this_du this_dv f_this_cubes f_this_turns f_this_round f_this_statej30 f_this_otherj30 f_this_columnj30 f_this_wordsj30 f_this_blockj30)[i]?) = List.map some (kWX5_compress64 cB cI cL cBB cII cSh h_this a_this this_taped this_code this_kind this_rate w_6 w_7 this_bitAt this_k this_e1 this_du this_dv f_this_cubes f_this_statej30 f_this_wordsj30 f_this_blockj30) from rfl)
        have hPc := kb_Psub hP ([0, 1, 4, 7, 8] : List Nat) hC
        have hDc := kb_Dsub hD ([0, 1, 4, 7, 8] : List Nat) hC (by simp [kb_nd])
        refine kb_call0 (va_runV (As := []) (rest := []) C0 (kcX5_compress64 l D cB cI cL cBB cII cSh h_this a_this _ this_taped this_code this_kind this_rate w_6 w_7 this_bitAt this_k this_e1 this_du this_dv f_this_cubes f_this_statej30 f_this_wordsj30 f_this_blockj30 (f_13, f_14) hu_15) (cwV 0 hts (kb_gV km_669 km_671 kp_16 km_6 km_672) rfl rfl rfl (by decide +kernel) ⟨Nat.le_of_ble_eq_true rfl, Nat.le_of_ble_eq_true rfl⟩) ⟨kb_P_bl, va_recv hK hP (ci := 5) (q0 := 0) rfl rfl, (fun U hU hW => ⟨rfl, by rw [hU], by rw [hU]; exact hPc, va_K.moved hW.alike hK, kb_N_to hW hN, hDc.weaken (fun _ _ _ _ => trivial)⟩)⟩ rfl rfl hl.1 rfl (lv_room (Nat.le_of_ble_eq_true rfl)) kdX5_put_92 ⟨Nat.le_of_ble_eq_true rfl, Nat.le_of_ble_eq_true rfl⟩) hP hD hS hA ([0, 1, 4, 7, 8] : List Nat) hC rfl (fun H locs hP hD hS => ?_)
        have hP : va_P D kCl (kWX5_put cB cI cL cBB cII cSh h_this a_this this_taped this_code this_kind this_rate w_6 w_7 this_bitAt this_k this_e1 this_du this_dv f_this_cubes f_this_turns f_this_round f_13 f_this_otherj30 f_this_columnj30 f_14 f_this_blockj30) H := hP
        have hD : va_D A (kWX5_put cB cI cL cBB cII cSh h_this a_this this_taped this_code this_kind this_rate w_6 w_7 this_bitAt this_k this_e1 this_du this_dv f_this_cubes f_this_turns f_this_round f_13 f_this_otherj30 f_this_columnj30 f_14 f_this_blockj30) := hD
        refine lv_aload_n hx hb kdX5_put_95 rfl (lv_at hl 0 rfl) ?_
        refine lv_iconst (v := 0) hx hb kdX5_put_96 (by decide) ?_
        refine va_put (ci := 5) (v := .int (0 : Int32)) (C := kRX5) (T := kTX5) (N := 35) hx hb hts kinX5 ktyX5 ktyX5_ok knX5 hown hK hP hD hS 0 rfl rfl 20 (by decide) (hts _ km_701) (fun _ h9 => h9) rfl (ktyX5_ok 20 (by decide)) rfl rfl (Nat.le_of_ble_eq_true rfl) kdX5_put_97 (fun H locs hP hD hS => ?_)
        have hP : va_P D kCl (kWX5_put cB cI cL cBB cII cSh h_this a_this this_taped this_code this_kind this_rate (0 : Int32) w_7 this_bitAt this_k this_e1 this_du this_dv f_this_cubes f_this_turns f_this_round f_13 f_this_otherj30 f_this_columnj30 f_14 f_this_blockj30) H := hP
        have hD : va_D A (kWX5_put cB cI cL cBB cII cSh h_this a_this this_taped this_code this_kind this_rate (0 : Int32) w_7 this_bitAt this_k this_e1 this_du this_dv f_this_cubes f_this_turns f_this_round f_13 f_this_otherj30 f_this_columnj30 f_14 f_this_blockj30) := hD
        obtain rfl := Option.some.inj h
        exact W.vret hx hb hr (fun t ht hW => ⟨⟨rfl, by rw [ht]; exact hP, va_K.moved hW.alike hK, hD⟩, hS.F ht⟩) hS.2.2 kdX5_put_100
      · have h := kb_b_t c_12 h
        refine lv_aload_n hx hb kdX5_put_84 rfl (lv_at hl 0 rfl) ?_
        obtain ⟨u_18, hu_18, h⟩ := kb_o_s h
        obtain ⟨f_16, f_17⟩ := u_18
        try dsimp only at h
        have hC := (show ([0, 1, 4, 7, 8] : List Nat).map (fun i : Nat => (kWX5_put cB cI cL cBB cII cSh h_this a_this this_taped this_code this_kind this_rate w_6 w_7 this_bitAt this_k this_e1 this_du this_dv f_this_cubes f_this_turns f_this_round f_this_statej30 f_this_otherj30 f_this_columnj30 f_this_wordsj30 f_this_blockj30)[i]?) = List.map some (kWX5_compress32 cB cI cL cBB cII cSh h_this a_this this_taped this_code this_kind this_rate w_6 w_7 this_bitAt this_k this_e1 this_du this_dv f_this_cubes f_this_statej30 f_this_wordsj30 f_this_blockj30) from rfl)
        have hPc := kb_Psub hP ([0, 1, 4, 7, 8] : List Nat) hC
        have hDc := kb_Dsub hD ([0, 1, 4, 7, 8] : List Nat) hC (by simp [kb_nd])
        refine kb_call0 (va_runV (As := []) (rest := []) C0 (kcX5_compress32 l D cB cI cL cBB cII cSh h_this a_this _ this_taped this_code this_kind this_rate w_6 w_7 this_bitAt this_k this_e1 this_du this_dv f_this_cubes f_this_statej30 f_this_wordsj30 f_this_blockj30 (f_16, f_17) hu_18) (cwV 0 hts (kb_gV km_662 km_664 kp_17 km_6 km_665) rfl rfl rfl (by decide +kernel) ⟨Nat.le_of_ble_eq_true rfl, Nat.le_of_ble_eq_true rfl⟩) ⟨kb_P_bl, va_recv hK hP (ci := 5) (q0 := 0) rfl rfl, (fun U hU hW => ⟨rfl, by rw [hU], by rw [hU]; exact hPc, va_K.moved hW.alike hK, kb_N_to hW hN, hDc.weaken (fun _ _ _ _ => trivial)⟩)⟩ rfl rfl hl.1 rfl (lv_room (Nat.le_of_ble_eq_true rfl)) kdX5_put_85 ⟨Nat.le_of_ble_eq_true rfl, Nat.le_of_ble_eq_true rfl⟩) hP hD hS hA ([0, 1, 4, 7, 8] : List Nat) hC rfl (fun H locs hP hD hS => ?_)
        have hP : va_P D kCl (kWX5_put cB cI cL cBB cII cSh h_this a_this this_taped this_code this_kind this_rate w_6 w_7 this_bitAt this_k this_e1 this_du this_dv f_this_cubes f_this_turns f_this_round f_16 f_this_otherj30 f_this_columnj30 f_17 f_this_blockj30) H := hP
        have hD : va_D A (kWX5_put cB cI cL cBB cII cSh h_this a_this this_taped this_code this_kind this_rate w_6 w_7 this_bitAt this_k this_e1 this_du this_dv f_this_cubes f_this_turns f_this_round f_16 f_this_otherj30 f_this_columnj30 f_17 f_this_blockj30) := hD
        refine lv_goto (tgt := 95) hx hb kdX5_put_88 (by decide) ?_
        refine lv_aload_n hx hb kdX5_put_95 rfl (lv_at hl 0 rfl) ?_
        refine lv_iconst (v := 0) hx hb kdX5_put_96 (by decide) ?_
        refine va_put (ci := 5) (v := .int (0 : Int32)) (C := kRX5) (T := kTX5) (N := 35) hx hb hts kinX5 ktyX5 ktyX5_ok knX5 hown hK hP hD hS 0 rfl rfl 20 (by decide) (hts _ km_701) (fun _ h9 => h9) rfl (ktyX5_ok 20 (by decide)) rfl rfl (Nat.le_of_ble_eq_true rfl) kdX5_put_97 (fun H locs hP hD hS => ?_)
        have hP : va_P D kCl (kWX5_put cB cI cL cBB cII cSh h_this a_this this_taped this_code this_kind this_rate (0 : Int32) w_7 this_bitAt this_k this_e1 this_du this_dv f_this_cubes f_this_turns f_this_round f_16 f_this_otherj30 f_this_columnj30 f_17 f_this_blockj30) H := hP
        have hD : va_D A (kWX5_put cB cI cL cBB cII cSh h_this a_this this_taped this_code this_kind this_rate (0 : Int32) w_7 this_bitAt this_k this_e1 this_du this_dv f_this_cubes f_this_turns f_this_round f_16 f_this_otherj30 f_this_columnj30 f_17 f_this_blockj30) := hD
        obtain rfl := Option.some.inj h
        exact W.vret hx hb hr (fun t ht hW => ⟨⟨rfl, by rw [ht]; exact hP, va_K.moved hW.alike hK, hD⟩, hS.F ht⟩) hS.2.2 kdX5_put_100
    · have h := kb_b_f c_11 h
      refine lv_aload_n hx hb kdX5_put_68 rfl (lv_at hl 0 rfl) ?_
      obtain ⟨u_22, hu_22, h⟩ := kb_o_s h
      obtain ⟨f_19, f_20, f_21⟩ := u_22
      try dsimp only at h
      have hC := (show ([0, 2, 3, 4, 5, 6] : List Nat).map (fun i : Nat => (kWX5_put cB cI cL cBB cII cSh h_this a_this this_taped this_code this_kind this_rate w_6 w_7 this_bitAt this_k this_e1 this_du this_dv f_this_cubes f_this_turns f_this_round f_this_statej30 f_this_otherj30 f_this_columnj30 f_this_wordsj30 f_this_blockj30)[i]?) = List.map some (kWX5_permute cB cI cL cBB cII cSh h_this a_this this_taped this_code this_kind this_rate w_6 w_7 this_bitAt this_k this_e1 this_du this_dv f_this_turns f_this_round f_this_statej30 f_this_otherj30 f_this_columnj30) from rfl)
      have hPc := kb_Psub hP ([0, 2, 3, 4, 5, 6] : List Nat) hC
      have hDc := kb_Dsub hD ([0, 2, 3, 4, 5, 6] : List Nat) hC (by simp [kb_nd])
      refine kb_call0 (va_runV (As := []) (rest := []) C0 (kcX5_permute l D cB cI cL cBB cII cSh h_this a_this _ this_taped this_code this_kind this_rate w_6 w_7 this_bitAt this_k this_e1 this_du this_dv f_this_turns f_this_round f_this_statej30 f_this_otherj30 f_this_columnj30 (f_19, f_20, f_21) hu_22) (cwV 0 hts (kb_gV km_654 km_656 kp_18 km_6 km_657) rfl rfl rfl (by decide +kernel) ⟨Nat.le_of_ble_eq_true rfl, Nat.le_of_ble_eq_true rfl⟩) ⟨kb_P_bl, va_recv hK hP (ci := 5) (q0 := 0) rfl rfl, (fun U hU hW => ⟨rfl, by rw [hU], by rw [hU]; exact hPc, va_K.moved hW.alike hK, kb_N_to hW hN, hDc.weaken (fun _ _ _ _ => trivial)⟩)⟩ rfl rfl hl.1 rfl (lv_room (Nat.le_of_ble_eq_true rfl)) kdX5_put_69 ⟨Nat.le_of_ble_eq_true rfl, Nat.le_of_ble_eq_true rfl⟩) hP hD hS hA ([0, 2, 3, 4, 5, 6] : List Nat) hC rfl (fun H locs hP hD hS => ?_)
      have hP : va_P D kCl (kWX5_put cB cI cL cBB cII cSh h_this a_this this_taped this_code this_kind this_rate w_6 w_7 this_bitAt this_k this_e1 this_du this_dv f_this_cubes f_this_turns f_this_round f_19 f_20 f_21 f_this_wordsj30 f_this_blockj30) H := hP
      have hD : va_D A (kWX5_put cB cI cL cBB cII cSh h_this a_this this_taped this_code this_kind this_rate w_6 w_7 this_bitAt this_k this_e1 this_du this_dv f_this_cubes f_this_turns f_this_round f_19 f_20 f_21 f_this_wordsj30 f_this_blockj30) := hD
      refine lv_goto (tgt := 95) hx hb kdX5_put_72 (by decide) ?_
      refine lv_aload_n hx hb kdX5_put_95 rfl (lv_at hl 0 rfl) ?_
      refine lv_iconst (v := 0) hx hb kdX5_put_96 (by decide) ?_
      refine va_put (ci := 5) (v := .int (0 : Int32)) (C := kRX5) (T := kTX5) (N := 35) hx hb hts kinX5 ktyX5 ktyX5_ok knX5 hown hK hP hD hS 0 rfl rfl 20 (by decide) (hts _ km_701) (fun _ h9 => h9) rfl (ktyX5_ok 20 (by decide)) rfl rfl (Nat.le_of_ble_eq_true rfl) kdX5_put_97 (fun H locs hP hD hS => ?_)
      have hP : va_P D kCl (kWX5_put cB cI cL cBB cII cSh h_this a_this this_taped this_code this_kind this_rate (0 : Int32) w_7 this_bitAt this_k this_e1 this_du this_dv f_this_cubes f_this_turns f_this_round f_19 f_20 f_21 f_this_wordsj30 f_this_blockj30) H := hP
      have hD : va_D A (kWX5_put cB cI cL cBB cII cSh h_this a_this this_taped this_code this_kind this_rate (0 : Int32) w_7 this_bitAt this_k this_e1 this_du this_dv f_this_cubes f_this_turns f_this_round f_19 f_20 f_21 f_this_wordsj30 f_this_blockj30) := hD
      obtain rfl := Option.some.inj h
      exact W.vret hx hb hr (fun t ht hW => ⟨⟨rfl, by rw [ht]; exact hP, va_K.moved hW.alike hK, hD⟩, hS.F ht⟩) hS.2.2 kdX5_put_100
set_option maxHeartbeats 4000000 in
set_option maxRecDepth 100000 in
theorem kcX5_put (l : Launch) (D : va_G) (cB cI cL cBB cII cSh : ClassId) (h_this : Nat) (a_this : Nat → Nat) (sz : Nat) (p1 : Int32) (this_taped : Int32) (this_code : Int32) (this_kind : Int32) (this_rate : Int32) (this_filled : Int32) (this_total : Int64) (this_bitAt : Int32) (this_k : Int32) (this_e1 : Int32) (this_du : Int32) (this_dv : Int32) (f_this_cubes : Nat → Int64) (f_this_turns : Nat → Int32) (f_this_round : Nat → Int64) (f_this_state : Nat → Int64) (f_this_other : Nat → Int64) (f_this_column : Nat → Int64) (f_this_words : Nat → Int64) (f_this_block : Nat → Int32) (out : Int32 × Int64 × (Nat → Int64) × (Nat → Int64) × (Nat → Int64) × (Nat → Int64) × (Nat → Int32)) (h : kFX5_put p1 this_kind this_rate this_filled this_total f_this_cubes f_this_turns f_this_round f_this_state f_this_other f_this_column f_this_words f_this_block = some out) : Met l kyX5_put kwX5_put krX5_put (kb_P D kCl (kb_T cB cI cL cBB cII cSh) [.ref h_this, .int p1] (kWX5_put cB cI cL cBB cII cSh h_this a_this this_taped this_code this_kind this_rate this_filled this_total this_bitAt this_k this_e1 this_du this_dv f_this_cubes f_this_turns f_this_round f_this_state f_this_other f_this_column f_this_words f_this_block) sz) (kb_Q D kCl (kb_T cB cI cL cBB cII cSh) (va_A (kWX5_put cB cI cL cBB cII cSh h_this a_this this_taped this_code this_kind this_rate this_filled this_total this_bitAt this_k this_e1 this_du this_dv f_this_cubes f_this_turns f_this_round f_this_state f_this_other f_this_column f_this_words f_this_block) sz) none (kWX5_put cB cI cL cBB cII cSh h_this a_this this_taped this_code this_kind this_rate out.1 out.2.1 this_bitAt this_k this_e1 this_du this_dv f_this_cubes f_this_turns f_this_round out.2.2.1 out.2.2.2.1 out.2.2.2.2.1 out.2.2.2.2.2.1 out.2.2.2.2.2.2)) 0 0 (va_A (kWX5_put cB cI cL cBB cII cSh h_this a_this this_taped this_code this_kind this_rate this_filled this_total this_bitAt this_k this_e1 this_du this_dv f_this_cubes f_this_turns f_this_round f_this_state f_this_other f_this_column f_this_words f_this_block) sz) := by
  refine Met.ofW (cc := prog_8_method_27_code) (maxL := 2) (ret := none) (by decide) rfl ?_
  intro p e s m args below meth c s₁ B hml hv
  obtain ⟨rfl, hsz, hP, hK, hN, hD0⟩ := hv
  have hx := B.exec
  have hb := B.bytes
  have hr := B.returns
  have hts0 := atoms_spec (ws := kwX5_put) B.pre
  have hts : ∀ w ∈ kwA, w.before _ s = true := fun w h => hts0 w (List.mem_cons_of_mem _ h)
  have hown : s.vm.findClass kRX5 = some m.cls := findClass_of_methodNamed B.named
  have hlocks := B.notSynchronized
  subst hsz
  have hD := hD0.self (sz := s.heap.size)
  generalize hAe : va_A (kWX5_put cB cI cL cBB cII cSh h_this a_this this_taped this_code this_kind this_rate this_filled this_total this_bitAt this_k this_e1 this_du this_dv f_this_cubes f_this_turns f_this_round f_this_state f_this_other f_this_column f_this_words f_this_block) s.heap.size = A at hD ⊢
  have hA : ∀ q : Nat, s.heap.size ≤ q → A q := fun q h => by rw [← hAe]; exact Or.inr h
  have hS : va_S A s.heap s.heap [] := va_S.rf
  have C0 : CallFix p m c prog_8_method_27_code 2 s _ kwA kRX5 := ⟨hx, hb, hml, hown, hts⟩
  have hl := lv_entry ([.ref h_this, .int p1]) (n := 2) (Nat.le_of_ble_eq_true rfl)
  rw [lg_entry_eq]
  generalize (lg_sl ([.ref h_this, .int p1]) ++ List.replicate (2 - (lg_sl ([.ref h_this, .int p1])).length) Slot.unset).toArray = ls at hl ⊢
  have hl : lv_has ls 2 [(0, .ref h_this), (1, .int p1)] := hl
  unfold kFX5_put at h
  refine lv_aload_n hx hb kdX5_put_0 rfl (lv_at hl 0 rfl) ?_
  obtain ⟨u_2, hu_2, h⟩ := kb_o_s h
  obtain ⟨r_1, rfl⟩ : ∃ z, z = u_2 := ⟨_, rfl⟩
  try dsimp only at h
  have hC := (show ([0] : List Nat).map (fun i : Nat => (kWX5_put cB cI cL cBB cII cSh h_this a_this this_taped this_code this_kind this_rate this_filled this_total this_bitAt this_k this_e1 this_du this_dv f_this_cubes f_this_turns f_this_round f_this_state f_this_other f_this_column f_this_words f_this_block)[i]?) = List.map some (kWX5_sponge cB cI cL cBB cII cSh h_this a_this this_taped this_code this_kind this_rate this_filled this_total this_bitAt this_k this_e1 this_du this_dv) from rfl)
  have hPc := kb_Psub hP ([0] : List Nat) hC
  have hDc := kb_Dsub hD ([0] : List Nat) hC (by simp [kb_nd])
  refine kb_call0 (va_runV (As := []) (rest := []) C0 (kcX5_sponge l D cB cI cL cBB cII cSh h_this a_this _ this_taped this_code this_kind this_rate this_filled this_total this_bitAt this_k this_e1 this_du this_dv r_1 hu_2) (cwV 0 hts (kb_gV km_645 km_647 kp_3 km_6 km_648) rfl rfl rfl (by decide +kernel) ⟨Nat.le_of_ble_eq_true rfl, Nat.le_of_ble_eq_true rfl⟩) ⟨kb_P_bl, va_recv hK hP (ci := 5) (q0 := 0) rfl rfl, (fun U hU hW => ⟨rfl, by rw [hU], by rw [hU]; exact hPc, va_K.moved hW.alike hK, kb_N_to hW hN, hDc.weaken (fun _ _ _ _ => trivial)⟩)⟩ rfl rfl hl.1 rfl (lv_room (Nat.le_of_ble_eq_true rfl)) kdX5_put_1 ⟨Nat.le_of_ble_eq_true rfl, Nat.le_of_ble_eq_true rfl⟩) hP hD hS hA ([0] : List Nat) hC rfl (fun H locs hP hD hS => ?_)
  have hP : va_P D kCl (kWX5_put cB cI cL cBB cII cSh h_this a_this this_taped this_code this_kind this_rate this_filled this_total this_bitAt this_k this_e1 this_du this_dv f_this_cubes f_this_turns f_this_round f_this_state f_this_other f_this_column f_this_words f_this_block) H := hP
  have hD : va_D A (kWX5_put cB cI cL cBB cII cSh h_this a_this this_taped this_code this_kind this_rate this_filled this_total this_bitAt this_k this_e1 this_du this_dv f_this_cubes f_this_turns f_this_round f_this_state f_this_other f_this_column f_this_words f_this_block) := hD
  refine lv_if_eq (tgt := 19) hx hb kdX5_put_4 (by decide) (fun c_3 => ?_) (fun c_3 => ?_)
  · have h := kb_b_t c_3 h
    refine lv_aload_n hx hb kdX5_put_19 rfl (lv_at hl 0 rfl) ?_
    refine va_get (ci := 5) (v := .ref (a_this 17)) (C := kRX5) (T := kTX5) (N := 35) hx hb hts kinX5 hown hK hP 0 rfl rfl 17 (by decide) (hts _ km_698) (fun _ h9 => h9) rfl kdX5_put_20 ?_
    refine lv_aload_n hx hb kdX5_put_23 rfl (lv_at hl 0 rfl) ?_
    refine va_get (ci := 5) (v := .int this_filled) (C := kRX5) (T := kTX5) (N := 35) hx hb hts kinX5 hown hK hP 0 rfl rfl 20 (by decide) (hts _ km_701) (fun _ h9 => h9) rfl kdX5_put_24 ?_
    refine lv_iload_n hx hb kdX5_put_27 rfl (lv_at hl 1 rfl) ?_
    refine lv_i2b (v := (p1.toInt8.toInt32)) hx hb kdX5_put_28 rfl ?_
    obtain ⟨g_4, h⟩ := kb_g_s h
    refine va_bast hx hb hK hP hD hS 8 0 rfl rfl (kb_in_v g_4) kdX5_put_29 (fun H locs hP hD hS => ?_)
    obtain ⟨f_5, ef_5⟩ : ∃ y, y = upd f_this_block this_filled.toNatClampNeg (vp_nar .byte (p1.toInt8.toInt32)) := ⟨_, rfl⟩
    have h := kb_n_s ef_5 h
    have hP : va_P D kCl (kWX5_put cB cI cL cBB cII cSh h_this a_this this_taped this_code this_kind this_rate this_filled this_total this_bitAt this_k this_e1 this_du this_dv f_this_cubes f_this_turns f_this_round f_this_state f_this_other f_this_column f_this_words f_5) H := by rw [ef_5]; exact hP
    have hD : va_D A (kWX5_put cB cI cL cBB cII cSh h_this a_this this_taped this_code this_kind this_rate this_filled this_total this_bitAt this_k this_e1 this_du this_dv f_this_cubes f_this_turns f_this_round f_this_state f_this_other f_this_column f_this_words f_5) := by rw [ef_5]; exact hD
    exact kjX5_put_30 C0 hlocks hr hK hN hA h_this a_this this_taped this_code this_kind this_rate this_filled this_total this_bitAt this_k this_e1 this_du this_dv f_this_cubes f_this_turns f_this_round f_this_state f_this_other f_this_column f_this_words f_5 _ h _ _ _ hP hD hS (lv_sub hl [0] rfl)
  · have h := kb_b_f c_3 h
    refine lv_aload_n hx hb kdX5_put_7 rfl (lv_at hl 0 rfl) ?_
    refine lv_aload_n hx hb kdX5_put_8 rfl (lv_at hl 0 rfl) ?_
    refine va_get (ci := 5) (v := .int this_filled) (C := kRX5) (T := kTX5) (N := 35) hx hb hts kinX5 hown hK hP 0 rfl rfl 20 (by decide) (hts _ km_701) (fun _ h9 => h9) rfl kdX5_put_9 ?_
    refine lv_iload_n hx hb kdX5_put_12 rfl (lv_at hl 1 rfl) ?_
    obtain ⟨u_24, hu_24, h⟩ := kb_o_s h
    obtain ⟨f_23, rfl⟩ : ∃ z, z = u_24 := ⟨_, rfl⟩
    try dsimp only at h
    have hC := (show ([0, 4] : List Nat).map (fun i : Nat => (kWX5_put cB cI cL cBB cII cSh h_this a_this this_taped this_code this_kind this_rate this_filled this_total this_bitAt this_k this_e1 this_du this_dv f_this_cubes f_this_turns f_this_round f_this_state f_this_other f_this_column f_this_words f_this_block)[i]?) = List.map some (kWX5_flip cB cI cL cBB cII cSh h_this a_this this_taped this_code this_kind this_rate this_filled this_total this_bitAt this_k this_e1 this_du this_dv f_this_state) from rfl)
    have hPc := kb_Psub hP ([0, 4] : List Nat) hC
    have hDc := kb_Dsub hD ([0, 4] : List Nat) hC (by simp [kb_nd])
    refine kb_call0 (va_runV (As := [.int this_filled, .int p1]) (rest := []) C0 (kcX5_flip l D cB cI cL cBB cII cSh h_this a_this _ this_filled p1 this_taped this_code this_kind this_rate this_filled this_total this_bitAt this_k this_e1 this_du this_dv f_this_state f_23 hu_24) (cwV 2 hts (kb_gV km_649 km_651 kp_21 km_6 km_652) rfl rfl rfl (by decide +kernel) ⟨Nat.le_of_ble_eq_true rfl, Nat.le_of_ble_eq_true rfl⟩) ⟨kb_P_bl, va_recv hK hP (ci := 5) (q0 := 0) rfl rfl, (fun U hU hW => ⟨rfl, by rw [hU], by rw [hU]; exact hPc, va_K.moved hW.alike hK, kb_N_to hW hN, hDc.weaken (fun _ _ _ _ => trivial)⟩)⟩ rfl rfl hl.1 rfl (lv_room (Nat.le_of_ble_eq_true rfl)) kdX5_put_13 ⟨Nat.le_of_ble_eq_true rfl, Nat.le_of_ble_eq_true rfl⟩) hP hD hS hA ([0, 4] : List Nat) hC rfl (fun H locs hP hD hS => ?_)
    have hP : va_P D kCl (kWX5_put cB cI cL cBB cII cSh h_this a_this this_taped this_code this_kind this_rate this_filled this_total this_bitAt this_k this_e1 this_du this_dv f_this_cubes f_this_turns f_this_round f_23 f_this_other f_this_column f_this_words f_this_block) H := hP
    have hD : va_D A (kWX5_put cB cI cL cBB cII cSh h_this a_this this_taped this_code this_kind this_rate this_filled this_total this_bitAt this_k this_e1 this_du this_dv f_this_cubes f_this_turns f_this_round f_23 f_this_other f_this_column f_this_words f_this_block) := hD
    refine lv_goto (tgt := 30) hx hb kdX5_put_16 (by decide) ?_
    exact kjX5_put_30 C0 hlocks hr hK hN hA h_this a_this this_taped this_code this_kind this_rate this_filled this_total this_bitAt this_k this_e1 this_du this_dv f_this_cubes f_this_turns f_this_round f_23 f_this_other f_this_column f_this_words f_this_block _ h _ _ _ hP hD hS (lv_sub hl [0] rfl)

-- 487.ModuleKemModel.put2.lean.txt
abbrev kWX5_put2 (cB cI cL cBB cII cSh : ClassId) (h_this : Nat) (a_this : Nat → Nat) (h_a1 : Nat) (n_a1 : Nat) (this_taped : Int32) (this_code : Int32) (this_kind : Int32) (this_rate : Int32) (this_filled : Int32) (this_total : Int64) (this_bitAt : Int32) (this_k : Int32) (this_e1 : Int32) (this_du : Int32) (this_dv : Int32) (f_this_cubes : Nat → Int64) (f_this_turns : Nat → Int32) (f_this_round : Nat → Int64) (f_this_state : Nat → Int64) (f_this_other : Nat → Int64) (f_this_column : Nat → Int64) (f_this_words : Nat → Int64) (f_this_block : Nat → Int32) (f_a1 : Nat → Int32) : va_W := [(h_this, koX5 a_this this_taped this_code this_kind this_rate this_filled this_total this_bitAt this_k this_e1 this_du this_dv), ((a_this 6), .inl (cL, 80, .inr (.inl f_this_cubes))), ((a_this 11), .inl (cI, 25, .inl f_this_turns)), ((a_this 12), .inl (cL, 24, .inr (.inl f_this_round))), ((a_this 13), .inl (cL, 25, .inr (.inl f_this_state))), ((a_this 14), .inl (cL, 25, .inr (.inl f_this_other))), ((a_this 15), .inl (cL, 5, .inr (.inl f_this_column))), ((a_this 16), .inl (cL, 80, .inr (.inl f_this_words))), ((a_this 17), .inl (cB, 128, .inl f_this_block)), (h_a1, .inl (cB, n_a1, .inl f_a1))]
def krX5_put2 : Room := { frames := 3, cells := 0, slots := 0, locals := 84 }
set_option maxHeartbeats 4000000 in
set_option maxRecDepth 100000 in
theorem klX5_put2_3 {p : Program} {l : Launch} {e : Env} {s : State} {m : MethodId} {args : Array Value} {below : List Frame} {meth : Method} {c : Code} {cells slots : Nat} {Q : State → Prop} {D : va_G} {cB cI cL cBB cII cSh : ClassId} {A : Nat → Prop} (C0 : CallFix p m c prog_8_method_28_code 5 s args kwA kRX5) (hlocks : meth.locks = false) (hK : va_K D kCl (kb_T cB cI cL cBB cII cSh) s) (hN : kb_N s) (hA : ∀ q, s.heap.size ≤ q → A q) (hcR : cells ≤ krX5_put2.cells) (hsR : slots ≤ krX5_put2.slots) (h_this h_a1 : Nat) (a_this : Nat → Nat) (p2 : Int32) (p3 : Int32) (n_a1 : Nat) (this_taped : Int32) (this_code : Int32) (this_kind : Int32) (this_rate : Int32) (this_bitAt : Int32) (this_k : Int32) (this_e1 : Int32) (this_du : Int32) (this_dv : Int32) (f_this_cubes : Nat → Int64) (f_this_turns : Nat → Int32) (f_this_round : Nat → Int64) (f_a1 : Nat → Int32) :
    ∀ (fuel : Nat) (x4p3 : Int32) (this_filledp3 : Int32) (this_totalp3 : Int64) (f_this_blockp3 : Nat → Int32) (f_this_columnp3 : Nat → Int64) (f_this_otherp3 : Nat → Int64) (f_this_statep3 : Nat → Int64) (f_this_wordsp3 : Nat → Int64) (r : Int32 × Int32 × Int64 × (Nat → Int32) × (Nat → Int64) × (Nat → Int64) × (Nat → Int64) × (Nat → Int64)), kb_w (fun u : Int32 × Int32 × Int64 × (Nat → Int32) × (Nat → Int64) × (Nat → Int64) × (Nat → Int64) × (Nat → Int64) => kSX5_put2_3 p2 p3 n_a1 this_kind this_rate f_this_cubes f_this_turns f_this_round f_a1 u.1 u.2.1 u.2.2.1 u.2.2.2.1 u.2.2.2.2.1 u.2.2.2.2.2.1 u.2.2.2.2.2.2.1 u.2.2.2.2.2.2.2) fuel (x4p3, this_filledp3, this_totalp3, f_this_blockp3, f_this_columnp3, f_this_otherp3, f_this_statep3, f_this_wordsp3) = some r → ∀ (H : Heap) (locs : List Loc) (ls : Array Slot), va_P D kCl (kWX5_put2 cB cI cL cBB cII cSh h_this a_this h_a1 n_a1 this_taped this_code this_kind this_rate this_filledp3 this_totalp3 this_bitAt this_k this_e1 this_du this_dv f_this_cubes f_this_turns f_this_round f_this_statep3 f_this_otherp3 f_this_columnp3 f_this_wordsp3 f_this_blockp3 f_a1) H → va_D A (kWX5_put2 cB cI cL cBB cII cSh h_this a_this h_a1 n_a1 this_taped this_code this_kind this_rate this_filledp3 this_totalp3 this_bitAt this_k this_e1 this_du this_dv f_this_cubes f_this_turns f_this_round f_this_statep3 f_this_otherp3 f_this_columnp3 f_this_wordsp3 f_this_blockp3 f_a1) → va_S A s.heap H locs → lv_has ls 5 [(0, .ref h_this), (1, .ref h_a1), (2, .int p2), (3, .int p3), (4, .int x4p3)] → (∀ (x4p3' : Int32) (this_filledp3' : Int32) (this_totalp3' : Int64) (f_this_blockp3' : Nat → Int32) (f_this_columnp3' : Nat → Int64) (f_this_otherp3' : Nat → Int64) (f_this_statep3' : Nat → Int64) (f_this_wordsp3' : Nat → Int64), r = (x4p3', this_filledp3', this_totalp3', f_this_blockp3', f_this_columnp3', f_this_otherp3', f_this_statep3', f_this_wordsp3') → ∀ (H : Heap) (locs : List Loc) (ls : Array Slot), va_P D kCl (kWX5_put2 cB cI cL cBB cII cSh h_this a_this h_a1 n_a1 this_taped this_code this_kind this_rate this_filledp3' this_totalp3' this_bitAt this_k this_e1 this_du this_dv f_this_cubes f_this_turns f_this_round f_this_statep3' f_this_otherp3' f_this_columnp3' f_this_wordsp3' f_this_blockp3' f_a1) H → va_D A (kWX5_put2 cB cI cL cBB cII cSh h_this a_this h_a1 n_a1 this_taped this_code this_kind this_rate this_filledp3' this_totalp3' this_bitAt this_k this_e1 this_du this_dv f_this_cubes f_this_turns f_this_round f_this_statep3' f_this_otherp3' f_this_columnp3' f_this_wordsp3' f_this_blockp3' f_a1) → va_S A s.heap H locs → lv_has ls 5 [(0, .ref h_this), (1, .ref h_a1), (2, .int p2), (3, .int p3), (4, .int x4p3')] → W p l e krX5_put2 s m args below meth c H locs cells slots Q (F0 m 25 ls [])) → W p l e krX5_put2 s m args below meth c H locs cells slots Q (F0 m 3 ls []) := by
  obtain ⟨hx, hb, hml, hown, hts⟩ := id C0
  intro fuel
  induction fuel with
  | zero =>
    intro x4p3 this_filledp3 this_totalp3 f_this_blockp3 f_this_columnp3 f_this_otherp3 f_this_statep3 f_this_wordsp3 r h
    exact absurd h (kb_w_z _ _ _)
  | succ fuel ih =>
    intro x4p3 this_filledp3 this_totalp3 f_this_blockp3 f_this_columnp3 f_this_otherp3 f_this_statep3 f_this_wordsp3 r h H locs ls hP hD hS hl hk0
    obtain ⟨o, h, ho⟩ := kb_w_s h
    have h : kSX5_put2_3 p2 p3 n_a1 this_kind this_rate f_this_cubes f_this_turns f_this_round f_a1 x4p3 this_filledp3 this_totalp3 f_this_blockp3 f_this_columnp3 f_this_otherp3 f_this_statep3 f_this_wordsp3 = some o := h
    unfold kSX5_put2_3 at h
    refine lv_iload hx hb kdX5_put2_3 (lv_at hl 4 rfl) ?_
    refine lv_iload_n hx hb kdX5_put2_5 rfl (lv_at hl 3 rfl) ?_
    refine lv_icmp_ge (tgt := 25) hx hb kdX5_put2_6 (by decide) (fun c_1 => ?_) (fun c_1 => ?_)
    · have h := kb_b_t c_1 h
      obtain rfl := Option.some.inj h
      exact hk0 x4p3 this_filledp3 this_totalp3 f_this_blockp3 f_this_columnp3 f_this_otherp3 f_this_statep3 f_this_wordsp3 ho.symm _ _ _ hP hD hS (lv_sub hl [0, 1, 2, 3, 4] rfl)
    · have h := kb_b_f c_1 h
      refine lv_aload_n hx hb kdX5_put2_9 rfl (lv_at hl 0 rfl) ?_
      refine lv_aload_n hx hb kdX5_put2_10 rfl (lv_at hl 1 rfl) ?_
      refine lv_iload_n hx hb kdX5_put2_11 rfl (lv_at hl 2 rfl) ?_
      refine lv_iload hx hb kdX5_put2_12 (lv_at hl 4 rfl) ?_
      refine lv_iadd hx hb kdX5_put2_14 ?_
      obtain ⟨g_2, h⟩ := kb_g_s h
      refine va_bald hx hb hK hP 9 0 rfl rfl (kb_in_v g_2) kdX5_put2_15 ?_
      obtain ⟨u_10, hu_10, h⟩ := kb_o_s h
      obtain ⟨w_3, w_4, f_5, f_6, f_7, f_8, f_9⟩ := u_10
      try dsimp only at h
      have hC := (show ([0, 1, 2, 3, 4, 5, 6, 7, 8] : List Nat).map (fun i : Nat => (kWX5_put2 cB cI cL cBB cII cSh h_this a_this h_a1 n_a1 this_taped this_code this_kind this_rate this_filledp3 this_totalp3 this_bitAt this_k this_e1 this_du this_dv f_this_cubes f_this_turns f_this_round f_this_statep3 f_this_otherp3 f_this_columnp3 f_this_wordsp3 f_this_blockp3 f_a1)[i]?) = List.map some (kWX5_put cB cI cL cBB cII cSh h_this a_this this_taped this_code this_kind this_rate this_filledp3 this_totalp3 this_bitAt this_k this_e1 this_du this_dv f_this_cubes f_this_turns f_this_round f_this_statep3 f_this_otherp3 f_this_columnp3 f_this_wordsp3 f_this_blockp3) from rfl)
      have hPc := kb_Psub hP ([0, 1, 2, 3, 4, 5, 6, 7, 8] : List Nat) hC
      have hDc := kb_Dsub hD ([0, 1, 2, 3, 4, 5, 6, 7, 8] : List Nat) hC (by simp [kb_nd])
      refine kb_call0 (va_runV (As := [.int (f_a1 (p2 + x4p3).toNatClampNeg)]) (rest := []) C0 (kcX5_put l D cB cI cL cBB cII cSh h_this a_this _ (f_a1 (p2 + x4p3).toNatClampNeg) this_taped this_code this_kind this_rate this_filledp3 this_totalp3 this_bitAt this_k this_e1 this_du this_dv f_this_cubes f_this_turns f_this_round f_this_statep3 f_this_otherp3 f_this_columnp3 f_this_wordsp3 f_this_blockp3 (w_3, w_4, f_5, f_6, f_7, f_8, f_9) hu_10) (cwV 1 hts (kb_gV km_641 km_643 kp_22 km_6 km_644) rfl rfl rfl (by decide +kernel) ⟨Nat.le_of_ble_eq_true rfl, Nat.le_of_ble_eq_true rfl⟩) ⟨kb_P_bl, va_recv hK hP (ci := 5) (q0 := 0) rfl rfl, (fun U hU hW => ⟨rfl, by rw [hU], by rw [hU]; exact hPc, va_K.moved hW.alike hK, kb_N_to hW hN, hDc.weaken (fun _ _ _ _ => trivial)⟩)⟩ rfl rfl hl.1 rfl (lv_room (Nat.le_of_ble_eq_true rfl)) kdX5_put2_16 ⟨hcR, hsR⟩) hP hD hS hA ([0, 1, 2, 3, 4, 5, 6, 7, 8] : List Nat) hC rfl (fun H locs hP hD hS => ?_)
      have hP : va_P D kCl (kWX5_put2 cB cI cL cBB cII cSh h_this a_this h_a1 n_a1 this_taped this_code this_kind this_rate w_3 w_4 this_bitAt this_k this_e1 this_du this_dv f_this_cubes f_this_turns f_this_round f_5 f_6 f_7 f_8 f_9 f_a1) H := hP
      have hD : va_D A (kWX5_put2 cB cI cL cBB cII cSh h_this a_this h_a1 n_a1 this_taped this_code this_kind this_rate w_3 w_4 this_bitAt this_k this_e1 this_du this_dv f_this_cubes f_this_turns f_this_round f_5 f_6 f_7 f_8 f_9 f_a1) := hD
      obtain ⟨x4_11, ex4_11⟩ : ∃ y : Int32, y = x4p3 + Int32.ofInt 1 := ⟨_, rfl⟩
      have h := kb_n_s ex4_11 h
      refine lv_iinc (v := x4_11) (lv' := [(4, .int x4_11), (0, .ref h_this), (1, .ref h_a1), (2, .int p2), (3, .int p3)]) hx hb kdX5_put2_19 hl (k := 4) rfl ex4_11.symm (by decide) rfl (fun ls hl => ?_)
      refine lv_goto (tgt := 3) hx hb kdX5_put2_22 (by decide) ?_
      obtain rfl := Option.some.inj h
      exact ih x4_11 w_3 w_4 f_9 f_7 f_6 f_5 f_8 r ho _ _ _ hP hD hS (lv_sub hl [1, 2, 3, 4, 0] rfl) hk0
set_option maxHeartbeats 4000000 in
set_option maxRecDepth 100000 in
theorem kcX5_put2 (l : Launch) (D : va_G) (cB cI cL cBB cII cSh : ClassId) (h_this h_a1 : Nat) (a_this : Nat → Nat) (sz : Nat) (p2 : Int32) (p3 : Int32) (n_a1 : Nat) (this_taped : Int32) (this_code : Int32) (this_kind : Int32) (this_rate : Int32) (this_filled : Int32) (this_total : Int64) (this_bitAt : Int32) (this_k : Int32) (this_e1 : Int32) (this_du : Int32) (this_dv : Int32) (f_this_cubes : Nat → Int64) (f_this_turns : Nat → Int32) (f_this_round : Nat → Int64) (f_this_state : Nat → Int64) (f_this_other : Nat → Int64) (f_this_column : Nat → Int64) (f_this_words : Nat → Int64) (f_this_block : Nat → Int32) (f_a1 : Nat → Int32) (out : Int32 × Int64 × (Nat → Int64) × (Nat → Int64) × (Nat → Int64) × (Nat → Int64) × (Nat → Int32)) (h : kFX5_put2 p2 p3 n_a1 this_kind this_rate this_filled this_total f_this_cubes f_this_turns f_this_round f_this_state f_this_other f_this_column f_this_words f_this_block f_a1 = some out) : Met l kyX5_put2 kwX5_put2 krX5_put2 (kb_P D kCl (kb_T cB cI cL cBB cII cSh) [.ref h_this, .ref h_a1, .int p2, .int p3] (kWX5_put2 cB cI cL cBB cII cSh h_this a_this h_a1 n_a1 this_taped this_code this_kind this_rate this_filled this_total this_bitAt this_k this_e1 this_du this_dv f_this_cubes f_this_turns f_this_round f_this_state f_this_other f_this_column f_this_words f_this_block f_a1) sz) (kb_Q D kCl (kb_T cB cI cL cBB cII cSh) (va_A (kWX5_put2 cB cI cL cBB cII cSh h_this a_this h_a1 n_a1 this_taped this_code this_kind this_rate this_filled this_total this_bitAt this_k this_e1 this_du this_dv f_this_cubes f_this_turns f_this_round f_this_state f_this_other f_this_column f_this_words f_this_block f_a1) sz) none (kWX5_put2 cB cI cL cBB cII cSh h_this a_this h_a1 n_a1 this_taped this_code this_kind this_rate out.1 out.2.1 this_bitAt this_k this_e1 this_du this_dv f_this_cubes f_this_turns f_this_round out.2.2.1 out.2.2.2.1 out.2.2.2.2.1 out.2.2.2.2.2.1 out.2.2.2.2.2.2 f_a1)) 0 0 (va_A (kWX5_put2 cB cI cL cBB cII cSh h_this a_this h_a1 n_a1 this_taped this_code this_kind this_rate this_filled this_total this_bitAt this_k this_e1 this_du this_dv f_this_cubes f_this_turns f_this_round f_this_state f_this_other f_this_column f_this_words f_this_block f_a1) sz) := by
  refine Met.ofW (cc := prog_8_method_28_code) (maxL := 5) (ret := none) (by decide) rfl ?_
  intro p e s m args below meth c s₁ B hml hv
  obtain ⟨rfl, hsz, hP, hK, hN, hD0⟩ := hv
  have hx := B.exec
  have hb := B.bytes
  have hr := B.returns
  have hts0 := atoms_spec (ws := kwX5_put2) B.pre
  have hts : ∀ w ∈ kwA, w.before _ s = true := fun w h => hts0 w (List.mem_cons_of_mem _ h)
  have hown : s.vm.findClass kRX5 = some m.cls := findClass_of_methodNamed B.named
  have hlocks := B.notSynchronized
  subst hsz
  have hD := hD0.self (sz := s.heap.size)
  generalize hAe : va_A (kWX5_put2 cB cI cL cBB cII cSh h_this a_this h_a1 n_a1 this_taped this_code this_kind this_rate this_filled this_total this_bitAt this_k this_e1 this_du this_dv f_this_cubes f_this_turns f_this_round f_this_state f_this_other f_this_column f_this_words f_this_block f_a1) s.heap.size = A at hD ⊢
  have hA : ∀ q : Nat, s.heap.size ≤ q → A q := fun q h => by rw [← hAe]; exact Or.inr h
  have hS : va_S A s.heap s.heap [] := va_S.rf
  have C0 : CallFix p m c prog_8_method_28_code 5 s _ kwA kRX5 := ⟨hx, hb, hml, hown, hts⟩
  have hl := lv_entry ([.ref h_this, .ref h_a1, .int p2, .int p3]) (n := 5) (Nat.le_of_ble_eq_true rfl)
  rw [lg_entry_eq]
  generalize (lg_sl ([.ref h_this, .ref h_a1, .int p2, .int p3]) ++ List.replicate (5 - (lg_sl ([.ref h_this, .ref h_a1, .int p2, .int p3])).length) Slot.unset).toArray = ls at hl ⊢
  have hl : lv_has ls 5 [(0, .ref h_this), (1, .ref h_a1), (2, .int p2), (3, .int p3)] := hl
  unfold kFX5_put2 at h
  refine lv_iconst (v := 0) hx hb kdX5_put2_0 (by decide) ?_
  refine lv_istore (lv' := [(4, .int (0 : Int32)), (0, .ref h_this), (1, .ref h_a1), (2, .int p2), (3, .int p3)]) hx hb kdX5_put2_1 hl (by decide) rfl (fun ls hl => ?_)
  obtain ⟨r_20, hr_20, h⟩ := kb_o_s h
  refine klX5_put2_3 C0 hlocks hK hN hA (by decide) (by decide) h_this h_a1 a_this p2 p3 n_a1 this_taped this_code this_kind this_rate this_bitAt this_k this_e1 this_du this_dv f_this_cubes f_this_turns f_this_round f_a1 100000 (0 : Int32) this_filled this_total f_this_block f_this_column f_this_other f_this_state f_this_words r_20 hr_20 _ _ _ hP hD hS (lv_sub hl [1, 2, 3, 4, 0] rfl) (fun x4p3_12 this_filledp3_13 this_totalp3_14 f_this_blockp3_15 f_this_columnp3_16 f_this_otherp3_17 f_this_statep3_18 f_this_wordsp3_19 er_20 H locs ls hP hD hS hl => ?_)
  subst er_20
  try dsimp only at h
  obtain rfl := Option.some.inj h
  exact W.vret hx hb hr (fun t ht hW => ⟨⟨rfl, by rw [ht]; exact hP, va_K.moved hW.alike hK, hD⟩, hS.F ht⟩) hS.2.2 kdX5_put2_25

-- 488.ModuleKemModel.finish.lean.txt
abbrev kWX5_finish (cB cI cL cBB cII cSh : ClassId) (h_this : Nat) (a_this : Nat → Nat) (this_taped : Int32) (this_code : Int32) (this_kind : Int32) (this_rate : Int32) (this_filled : Int32) (this_total : Int64) (this_bitAt : Int32) (this_k : Int32) (this_e1 : Int32) (this_du : Int32) (this_dv : Int32) (f_this_cubes : Nat → Int64) (f_this_turns : Nat → Int32) (f_this_round : Nat → Int64) (f_this_state : Nat → Int64) (f_this_other : Nat → Int64) (f_this_column : Nat → Int64) (f_this_words : Nat → Int64) (f_this_block : Nat → Int32) : va_W := [(h_this, koX5 a_this this_taped this_code this_kind this_rate this_filled this_total this_bitAt this_k this_e1 this_du this_dv), ((a_this 6), .inl (cL, 80, .inr (.inl f_this_cubes))), ((a_this 11), .inl (cI, 25, .inl f_this_turns)), ((a_this 12), .inl (cL, 24, .inr (.inl f_this_round))), ((a_this 13), .inl (cL, 25, .inr (.inl f_this_state))), ((a_this 14), .inl (cL, 25, .inr (.inl f_this_other))), ((a_this 15), .inl (cL, 5, .inr (.inl f_this_column))), ((a_this 16), .inl (cL, 80, .inr (.inl f_this_words))), ((a_this 17), .inl (cB, 128, .inl f_this_block))]
def krX5_finish : Room := { frames := 3, cells := 0, slots := 0, locals := 84 }
set_option maxHeartbeats 4000000 in
set_option maxRecDepth 100000 in
theorem klX5_finish_70 {p : Program} {l : Launch} {e : Env} {s : State} {m : MethodId} {args : Array Value} {below : List Frame} {meth : Method} {c : Code} {cells slots : Nat} {Q : State → Prop} {D : va_G} {cB cI cL cBB cII cSh : ClassId} {A : Nat → Prop} (C0 : CallFix p m c prog_8_method_35_code 4 s args kwA kRX5) (hlocks : meth.locks = false) (hK : va_K D kCl (kb_T cB cI cL cBB cII cSh) s) (hN : kb_N s) (hA : ∀ q, s.heap.size ≤ q → A q) (hcR : cells ≤ krX5_finish.cells) (hsR : slots ≤ krX5_finish.slots) (h_this : Nat) (a_this : Nat → Nat) (x1_4 : Int64) (this_taped : Int32) (this_code : Int32) (this_kind : Int32) (this_rate : Int32) (this_bitAt : Int32) (this_k : Int32) (this_e1 : Int32) (this_du : Int32) (this_dv : Int32) (f_this_cubes : Nat → Int64) (f_this_turns : Nat → Int32) (f_this_round : Nat → Int64) :
    ∀ (fuel : Nat) (this_filledp70 : Int32) (this_totalp70 : Int64) (f_this_blockp70 : Nat → Int32) (f_this_columnp70 : Nat → Int64) (f_this_otherp70 : Nat → Int64) (f_this_statep70 : Nat → Int64) (f_this_wordsp70 : Nat → Int64) (r : Int32 × Int64 × (Nat → Int32) × (Nat → Int64) × (Nat → Int64) × (Nat → Int64) × (Nat → Int64)), kb_w (fun u : Int32 × Int64 × (Nat → Int32) × (Nat → Int64) × (Nat → Int64) × (Nat → Int64) × (Nat → Int64) => kSX5_finish_70 this_kind this_rate f_this_cubes f_this_turns f_this_round u.1 u.2.1 u.2.2.1 u.2.2.2.1 u.2.2.2.2.1 u.2.2.2.2.2.1 u.2.2.2.2.2.2) fuel (this_filledp70, this_totalp70, f_this_blockp70, f_this_columnp70, f_this_otherp70, f_this_statep70, f_this_wordsp70) = some r → ∀ (H : Heap) (locs : List Loc) (ls : Array Slot), va_P D kCl (kWX5_finish cB cI cL cBB cII cSh h_this a_this this_taped this_code this_kind this_rate this_filledp70 this_totalp70 this_bitAt this_k this_e1 this_du this_dv f_this_cubes f_this_turns f_this_round f_this_statep70 f_this_otherp70 f_this_columnp70 f_this_wordsp70 f_this_blockp70) H → va_D A (kWX5_finish cB cI cL cBB cII cSh h_this a_this this_taped this_code this_kind this_rate this_filledp70 this_totalp70 this_bitAt this_k this_e1 this_du this_dv f_this_cubes f_this_turns f_this_round f_this_statep70 f_this_otherp70 f_this_columnp70 f_this_wordsp70 f_this_blockp70) → va_S A s.heap H locs → lv_has ls 4 [(0, .ref h_this), (1, .long x1_4)] → (∀ (this_filledp70' : Int32) (this_totalp70' : Int64) (f_this_blockp70' : Nat → Int32) (f_this_columnp70' : Nat → Int64) (f_this_otherp70' : Nat → Int64) (f_this_statep70' : Nat → Int64) (f_this_wordsp70' : Nat → Int64), r = (this_filledp70', this_totalp70', f_this_blockp70', f_this_columnp70', f_this_otherp70', f_this_statep70', f_this_wordsp70') → ∀ (H : Heap) (locs : List Loc) (ls : Array Slot), va_P D kCl (kWX5_finish cB cI cL cBB cII cSh h_this a_this this_taped this_code this_kind this_rate this_filledp70' this_totalp70' this_bitAt this_k this_e1 this_du this_dv f_this_cubes f_this_turns f_this_round f_this_statep70' f_this_otherp70' f_this_columnp70' f_this_wordsp70' f_this_blockp70') H → va_D A (kWX5_finish cB cI cL cBB cII cSh h_this a_this this_taped this_code this_kind this_rate this_filledp70' this_totalp70' this_bitAt this_k this_e1 this_du this_dv f_this_cubes f_this_turns f_this_round f_this_statep70' f_this_otherp70' f_this_columnp70' f_this_wordsp70' f_this_blockp70') → va_S A s.heap H locs → lv_has ls 4 [(0, .ref h_this), (1, .long x1_4)] → W p l e krX5_finish s m args below meth c H locs cells slots Q (F0 m 97 ls [])) → W p l e krX5_finish s m args below meth c H locs cells slots Q (F0 m 70 ls []) := by
  obtain ⟨hx, hb, hml, hown, hts⟩ := id C0
  intro fuel
  induction fuel with
  | zero =>
    intro this_filledp70 this_totalp70 f_this_blockp70 f_this_columnp70 f_this_otherp70 f_this_statep70 f_this_wordsp70 r h
    exact absurd h (kb_w_z _ _ _)
  | succ fuel ih =>
    intro this_filledp70 this_totalp70 f_this_blockp70 f_this_columnp70 f_this_otherp70 f_this_statep70 f_this_wordsp70 r h H locs ls hP hD hS hl hk0
    obtain ⟨o, h, ho⟩ := kb_w_s h
    have h : kSX5_finish_70 this_kind this_rate f_this_cubes f_this_turns f_this_round this_filledp70 this_totalp70 f_this_blockp70 f_this_columnp70 f_this_otherp70 f_this_statep70 f_this_wordsp70 = some o := h
    unfold kSX5_finish_70 at h
    refine lv_aload_n hx hb kdX5_finish_70 rfl (lv_at hl 0 rfl) ?_
    refine va_get (ci := 5) (v := .int this_filledp70) (C := kRX5) (T := kTX5) (N := 35) hx hb hts kinX5 hown hK hP 0 rfl rfl 20 (by decide) (hts _ km_701) (fun _ h9 => h9) rfl kdX5_finish_71 ?_
    refine lv_aload_n hx hb kdX5_finish_74 rfl (lv_at hl 0 rfl) ?_
    refine va_get (ci := 5) (v := .int this_rate) (C := kRX5) (T := kTX5) (N := 35) hx hb hts kinX5 hown hK hP 0 rfl rfl 19 (by decide) (hts _ km_700) (fun _ h9 => h9) rfl kdX5_finish_75 ?_
    refine lv_aload_n hx hb kdX5_finish_78 rfl (lv_at hl 0 rfl) ?_
    refine va_get (ci := 5) (v := .int this_rate) (C := kRX5) (T := kTX5) (N := 35) hx hb hts kinX5 hown hK hP 0 rfl rfl 19 (by decide) (hts _ km_700) (fun _ h9 => h9) rfl kdX5_finish_79 ?_
    refine lv_bipush (v := 8) hx hb kdX5_finish_82 (by decide) ?_
    refine lv_idiv hx hb kdX5_finish_84 (by decide) ?_
    refine lv_isub hx hb kdX5_finish_85 ?_
    refine lv_icmp_eq (tgt := 97) hx hb kdX5_finish_86 (by decide) (fun c_13 => ?_) (fun c_13 => ?_)
    · have h := kb_b_t c_13 h
      obtain rfl := Option.some.inj h
      exact hk0 this_filledp70 this_totalp70 f_this_blockp70 f_this_columnp70 f_this_otherp70 f_this_statep70 f_this_wordsp70 ho.symm _ _ _ hP hD hS (lv_sub hl [0, 1] rfl)
    · have h := kb_b_f c_13 h
      refine lv_aload_n hx hb kdX5_finish_89 rfl (lv_at hl 0 rfl) ?_
      refine lv_iconst (v := 0) hx hb kdX5_finish_90 (by decide) ?_
      obtain ⟨u_21, hu_21, h⟩ := kb_o_s h
      obtain ⟨w_14, w_15, f_16, f_17, f_18, f_19, f_20⟩ := u_21
      try dsimp only at h
      have hC := (show ([0, 1, 2, 3, 4, 5, 6, 7, 8] : List Nat).map (fun i : Nat => (kWX5_finish cB cI cL cBB cII cSh h_this a_this this_taped this_code this_kind this_rate this_filledp70 this_totalp70 this_bitAt this_k this_e1 this_du this_dv f_this_cubes f_this_turns f_this_round f_this_statep70 f_this_otherp70 f_this_columnp70 f_this_wordsp70 f_this_blockp70)[i]?) = List.map some (kWX5_put cB cI cL cBB cII cSh h_this a_this this_taped this_code this_kind this_rate this_filledp70 this_totalp70 this_bitAt this_k this_e1 this_du this_dv f_this_cubes f_this_turns f_this_round f_this_statep70 f_this_otherp70 f_this_columnp70 f_this_wordsp70 f_this_blockp70) from rfl)
      have hPc := kb_Psub hP ([0, 1, 2, 3, 4, 5, 6, 7, 8] : List Nat) hC
      have hDc := kb_Dsub hD ([0, 1, 2, 3, 4, 5, 6, 7, 8] : List Nat) hC (by simp [kb_nd])
      refine kb_call0 (va_runV (As := [.int (0 : Int32)]) (rest := []) C0 (kcX5_put l D cB cI cL cBB cII cSh h_this a_this _ (0 : Int32) this_taped this_code this_kind this_rate this_filledp70 this_totalp70 this_bitAt this_k this_e1 this_du this_dv f_this_cubes f_this_turns f_this_round f_this_statep70 f_this_otherp70 f_this_columnp70 f_this_wordsp70 f_this_blockp70 (w_14, w_15, f_16, f_17, f_18, f_19, f_20) hu_21) (cwV 1 hts (kb_gV km_641 km_643 kp_22 km_6 km_644) rfl rfl rfl (by decide +kernel) ⟨Nat.le_of_ble_eq_true rfl, Nat.le_of_ble_eq_true rfl⟩) ⟨kb_P_bl, va_recv hK hP (ci := 5) (q0 := 0) rfl rfl, (fun U hU hW => ⟨rfl, by rw [hU], by rw [hU]; exact hPc, va_K.moved hW.alike hK, kb_N_to hW hN, hDc.weaken (fun _ _ _ _ => trivial)⟩)⟩ rfl rfl hl.1 rfl (lv_room (Nat.le_of_ble_eq_true rfl)) kdX5_finish_91 ⟨hcR, hsR⟩) hP hD hS hA ([0, 1, 2, 3, 4, 5, 6, 7, 8] : List Nat) hC rfl (fun H locs hP hD hS => ?_)
      have hP : va_P D kCl (kWX5_finish cB cI cL cBB cII cSh h_this a_this this_taped this_code this_kind this_rate w_14 w_15 this_bitAt this_k this_e1 this_du this_dv f_this_cubes f_this_turns f_this_round f_16 f_17 f_18 f_19 f_20) H := hP
      have hD : va_D A (kWX5_finish cB cI cL cBB cII cSh h_this a_this this_taped this_code this_kind this_rate w_14 w_15 this_bitAt this_k this_e1 this_du this_dv f_this_cubes f_this_turns f_this_round f_16 f_17 f_18 f_19 f_20) := hD
      refine lv_goto (tgt := 70) hx hb kdX5_finish_94 (by decide) ?_
      obtain rfl := Option.some.inj h
      exact ih w_14 w_15 f_20 f_18 f_17 f_16 f_19 r ho _ _ _ hP hD hS (lv_sub hl [0, 1] rfl) hk0
set_option maxHeartbeats 4000000 in
set_option maxRecDepth 100000 in
theorem klX5_finish_107 {p : Program} {l : Launch} {e : Env} {s : State} {m : MethodId} {args : Array Value} {below : List Frame} {meth : Method} {c : Code} {cells slots : Nat} {Q : State → Prop} {D : va_G} {cB cI cL cBB cII cSh : ClassId} {A : Nat → Prop} (C0 : CallFix p m c prog_8_method_35_code 4 s args kwA kRX5) (hlocks : meth.locks = false) (hK : va_K D kCl (kb_T cB cI cL cBB cII cSh) s) (hN : kb_N s) (hA : ∀ q, s.heap.size ≤ q → A q) (hcR : cells ≤ krX5_finish.cells) (hsR : slots ≤ krX5_finish.slots) (h_this : Nat) (a_this : Nat → Nat) (x1_4 : Int64) (this_taped : Int32) (this_code : Int32) (this_kind : Int32) (this_rate : Int32) (this_bitAt : Int32) (this_k : Int32) (this_e1 : Int32) (this_du : Int32) (this_dv : Int32) (f_this_cubes : Nat → Int64) (f_this_turns : Nat → Int32) (f_this_round : Nat → Int64) :
    ∀ (fuel : Nat) (x3p107 : Int32) (this_filledp107 : Int32) (this_totalp107 : Int64) (f_this_blockp107 : Nat → Int32) (f_this_columnp107 : Nat → Int64) (f_this_otherp107 : Nat → Int64) (f_this_statep107 : Nat → Int64) (f_this_wordsp107 : Nat → Int64) (r : Int32 × Int32 × Int64 × (Nat → Int32) × (Nat → Int64) × (Nat → Int64) × (Nat → Int64) × (Nat → Int64)), kb_w (fun u : Int32 × Int32 × Int64 × (Nat → Int32) × (Nat → Int64) × (Nat → Int64) × (Nat → Int64) × (Nat → Int64) => kSX5_finish_107 x1_4 this_kind this_rate f_this_cubes f_this_turns f_this_round u.1 u.2.1 u.2.2.1 u.2.2.2.1 u.2.2.2.2.1 u.2.2.2.2.2.1 u.2.2.2.2.2.2.1 u.2.2.2.2.2.2.2) fuel (x3p107, this_filledp107, this_totalp107, f_this_blockp107, f_this_columnp107, f_this_otherp107, f_this_statep107, f_this_wordsp107) = some r → ∀ (H : Heap) (locs : List Loc) (ls : Array Slot), va_P D kCl (kWX5_finish cB cI cL cBB cII cSh h_this a_this this_taped this_code this_kind this_rate this_filledp107 this_totalp107 this_bitAt this_k this_e1 this_du this_dv f_this_cubes f_this_turns f_this_round f_this_statep107 f_this_otherp107 f_this_columnp107 f_this_wordsp107 f_this_blockp107) H → va_D A (kWX5_finish cB cI cL cBB cII cSh h_this a_this this_taped this_code this_kind this_rate this_filledp107 this_totalp107 this_bitAt this_k this_e1 this_du this_dv f_this_cubes f_this_turns f_this_round f_this_statep107 f_this_otherp107 f_this_columnp107 f_this_wordsp107 f_this_blockp107) → va_S A s.heap H locs → lv_has ls 4 [(0, .ref h_this), (1, .long x1_4), (3, .int x3p107)] → (∀ (x3p107' : Int32) (this_filledp107' : Int32) (this_totalp107' : Int64) (f_this_blockp107' : Nat → Int32) (f_this_columnp107' : Nat → Int64) (f_this_otherp107' : Nat → Int64) (f_this_statep107' : Nat → Int64) (f_this_wordsp107' : Nat → Int64), r = (x3p107', this_filledp107', this_totalp107', f_this_blockp107', f_this_columnp107', f_this_otherp107', f_this_statep107', f_this_wordsp107') → ∀ (H : Heap) (locs : List Loc) (ls : Array Slot), va_P D kCl (kWX5_finish cB cI cL cBB cII cSh h_this a_this this_taped this_code this_kind this_rate this_filledp107' this_totalp107' this_bitAt this_k this_e1 this_du this_dv f_this_cubes f_this_turns f_this_round f_this_statep107' f_this_otherp107' f_this_columnp107' f_this_wordsp107' f_this_blockp107') H → va_D A (kWX5_finish cB cI cL cBB cII cSh h_this a_this this_taped this_code this_kind this_rate this_filledp107' this_totalp107' this_bitAt this_k this_e1 this_du this_dv f_this_cubes f_this_turns f_this_round f_this_statep107' f_this_otherp107' f_this_columnp107' f_this_wordsp107' f_this_blockp107') → va_S A s.heap H locs → lv_has ls 4 [(0, .ref h_this), (1, .long x1_4), (3, .int x3p107')] → W p l e krX5_finish s m args below meth c H locs cells slots Q (F0 m 138 ls [])) → W p l e krX5_finish s m args below meth c H locs cells slots Q (F0 m 107 ls []) := by
  obtain ⟨hx, hb, hml, hown, hts⟩ := id C0
  intro fuel
  induction fuel with
  | zero =>
    intro x3p107 this_filledp107 this_totalp107 f_this_blockp107 f_this_columnp107 f_this_otherp107 f_this_statep107 f_this_wordsp107 r h
    exact absurd h (kb_w_z _ _ _)
  | succ fuel ih =>
    intro x3p107 this_filledp107 this_totalp107 f_this_blockp107 f_this_columnp107 f_this_otherp107 f_this_statep107 f_this_wordsp107 r h H locs ls hP hD hS hl hk0
    obtain ⟨o, h, ho⟩ := kb_w_s h
    have h : kSX5_finish_107 x1_4 this_kind this_rate f_this_cubes f_this_turns f_this_round x3p107 this_filledp107 this_totalp107 f_this_blockp107 f_this_columnp107 f_this_otherp107 f_this_statep107 f_this_wordsp107 = some o := h
    unfold kSX5_finish_107 at h
    refine lv_iload_n hx hb kdX5_finish_107 rfl (lv_at hl 2 rfl) ?_
    refine lv_if_lt (tgt := 138) hx hb kdX5_finish_108 (by decide) (fun c_30 => ?_) (fun c_30 => ?_)
    · have h := kb_b_t c_30 h
      obtain rfl := Option.some.inj h
      exact hk0 x3p107 this_filledp107 this_totalp107 f_this_blockp107 f_this_columnp107 f_this_otherp107 f_this_statep107 f_this_wordsp107 ho.symm _ _ _ hP hD hS (lv_sub hl [0, 1, 2] rfl)
    · have h := kb_b_f c_30 h
      refine lv_aload_n hx hb kdX5_finish_111 rfl (lv_at hl 0 rfl) ?_
      refine lv_iload_n hx hb kdX5_finish_112 rfl (lv_at hl 2 rfl) ?_
      refine lv_bipush (v := 8) hx hb kdX5_finish_113 (by decide) ?_
      refine lv_icmp_ge (tgt := 128) hx hb kdX5_finish_115 (by decide) (fun c_31 => ?_) (fun c_31 => ?_)
      · have h := kb_b_t c_31 h
        refine lv_iconst (v := 0) hx hb kdX5_finish_128 (by decide) ?_
        obtain ⟨u_39, hu_39, h⟩ := kb_o_s h
        obtain ⟨w_32, w_33, f_34, f_35, f_36, f_37, f_38⟩ := u_39
        try dsimp only at h
        have hC := (show ([0, 1, 2, 3, 4, 5, 6, 7, 8] : List Nat).map (fun i : Nat => (kWX5_finish cB cI cL cBB cII cSh h_this a_this this_taped this_code this_kind this_rate this_filledp107 this_totalp107 this_bitAt this_k this_e1 this_du this_dv f_this_cubes f_this_turns f_this_round f_this_statep107 f_this_otherp107 f_this_columnp107 f_this_wordsp107 f_this_blockp107)[i]?) = List.map some (kWX5_put cB cI cL cBB cII cSh h_this a_this this_taped this_code this_kind this_rate this_filledp107 this_totalp107 this_bitAt this_k this_e1 this_du this_dv f_this_cubes f_this_turns f_this_round f_this_statep107 f_this_otherp107 f_this_columnp107 f_this_wordsp107 f_this_blockp107) from rfl)
        have hPc := kb_Psub hP ([0, 1, 2, 3, 4, 5, 6, 7, 8] : List Nat) hC
        have hDc := kb_Dsub hD ([0, 1, 2, 3, 4, 5, 6, 7, 8] : List Nat) hC (by simp [kb_nd])
        refine kb_call0 (va_runV (As := [.int (0 : Int32)]) (rest := []) C0 (kcX5_put l D cB cI cL cBB cII cSh h_this a_this _ (0 : Int32) this_taped this_code this_kind this_rate this_filledp107 this_totalp107 this_bitAt this_k this_e1 this_du this_dv f_this_cubes f_this_turns f_this_round f_this_statep107 f_this_otherp107 f_this_columnp107 f_this_wordsp107 f_this_blockp107 (w_32, w_33, f_34, f_35, f_36, f_37, f_38) hu_39) (cwV 1 hts (kb_gV km_641 km_643 kp_22 km_6 km_644) rfl rfl rfl (by decide +kernel) ⟨Nat.le_of_ble_eq_true rfl, Nat.le_of_ble_eq_true rfl⟩) ⟨kb_P_bl, va_recv hK hP (ci := 5) (q0 := 0) rfl rfl, (fun U hU hW => ⟨rfl, by rw [hU], by rw [hU]; exact hPc, va_K.moved hW.alike hK, kb_N_to hW hN, hDc.weaken (fun _ _ _ _ => trivial)⟩)⟩ rfl rfl hl.1 rfl (lv_room (Nat.le_of_ble_eq_true rfl)) kdX5_finish_129 ⟨hcR, hsR⟩) hP hD hS hA ([0, 1, 2, 3, 4, 5, 6, 7, 8] : List Nat) hC rfl (fun H locs hP hD hS => ?_)
        have hP : va_P D kCl (kWX5_finish cB cI cL cBB cII cSh h_this a_this this_taped this_code this_kind this_rate w_32 w_33 this_bitAt this_k this_e1 this_du this_dv f_this_cubes f_this_turns f_this_round f_34 f_35 f_36 f_37 f_38) H := hP
        have hD : va_D A (kWX5_finish cB cI cL cBB cII cSh h_this a_this this_taped this_code this_kind this_rate w_32 w_33 this_bitAt this_k this_e1 this_du this_dv f_this_cubes f_this_turns f_this_round f_34 f_35 f_36 f_37 f_38) := hD
        obtain ⟨x3_40, ex3_40⟩ : ∃ y : Int32, y = x3p107 + Int32.ofInt (-1) := ⟨_, rfl⟩
        have h := kb_n_s ex3_40 h
        refine lv_iinc (v := x3_40) (lv' := [(3, .int x3_40), (0, .ref h_this), (1, .long x1_4)]) hx hb kdX5_finish_132 hl (k := 2) rfl ex3_40.symm (by decide) rfl (fun ls hl => ?_)
        refine lv_goto (tgt := 107) hx hb kdX5_finish_135 (by decide) ?_
        obtain rfl := Option.some.inj h
        exact ih x3_40 w_32 w_33 f_38 f_36 f_35 f_34 f_37 r ho _ _ _ hP hD hS (lv_sub hl [1, 2, 0] rfl) hk0
      · have h := kb_b_f c_31 h
        refine lv_lload_n hx hb kdX5_finish_118 rfl (lv_at hl 1 rfl) ?_
        refine lv_bipush (v := 8) hx hb kdX5_finish_119 (by decide) ?_
        refine lv_iload_n hx hb kdX5_finish_121 rfl (lv_at hl 2 rfl) ?_
        refine lv_imul hx hb kdX5_finish_122 ?_
        refine lv_lushr (v := ((x1_4.toUInt64 >>> (((8 : Int32) * x3p107).toInt64.toUInt64 &&& Int64.toUInt64 63)).toInt64)) hx hb kdX5_finish_123 rfl ?_
        refine lv_l2i (v := (((x1_4.toUInt64 >>> (((8 : Int32) * x3p107).toInt64.toUInt64 &&& Int64.toUInt64 63)).toInt64).toInt32)) hx hb kdX5_finish_124 rfl ?_
        refine lv_goto (tgt := 129) hx hb kdX5_finish_125 (by decide) ?_
        obtain ⟨u_48, hu_48, h⟩ := kb_o_s h
        obtain ⟨w_41, w_42, f_43, f_44, f_45, f_46, f_47⟩ := u_48
        try dsimp only at h
        have hC := (show ([0, 1, 2, 3, 4, 5, 6, 7, 8] : List Nat).map (fun i : Nat => (kWX5_finish cB cI cL cBB cII cSh h_this a_this this_taped this_code this_kind this_rate this_filledp107 this_totalp107 this_bitAt this_k this_e1 this_du this_dv f_this_cubes f_this_turns f_this_round f_this_statep107 f_this_otherp107 f_this_columnp107 f_this_wordsp107 f_this_blockp107)[i]?) = List.map some (kWX5_put cB cI cL cBB cII cSh h_this a_this this_taped this_code this_kind this_rate this_filledp107 this_totalp107 this_bitAt this_k this_e1 this_du this_dv f_this_cubes f_this_turns f_this_round f_this_statep107 f_this_otherp107 f_this_columnp107 f_this_wordsp107 f_this_blockp107) from rfl)
        have hPc := kb_Psub hP ([0, 1, 2, 3, 4, 5, 6, 7, 8] : List Nat) hC
        have hDc := kb_Dsub hD ([0, 1, 2, 3, 4, 5, 6, 7, 8] : List Nat) hC (by simp [kb_nd])
        refine kb_call0 (va_runV (As := [.int (((x1_4.toUInt64 >>> (((8 : Int32) * x3p107).toInt64.toUInt64 &&& Int64.toUInt64 63)).toInt64).toInt32)]) (rest := []) C0 (kcX5_put l D cB cI cL cBB cII cSh h_this a_this _ (((x1_4.toUInt64 >>> (((8 : Int32) * x3p107).toInt64.toUInt64 &&& Int64.toUInt64 63)).toInt64).toInt32) this_taped this_code this_kind this_rate this_filledp107 this_totalp107 this_bitAt this_k this_e1 this_du this_dv f_this_cubes f_this_turns f_this_round f_this_statep107 f_this_otherp107 f_this_columnp107 f_this_wordsp107 f_this_blockp107 (w_41, w_42, f_43, f_44, f_45, f_46, f_47) hu_48) (cwV 1 hts (kb_gV km_641 km_643 kp_22 km_6 km_644) rfl rfl rfl (by decide +kernel) ⟨Nat.le_of_ble_eq_true rfl, Nat.le_of_ble_eq_true rfl⟩) ⟨kb_P_bl, va_recv hK hP (ci := 5) (q0 := 0) rfl rfl, (fun U hU hW => ⟨rfl, by rw [hU], by rw [hU]; exact hPc, va_K.moved hW.alike hK, kb_N_to hW hN, hDc.weaken (fun _ _ _ _ => trivial)⟩)⟩ rfl rfl hl.1 rfl (lv_room (Nat.le_of_ble_eq_true rfl)) kdX5_finish_129 ⟨hcR, hsR⟩) hP hD hS hA ([0, 1, 2, 3, 4, 5, 6, 7, 8] : List Nat) hC rfl (fun H locs hP hD hS => ?_)
        have hP : va_P D kCl (kWX5_finish cB cI cL cBB cII cSh h_this a_this this_taped this_code this_kind this_rate w_41 w_42 this_bitAt this_k this_e1 this_du this_dv f_this_cubes f_this_turns f_this_round f_43 f_44 f_45 f_46 f_47) H := hP
        have hD : va_D A (kWX5_finish cB cI cL cBB cII cSh h_this a_this this_taped this_code this_kind this_rate w_41 w_42 this_bitAt this_k this_e1 this_du this_dv f_this_cubes f_this_turns f_this_round f_43 f_44 f_45 f_46 f_47) := hD
        obtain ⟨x3_49, ex3_49⟩ : ∃ y : Int32, y = x3p107 + Int32.ofInt (-1) := ⟨_, rfl⟩
        have h := kb_n_s ex3_49 h
        refine lv_iinc (v := x3_49) (lv' := [(3, .int x3_49), (0, .ref h_this), (1, .long x1_4)]) hx hb kdX5_finish_132 hl (k := 2) rfl ex3_49.symm (by decide) rfl (fun ls hl => ?_)
        refine lv_goto (tgt := 107) hx hb kdX5_finish_135 (by decide) ?_
        obtain rfl := Option.some.inj h
        exact ih x3_49 w_41 w_42 f_47 f_45 f_44 f_43 f_46 r ho _ _ _ hP hD hS (lv_sub hl [1, 2, 0] rfl) hk0
set_option maxHeartbeats 4000000 in
set_option maxRecDepth 100000 in
theorem kcX5_finish (l : Launch) (D : va_G) (cB cI cL cBB cII cSh : ClassId) (h_this : Nat) (a_this : Nat → Nat) (sz : Nat) (this_taped : Int32) (this_code : Int32) (this_kind : Int32) (this_rate : Int32) (this_filled : Int32) (this_total : Int64) (this_bitAt : Int32) (this_k : Int32) (this_e1 : Int32) (this_du : Int32) (this_dv : Int32) (f_this_cubes : Nat → Int64) (f_this_turns : Nat → Int32) (f_this_round : Nat → Int64) (f_this_state : Nat → Int64) (f_this_other : Nat → Int64) (f_this_column : Nat → Int64) (f_this_words : Nat → Int64) (f_this_block : Nat → Int32) (out : Int32 × Int64 × (Nat → Int64) × (Nat → Int64) × (Nat → Int64) × (Nat → Int64) × (Nat → Int32)) (h : kFX5_finish this_kind this_rate this_filled this_total f_this_cubes f_this_turns f_this_round f_this_state f_this_other f_this_column f_this_words f_this_block = some out) : Met l kyX5_finish kwX5_finish krX5_finish (kb_P D kCl (kb_T cB cI cL cBB cII cSh) [.ref h_this] (kWX5_finish cB cI cL cBB cII cSh h_this a_this this_taped this_code this_kind this_rate this_filled this_total this_bitAt this_k this_e1 this_du this_dv f_this_cubes f_this_turns f_this_round f_this_state f_this_other f_this_column f_this_words f_this_block) sz) (kb_Q D kCl (kb_T cB cI cL cBB cII cSh) (va_A (kWX5_finish cB cI cL cBB cII cSh h_this a_this this_taped this_code this_kind this_rate this_filled this_total this_bitAt this_k this_e1 this_du this_dv f_this_cubes f_this_turns f_this_round f_this_state f_this_other f_this_column f_this_words f_this_block) sz) none (kWX5_finish cB cI cL cBB cII cSh h_this a_this this_taped this_code this_kind this_rate out.1 out.2.1 this_bitAt this_k this_e1 this_du this_dv f_this_cubes f_this_turns f_this_round out.2.2.1 out.2.2.2.1 out.2.2.2.2.1 out.2.2.2.2.2.1 out.2.2.2.2.2.2)) 0 0 (va_A (kWX5_finish cB cI cL cBB cII cSh h_this a_this this_taped this_code this_kind this_rate this_filled this_total this_bitAt this_k this_e1 this_du this_dv f_this_cubes f_this_turns f_this_round f_this_state f_this_other f_this_column f_this_words f_this_block) sz) := by
  refine Met.ofW (cc := prog_8_method_35_code) (maxL := 4) (ret := none) (by decide) rfl ?_
  intro p e s m args below meth c s₁ B hml hv
  obtain ⟨rfl, hsz, hP, hK, hN, hD0⟩ := hv
  have hx := B.exec
  have hb := B.bytes
  have hr := B.returns
  have hts0 := atoms_spec (ws := kwX5_finish) B.pre
  have hts : ∀ w ∈ kwA, w.before _ s = true := fun w h => hts0 w (List.mem_cons_of_mem _ h)
  have hown : s.vm.findClass kRX5 = some m.cls := findClass_of_methodNamed B.named
  have hlocks := B.notSynchronized
  subst hsz
  have hD := hD0.self (sz := s.heap.size)
  generalize hAe : va_A (kWX5_finish cB cI cL cBB cII cSh h_this a_this this_taped this_code this_kind this_rate this_filled this_total this_bitAt this_k this_e1 this_du this_dv f_this_cubes f_this_turns f_this_round f_this_state f_this_other f_this_column f_this_words f_this_block) s.heap.size = A at hD ⊢
  have hA : ∀ q : Nat, s.heap.size ≤ q → A q := fun q h => by rw [← hAe]; exact Or.inr h
  have hS : va_S A s.heap s.heap [] := va_S.rf
  have C0 : CallFix p m c prog_8_method_35_code 4 s _ kwA kRX5 := ⟨hx, hb, hml, hown, hts⟩
  have hl := lv_entry ([.ref h_this]) (n := 4) (Nat.le_of_ble_eq_true rfl)
  rw [lg_entry_eq]
  generalize (lg_sl ([.ref h_this]) ++ List.replicate (4 - (lg_sl ([.ref h_this])).length) Slot.unset).toArray = ls at hl ⊢
  have hl : lv_has ls 4 [(0, .ref h_this)] := hl
  unfold kFX5_finish at h
  refine lv_aload_n hx hb kdX5_finish_0 rfl (lv_at hl 0 rfl) ?_
  obtain ⟨u_2, hu_2, h⟩ := kb_o_s h
  obtain ⟨r_1, rfl⟩ : ∃ z, z = u_2 := ⟨_, rfl⟩
  try dsimp only at h
  have hC := (show ([0] : List Nat).map (fun i : Nat => (kWX5_finish cB cI cL cBB cII cSh h_this a_this this_taped this_code this_kind this_rate this_filled this_total this_bitAt this_k this_e1 this_du this_dv f_this_cubes f_this_turns f_this_round f_this_state f_this_other f_this_column f_this_words f_this_block)[i]?) = List.map some (kWX5_sponge cB cI cL cBB cII cSh h_this a_this this_taped this_code this_kind this_rate this_filled this_total this_bitAt this_k this_e1 this_du this_dv) from rfl)
  have hPc := kb_Psub hP ([0] : List Nat) hC
  have hDc := kb_Dsub hD ([0] : List Nat) hC (by simp [kb_nd])
  refine kb_call0 (va_runV (As := []) (rest := []) C0 (kcX5_sponge l D cB cI cL cBB cII cSh h_this a_this _ this_taped this_code this_kind this_rate this_filled this_total this_bitAt this_k this_e1 this_du this_dv r_1 hu_2) (cwV 0 hts (kb_gV km_645 km_647 kp_3 km_6 km_648) rfl rfl rfl (by decide +kernel) ⟨Nat.le_of_ble_eq_true rfl, Nat.le_of_ble_eq_true rfl⟩) ⟨kb_P_bl, va_recv hK hP (ci := 5) (q0 := 0) rfl rfl, (fun U hU hW => ⟨rfl, by rw [hU], by rw [hU]; exact hPc, va_K.moved hW.alike hK, kb_N_to hW hN, hDc.weaken (fun _ _ _ _ => trivial)⟩)⟩ rfl rfl hl.1 rfl (lv_room (Nat.le_of_ble_eq_true rfl)) kdX5_finish_1 ⟨Nat.le_of_ble_eq_true rfl, Nat.le_of_ble_eq_true rfl⟩) hP hD hS hA ([0] : List Nat) hC rfl (fun H locs hP hD hS => ?_)
  have hP : va_P D kCl (kWX5_finish cB cI cL cBB cII cSh h_this a_this this_taped this_code this_kind this_rate this_filled this_total this_bitAt this_k this_e1 this_du this_dv f_this_cubes f_this_turns f_this_round f_this_state f_this_other f_this_column f_this_words f_this_block) H := hP
  have hD : va_D A (kWX5_finish cB cI cL cBB cII cSh h_this a_this this_taped this_code this_kind this_rate this_filled this_total this_bitAt this_k this_e1 this_du this_dv f_this_cubes f_this_turns f_this_round f_this_state f_this_other f_this_column f_this_words f_this_block) := hD
  refine lv_if_eq (tgt := 54) hx hb kdX5_finish_4 (by decide) (fun c_3 => ?_) (fun c_3 => ?_)
  · have h := kb_b_t c_3 h
    refine lv_ldc2 (v := 8) hx hb hown (hts _ km_680) kdX5_finish_54 ?_
    refine lv_aload_n hx hb kdX5_finish_57 rfl (lv_at hl 0 rfl) ?_
    refine va_get (ci := 5) (v := .long this_total) (C := kRX5) (T := kTX5) (N := 35) hx hb hts kinX5 hown hK hP 0 rfl rfl 21 (by decide) (hts _ km_702) (fun _ h9 => h9) rfl kdX5_finish_58 ?_
    refine lv_lmul hx hb kdX5_finish_61 ?_
    refine lv_topl (fun x1_4 ex1_4 => ?_)
    have h := kb_n_s ex1_4 h
    refine lv_lstore_n (lv' := [(1, .long x1_4), (0, .ref h_this)]) hx hb kdX5_finish_62 rfl hl (by decide) rfl (fun ls hl => ?_)
    refine lv_aload_n hx hb kdX5_finish_63 rfl (lv_at hl 1 rfl) ?_
    refine lv_sipush (v := 128) hx hb kdX5_finish_64 (by decide) ?_
    obtain ⟨u_12, hu_12, h⟩ := kb_o_s h
    obtain ⟨w_5, w_6, f_7, f_8, f_9, f_10, f_11⟩ := u_12
    try dsimp only at h
    have hC := (show ([0, 1, 2, 3, 4, 5, 6, 7, 8] : List Nat).map (fun i : Nat => (kWX5_finish cB cI cL cBB cII cSh h_this a_this this_taped this_code this_kind this_rate this_filled this_total this_bitAt this_k this_e1 this_du this_dv f_this_cubes f_this_turns f_this_round f_this_state f_this_other f_this_column f_this_words f_this_block)[i]?) = List.map some (kWX5_put cB cI cL cBB cII cSh h_this a_this this_taped this_code this_kind this_rate this_filled this_total this_bitAt this_k this_e1 this_du this_dv f_this_cubes f_this_turns f_this_round f_this_state f_this_other f_this_column f_this_words f_this_block) from rfl)
    have hPc := kb_Psub hP ([0, 1, 2, 3, 4, 5, 6, 7, 8] : List Nat) hC
    have hDc := kb_Dsub hD ([0, 1, 2, 3, 4, 5, 6, 7, 8] : List Nat) hC (by simp [kb_nd])
    refine kb_call0 (va_runV (As := [.int (128 : Int32)]) (rest := []) C0 (kcX5_put l D cB cI cL cBB cII cSh h_this a_this _ (128 : Int32) this_taped this_code this_kind this_rate this_filled this_total this_bitAt this_k this_e1 this_du this_dv f_this_cubes f_this_turns f_this_round f_this_state f_this_other f_this_column f_this_words f_this_block (w_5, w_6, f_7, f_8, f_9, f_10, f_11) hu_12) (cwV 1 hts (kb_gV km_641 km_643 kp_22 km_6 km_644) rfl rfl rfl (by decide +kernel) ⟨Nat.le_of_ble_eq_true rfl, Nat.le_of_ble_eq_true rfl⟩) ⟨kb_P_bl, va_recv hK hP (ci := 5) (q0 := 0) rfl rfl, (fun U hU hW => ⟨rfl, by rw [hU], by rw [hU]; exact hPc, va_K.moved hW.alike hK, kb_N_to hW hN, hDc.weaken (fun _ _ _ _ => trivial)⟩)⟩ rfl rfl hl.1 rfl (lv_room (Nat.le_of_ble_eq_true rfl)) kdX5_finish_67 ⟨Nat.le_of_ble_eq_true rfl, Nat.le_of_ble_eq_true rfl⟩) hP hD hS hA ([0, 1, 2, 3, 4, 5, 6, 7, 8] : List Nat) hC rfl (fun H locs hP hD hS => ?_)
    have hP : va_P D kCl (kWX5_finish cB cI cL cBB cII cSh h_this a_this this_taped this_code this_kind this_rate w_5 w_6 this_bitAt this_k this_e1 this_du this_dv f_this_cubes f_this_turns f_this_round f_7 f_8 f_9 f_10 f_11) H := hP
    have hD : va_D A (kWX5_finish cB cI cL cBB cII cSh h_this a_this this_taped this_code this_kind this_rate w_5 w_6 this_bitAt this_k this_e1 this_du this_dv f_this_cubes f_this_turns f_this_round f_7 f_8 f_9 f_10 f_11) := hD
    obtain ⟨r_59, hr_59, h⟩ := kb_o_s h
    refine klX5_finish_70 C0 hlocks hK hN hA (by decide) (by decide) h_this a_this x1_4 this_taped this_code this_kind this_rate this_bitAt this_k this_e1 this_du this_dv f_this_cubes f_this_turns f_this_round 100000 w_5 w_6 f_11 f_9 f_8 f_7 f_10 r_59 hr_59 _ _ _ hP hD hS (lv_sub hl [1, 0] rfl) (fun this_filledp70_22 this_totalp70_23 f_this_blockp70_24 f_this_columnp70_25 f_this_otherp70_26 f_this_statep70_27 f_this_wordsp70_28 er_59 H locs ls hP hD hS hl => ?_)
    subst er_59
    try dsimp only at h
    refine lv_aload_n hx hb kdX5_finish_97 rfl (lv_at hl 0 rfl) ?_
    refine va_get (ci := 5) (v := .int this_rate) (C := kRX5) (T := kTX5) (N := 35) hx hb hts kinX5 hown hK hP 0 rfl rfl 19 (by decide) (hts _ km_700) (fun _ h9 => h9) rfl kdX5_finish_98 ?_
    refine lv_bipush (v := 8) hx hb kdX5_finish_101 (by decide) ?_
    refine lv_idiv hx hb kdX5_finish_103 (by decide) ?_
    refine lv_iconst (v := 1) hx hb kdX5_finish_104 (by decide) ?_
    refine lv_isub hx hb kdX5_finish_105 ?_
    refine lv_topi (fun x3_29 ex3_29 => ?_)
    have h := kb_n_s ex3_29 h
    refine lv_istore_n (lv' := [(3, .int x3_29), (0, .ref h_this), (1, .long x1_4)]) hx hb kdX5_finish_106 rfl hl (by decide) rfl (fun ls hl => ?_)
    obtain ⟨r_58, hr_58, h⟩ := kb_o_s h
    refine klX5_finish_107 C0 hlocks hK hN hA (by decide) (by decide) h_this a_this x1_4 this_taped this_code this_kind this_rate this_bitAt this_k this_e1 this_du this_dv f_this_cubes f_this_turns f_this_round 100000 x3_29 this_filledp70_22 this_totalp70_23 f_this_blockp70_24 f_this_columnp70_25 f_this_otherp70_26 f_this_statep70_27 f_this_wordsp70_28 r_58 hr_58 _ _ _ hP hD hS (lv_sub hl [1, 2, 0] rfl) (fun x3p107_50 this_filledp107_51 this_totalp107_52 f_this_blockp107_53 f_this_columnp107_54 f_this_otherp107_55 f_this_statep107_56 f_this_wordsp107_57 er_58 H locs ls hP hD hS hl => ?_)
    subst er_58
    try dsimp only at h
    obtain rfl := Option.some.inj h
    exact W.vret hx hb hr (fun t ht hW => ⟨⟨rfl, by rw [ht]; exact hP, va_K.moved hW.alike hK, hD⟩, hS.F ht⟩) hS.2.2 kdX5_finish_138
  · have h := kb_b_f c_3 h
    refine lv_aload_n hx hb kdX5_finish_7 rfl (lv_at hl 0 rfl) ?_
    refine lv_aload_n hx hb kdX5_finish_8 rfl (lv_at hl 0 rfl) ?_
    refine va_get (ci := 5) (v := .int this_filled) (C := kRX5) (T := kTX5) (N := 35) hx hb hts kinX5 hown hK hP 0 rfl rfl 20 (by decide) (hts _ km_701) (fun _ h9 => h9) rfl kdX5_finish_9 ?_
    refine lv_aload_n hx hb kdX5_finish_12 rfl (lv_at hl 0 rfl) ?_
    refine va_get (ci := 5) (v := .int this_kind) (C := kRX5) (T := kTX5) (N := 35) hx hb hts kinX5 hown hK hP 0 rfl rfl 18 (by decide) (hts _ km_699) (fun _ h9 => h9) rfl kdX5_finish_13 ?_
    refine lv_bipush (v := 10) hx hb kdX5_finish_16 (by decide) ?_
    refine lv_icmp_le (tgt := 26) hx hb kdX5_finish_18 (by decide) (fun c_60 => ?_) (fun c_60 => ?_)
    · have h := kb_b_t c_60 h
      refine lv_bipush (v := 6) hx hb kdX5_finish_26 (by decide) ?_
      obtain ⟨u_62, hu_62, h⟩ := kb_o_s h
      obtain ⟨f_61, rfl⟩ : ∃ z, z = u_62 := ⟨_, rfl⟩
      try dsimp only at h
      have hC := (show ([0, 4] : List Nat).map (fun i : Nat => (kWX5_finish cB cI cL cBB cII cSh h_this a_this this_taped this_code this_kind this_rate this_filled this_total this_bitAt this_k this_e1 this_du this_dv f_this_cubes f_this_turns f_this_round f_this_state f_this_other f_this_column f_this_words f_this_block)[i]?) = List.map some (kWX5_flip cB cI cL cBB cII cSh h_this a_this this_taped this_code this_kind this_rate this_filled this_total this_bitAt this_k this_e1 this_du this_dv f_this_state) from rfl)
      have hPc := kb_Psub hP ([0, 4] : List Nat) hC
      have hDc := kb_Dsub hD ([0, 4] : List Nat) hC (by simp [kb_nd])
      refine kb_call0 (va_runV (As := [.int this_filled, .int (6 : Int32)]) (rest := []) C0 (kcX5_flip l D cB cI cL cBB cII cSh h_this a_this _ this_filled (6 : Int32) this_taped this_code this_kind this_rate this_filled this_total this_bitAt this_k this_e1 this_du this_dv f_this_state f_61 hu_62) (cwV 2 hts (kb_gV km_649 km_651 kp_21 km_6 km_652) rfl rfl rfl (by decide +kernel) ⟨Nat.le_of_ble_eq_true rfl, Nat.le_of_ble_eq_true rfl⟩) ⟨kb_P_bl, va_recv hK hP (ci := 5) (q0 := 0) rfl rfl, (fun U hU hW => ⟨rfl, by rw [hU], by rw [hU]; exact hPc, va_K.moved hW.alike hK, kb_N_to hW hN, hDc.weaken (fun _ _ _ _ => trivial)⟩)⟩ rfl rfl hl.1 rfl (lv_room (Nat.le_of_ble_eq_true rfl)) kdX5_finish_28 ⟨Nat.le_of_ble_eq_true rfl, Nat.le_of_ble_eq_true rfl⟩) hP hD hS hA ([0, 4] : List Nat) hC rfl (fun H locs hP hD hS => ?_)
      have hP : va_P D kCl (kWX5_finish cB cI cL cBB cII cSh h_this a_this this_taped this_code this_kind this_rate this_filled this_total this_bitAt this_k this_e1 this_du this_dv f_this_cubes f_this_turns f_this_round f_61 f_this_other f_this_column f_this_words f_this_block) H := hP
      have hD : va_D A (kWX5_finish cB cI cL cBB cII cSh h_this a_this this_taped this_code this_kind this_rate this_filled this_total this_bitAt this_k this_e1 this_du this_dv f_this_cubes f_this_turns f_this_round f_61 f_this_other f_this_column f_this_words f_this_block) := hD
      refine lv_aload_n hx hb kdX5_finish_31 rfl (lv_at hl 0 rfl) ?_
      refine lv_aload_n hx hb kdX5_finish_32 rfl (lv_at hl 0 rfl) ?_
      refine va_get (ci := 5) (v := .int this_rate) (C := kRX5) (T := kTX5) (N := 35) hx hb hts kinX5 hown hK hP 0 rfl rfl 19 (by decide) (hts _ km_700) (fun _ h9 => h9) rfl kdX5_finish_33 ?_
      refine lv_iconst (v := 1) hx hb kdX5_finish_36 (by decide) ?_
      refine lv_isub hx hb kdX5_finish_37 ?_
      refine lv_sipush (v := 128) hx hb kdX5_finish_38 (by decide) ?_
      obtain ⟨u_64, hu_64, h⟩ := kb_o_s h
      obtain ⟨f_63, rfl⟩ : ∃ z, z = u_64 := ⟨_, rfl⟩
      try dsimp only at h
      have hC := (show ([0, 4] : List Nat).map (fun i : Nat => (kWX5_finish cB cI cL cBB cII cSh h_this a_this this_taped this_code this_kind this_rate this_filled this_total this_bitAt this_k this_e1 this_du this_dv f_this_cubes f_this_turns f_this_round f_61 f_this_other f_this_column f_this_words f_this_block)[i]?) = List.map some (kWX5_flip cB cI cL cBB cII cSh h_this a_this this_taped this_code this_kind this_rate this_filled this_total this_bitAt this_k this_e1 this_du this_dv f_61) from rfl)
      have hPc := kb_Psub hP ([0, 4] : List Nat) hC
      have hDc := kb_Dsub hD ([0, 4] : List Nat) hC (by simp [kb_nd])
      refine kb_call0 (va_runV (As := [.int (this_rate - (1 : Int32)), .int (128 : Int32)]) (rest := []) C0 (kcX5_flip l D cB cI cL cBB cII cSh h_this a_this _ (this_rate - (1 : Int32)) (128 : Int32) this_taped this_code this_kind this_rate this_filled this_total this_bitAt this_k this_e1 this_du this_dv f_61 f_63 hu_64) (cwV 2 hts (kb_gV km_649 km_651 kp_21 km_6 km_652) rfl rfl rfl (by decide +kernel) ⟨Nat.le_of_ble_eq_true rfl, Nat.le_of_ble_eq_true rfl⟩) ⟨kb_P_bl, va_recv hK hP (ci := 5) (q0 := 0) rfl rfl, (fun U hU hW => ⟨rfl, by rw [hU], by rw [hU]; exact hPc, va_K.moved hW.alike hK, kb_N_to hW hN, hDc.weaken (fun _ _ _ _ => trivial)⟩)⟩ rfl rfl hl.1 rfl (lv_room (Nat.le_of_ble_eq_true rfl)) kdX5_finish_41 ⟨Nat.le_of_ble_eq_true rfl, Nat.le_of_ble_eq_true rfl⟩) hP hD hS hA ([0, 4] : List Nat) hC rfl (fun H locs hP hD hS => ?_)
      have hP : va_P D kCl (kWX5_finish cB cI cL cBB cII cSh h_this a_this this_taped this_code this_kind this_rate this_filled this_total this_bitAt this_k this_e1 this_du this_dv f_this_cubes f_this_turns f_this_round f_63 f_this_other f_this_column f_this_words f_this_block) H := hP
      have hD : va_D A (kWX5_finish cB cI cL cBB cII cSh h_this a_this this_taped this_code this_kind this_rate this_filled this_total this_bitAt this_k this_e1 this_du this_dv f_this_cubes f_this_turns f_this_round f_63 f_this_other f_this_column f_this_words f_this_block) := hD
      refine lv_aload_n hx hb kdX5_finish_44 rfl (lv_at hl 0 rfl) ?_
      obtain ⟨u_68, hu_68, h⟩ := kb_o_s h
      obtain ⟨f_65, f_66, f_67⟩ := u_68
      try dsimp only at h
      have hC := (show ([0, 2, 3, 4, 5, 6] : List Nat).map (fun i : Nat => (kWX5_finish cB cI cL cBB cII cSh h_this a_this this_taped this_code this_kind this_rate this_filled this_total this_bitAt this_k this_e1 this_du this_dv f_this_cubes f_this_turns f_this_round f_63 f_this_other f_this_column f_this_words f_this_block)[i]?) = List.map some (kWX5_permute cB cI cL cBB cII cSh h_this a_this this_taped this_code this_kind this_rate this_filled this_total this_bitAt this_k this_e1 this_du this_dv f_this_turns f_this_round f_63 f_this_other f_this_column) from rfl)
      have hPc := kb_Psub hP ([0, 2, 3, 4, 5, 6] : List Nat) hC
      have hDc := kb_Dsub hD ([0, 2, 3, 4, 5, 6] : List Nat) hC (by simp [kb_nd])
      refine kb_call0 (va_runV (As := []) (rest := []) C0 (kcX5_permute l D cB cI cL cBB cII cSh h_this a_this _ this_taped this_code this_kind this_rate this_filled this_total this_bitAt this_k this_e1 this_du this_dv f_this_turns f_this_round f_63 f_this_other f_this_column (f_65, f_66, f_67) hu_68) (cwV 0 hts (kb_gV km_654 km_656 kp_18 km_6 km_657) rfl rfl rfl (by decide +kernel) ⟨Nat.le_of_ble_eq_true rfl, Nat.le_of_ble_eq_true rfl⟩) ⟨kb_P_bl, va_recv hK hP (ci := 5) (q0 := 0) rfl rfl, (fun U hU hW => ⟨rfl, by rw [hU], by rw [hU]; exact hPc, va_K.moved hW.alike hK, kb_N_to hW hN, hDc.weaken (fun _ _ _ _ => trivial)⟩)⟩ rfl rfl hl.1 rfl (lv_room (Nat.le_of_ble_eq_true rfl)) kdX5_finish_45 ⟨Nat.le_of_ble_eq_true rfl, Nat.le_of_ble_eq_true rfl⟩) hP hD hS hA ([0, 2, 3, 4, 5, 6] : List Nat) hC rfl (fun H locs hP hD hS => ?_)
      have hP : va_P D kCl (kWX5_finish cB cI cL cBB cII cSh h_this a_this this_taped this_code this_kind this_rate this_filled this_total this_bitAt this_k this_e1 this_du this_dv f_this_cubes f_this_turns f_this_round f_65 f_66 f_67 f_this_words f_this_block) H := hP
      have hD : va_D A (kWX5_finish cB cI cL cBB cII cSh h_this a_this this_taped this_code this_kind this_rate this_filled this_total this_bitAt this_k this_e1 this_du this_dv f_this_cubes f_this_turns f_this_round f_65 f_66 f_67 f_this_words f_this_block) := hD
      refine lv_aload_n hx hb kdX5_finish_48 rfl (lv_at hl 0 rfl) ?_
      refine lv_iconst (v := 0) hx hb kdX5_finish_49 (by decide) ?_
      refine va_put (ci := 5) (v := .int (0 : Int32)) (C := kRX5) (T := kTX5) (N := 35) hx hb hts kinX5 ktyX5 ktyX5_ok knX5 hown hK hP hD hS 0 rfl rfl 20 (by decide) (hts _ km_701) (fun _ h9 => h9) rfl (ktyX5_ok 20 (by decide)) rfl rfl (Nat.le_of_ble_eq_true rfl) kdX5_finish_50 (fun H locs hP hD hS => ?_)
      have hP : va_P D kCl (kWX5_finish cB cI cL cBB cII cSh h_this a_this this_taped this_code this_kind this_rate (0 : Int32) this_total this_bitAt this_k this_e1 this_du this_dv f_this_cubes f_this_turns f_this_round f_65 f_66 f_67 f_this_words f_this_block) H := hP
      have hD : va_D A (kWX5_finish cB cI cL cBB cII cSh h_this a_this this_taped this_code this_kind this_rate (0 : Int32) this_total this_bitAt this_k this_e1 this_du this_dv f_this_cubes f_this_turns f_this_round f_65 f_66 f_67 f_this_words f_this_block) := hD
      obtain rfl := Option.some.inj h
      exact W.vret hx hb hr (fun t ht hW => ⟨⟨rfl, by rw [ht]; exact hP, va_K.moved hW.alike hK, hD⟩, hS.F ht⟩) hS.2.2 kdX5_finish_53
    · have h := kb_b_f c_60 h
      refine lv_bipush (v := 31) hx hb kdX5_finish_21 (by decide) ?_
      refine lv_goto (tgt := 28) hx hb kdX5_finish_23 (by decide) ?_
      obtain ⟨u_70, hu_70, h⟩ := kb_o_s h
      obtain ⟨f_69, rfl⟩ : ∃ z, z = u_70 := ⟨_, rfl⟩
      try dsimp only at h
      have hC := (show ([0, 4] : List Nat).map (fun i : Nat => (kWX5_finish cB cI cL cBB cII cSh h_this a_this this_taped this_code this_kind this_rate this_filled this_total this_bitAt this_k this_e1 this_du this_dv f_this_cubes f_this_turns f_this_round f_this_state f_this_other f_this_column f_this_words f_this_block)[i]?) = List.map some (kWX5_flip cB cI cL cBB cII cSh h_this a_this this_taped this_code this_kind this_rate this_filled this_total this_bitAt this_k this_e1 this_du this_dv f_this_state) from rfl)
      have hPc := kb_Psub hP ([0, 4] : List Nat) hC
      have hDc := kb_Dsub hD ([0, 4] : List Nat) hC (by simp [kb_nd])
      refine kb_call0 (va_runV (As := [.int this_filled, .int (31 : Int32)]) (rest := []) C0 (kcX5_flip l D cB cI cL cBB cII cSh h_this a_this _ this_filled (31 : Int32) this_taped this_code this_kind this_rate this_filled this_total this_bitAt this_k this_e1 this_du this_dv f_this_state f_69 hu_70) (cwV 2 hts (kb_gV km_649 km_651 kp_21 km_6 km_652) rfl rfl rfl (by decide +kernel) ⟨Nat.le_of_ble_eq_true rfl, Nat.le_of_ble_eq_true rfl⟩) ⟨kb_P_bl, va_recv hK hP (ci := 5) (q0 := 0) rfl rfl, (fun U hU hW => ⟨rfl, by rw [hU], by rw [hU]; exact hPc, va_K.moved hW.alike hK, kb_N_to hW hN, hDc.weaken (fun _ _ _ _ => trivial)⟩)⟩ rfl rfl hl.1 rfl (lv_room (Nat.le_of_ble_eq_true rfl)) kdX5_finish_28 ⟨Nat.le_of_ble_eq_true rfl, Nat.le_of_ble_eq_true rfl⟩) hP hD hS hA ([0, 4] : List Nat) hC rfl (fun H locs hP hD hS => ?_)
      have hP : va_P D kCl (kWX5_finish cB cI cL cBB cII cSh h_this a_this this_taped this_code this_kind this_rate this_filled this_total this_bitAt this_k this_e1 this_du this_dv f_this_cubes f_this_turns f_this_round f_69 f_this_other f_this_column f_this_words f_this_block) H := hP
      have hD : va_D A (kWX5_finish cB cI cL cBB cII cSh h_this a_this this_taped this_code this_kind this_rate this_filled this_total this_bitAt this_k this_e1 this_du this_dv f_this_cubes f_this_turns f_this_round f_69 f_this_other f_this_column f_this_words f_this_block) := hD
      refine lv_aload_n hx hb kdX5_finish_31 rfl (lv_at hl 0 rfl) ?_
      refine lv_aload_n hx hb kdX5_finish_32 rfl (lv_at hl 0 rfl) ?_
      refine va_get (ci := 5) (v := .int this_rate) (C := kRX5) (T := kTX5) (N := 35) hx hb hts kinX5 hown hK hP 0 rfl rfl 19 (by decide) (hts _ km_700) (fun _ h9 => h9) rfl kdX5_finish_33 ?_
      refine lv_iconst (v := 1) hx hb kdX5_finish_36 (by decide) ?_
      refine lv_isub hx hb kdX5_finish_37 ?_
      refine lv_sipush (v := 128) hx hb kdX5_finish_38 (by decide) ?_
      obtain ⟨u_72, hu_72, h⟩ := kb_o_s h
      obtain ⟨f_71, rfl⟩ : ∃ z, z = u_72 := ⟨_, rfl⟩
      try dsimp only at h
      have hC := (show ([0, 4] : List Nat).map (fun i : Nat => (kWX5_finish cB cI cL cBB cII cSh h_this a_this this_taped this_code this_kind this_rate this_filled this_total this_bitAt this_k this_e1 this_du this_dv f_this_cubes f_this_turns f_this_round f_69 f_this_other f_this_column f_this_words f_this_block)[i]?) = List.map some (kWX5_flip cB cI cL cBB cII cSh h_this a_this this_taped this_code this_kind this_rate this_filled this_total this_bitAt this_k this_e1 this_du this_dv f_69) from rfl)
      have hPc := kb_Psub hP ([0, 4] : List Nat) hC
      have hDc := kb_Dsub hD ([0, 4] : List Nat) hC (by simp [kb_nd])
      refine kb_call0 (va_runV (As := [.int (this_rate - (1 : Int32)), .int (128 : Int32)]) (rest := []) C0 (kcX5_flip l D cB cI cL cBB cII cSh h_this a_this _ (this_rate - (1 : Int32)) (128 : Int32) this_taped this_code this_kind this_rate this_filled this_total this_bitAt this_k this_e1 this_du this_dv f_69 f_71 hu_72) (cwV 2 hts (kb_gV km_649 km_651 kp_21 km_6 km_652) rfl rfl rfl (by decide +kernel) ⟨Nat.le_of_ble_eq_true rfl, Nat.le_of_ble_eq_true rfl⟩) ⟨kb_P_bl, va_recv hK hP (ci := 5) (q0 := 0) rfl rfl, (fun U hU hW => ⟨rfl, by rw [hU], by rw [hU]; exact hPc, va_K.moved hW.alike hK, kb_N_to hW hN, hDc.weaken (fun _ _ _ _ => trivial)⟩)⟩ rfl rfl hl.1 rfl (lv_room (Nat.le_of_ble_eq_true rfl)) kdX5_finish_41 ⟨Nat.le_of_ble_eq_true rfl, Nat.le_of_ble_eq_true rfl⟩) hP hD hS hA ([0, 4] : List Nat) hC rfl (fun H locs hP hD hS => ?_)
      have hP : va_P D kCl (kWX5_finish cB cI cL cBB cII cSh h_this a_this this_taped this_code this_kind this_rate this_filled this_total this_bitAt this_k this_e1 this_du this_dv f_this_cubes f_this_turns f_this_round f_71 f_this_other f_this_column f_this_words f_this_block) H := hP
      have hD : va_D A (kWX5_finish cB cI cL cBB cII cSh h_this a_this this_taped this_code this_kind this_rate this_filled this_total this_bitAt this_k this_e1 this_du this_dv f_this_cubes f_this_turns f_this_round f_71 f_this_other f_this_column f_this_words f_this_block) := hD
      refine lv_aload_n hx hb kdX5_finish_44 rfl (lv_at hl 0 rfl) ?_
      obtain ⟨u_76, hu_76, h⟩ := kb_o_s h
      obtain ⟨f_73, f_74, f_75⟩ := u_76
      try dsimp only at h
      have hC := (show ([0, 2, 3, 4, 5, 6] : List Nat).map (fun i : Nat => (kWX5_finish cB cI cL cBB cII cSh h_this a_this this_taped this_code this_kind this_rate this_filled this_total this_bitAt this_k this_e1 this_du this_dv f_this_cubes f_this_turns f_this_round f_71 f_this_other f_this_column f_this_words f_this_block)[i]?) = List.map some (kWX5_permute cB cI cL cBB cII cSh h_this a_this this_taped this_code this_kind this_rate this_filled this_total this_bitAt this_k this_e1 this_du this_dv f_this_turns f_this_round f_71 f_this_other f_this_column) from rfl)
      have hPc := kb_Psub hP ([0, 2, 3, 4, 5, 6] : List Nat) hC
      have hDc := kb_Dsub hD ([0, 2, 3, 4, 5, 6] : List Nat) hC (by simp [kb_nd])
      refine kb_call0 (va_runV (As := []) (rest := []) C0 (kcX5_permute l D cB cI cL cBB cII cSh h_this a_this _ this_taped this_code this_kind this_rate this_filled this_total this_bitAt this_k this_e1 this_du this_dv f_this_turns f_this_round f_71 f_this_other f_this_column (f_73, f_74, f_75) hu_76) (cwV 0 hts (kb_gV km_654 km_656 kp_18 km_6 km_657) rfl rfl rfl (by decide +kernel) ⟨Nat.le_of_ble_eq_true rfl, Nat.le_of_ble_eq_true rfl⟩) ⟨kb_P_bl, va_recv hK hP (ci := 5) (q0 := 0) rfl rfl, (fun U hU hW => ⟨rfl, by rw [hU], by rw [hU]; exact hPc, va_K.moved hW.alike hK, kb_N_to hW hN, hDc.weaken (fun _ _ _ _ => trivial)⟩)⟩ rfl rfl hl.1 rfl (lv_room (Nat.le_of_ble_eq_true rfl)) kdX5_finish_45 ⟨Nat.le_of_ble_eq_true rfl, Nat.le_of_ble_eq_true rfl⟩) hP hD hS hA ([0, 2, 3, 4, 5, 6] : List Nat) hC rfl (fun H locs hP hD hS => ?_)
      have hP : va_P D kCl (kWX5_finish cB cI cL cBB cII cSh h_this a_this this_taped this_code this_kind this_rate this_filled this_total this_bitAt this_k this_e1 this_du this_dv f_this_cubes f_this_turns f_this_round f_73 f_74 f_75 f_this_words f_this_block) H := hP
      have hD : va_D A (kWX5_finish cB cI cL cBB cII cSh h_this a_this this_taped this_code this_kind this_rate this_filled this_total this_bitAt this_k this_e1 this_du this_dv f_this_cubes f_this_turns f_this_round f_73 f_74 f_75 f_this_words f_this_block) := hD
      refine lv_aload_n hx hb kdX5_finish_48 rfl (lv_at hl 0 rfl) ?_
      refine lv_iconst (v := 0) hx hb kdX5_finish_49 (by decide) ?_
      refine va_put (ci := 5) (v := .int (0 : Int32)) (C := kRX5) (T := kTX5) (N := 35) hx hb hts kinX5 ktyX5 ktyX5_ok knX5 hown hK hP hD hS 0 rfl rfl 20 (by decide) (hts _ km_701) (fun _ h9 => h9) rfl (ktyX5_ok 20 (by decide)) rfl rfl (Nat.le_of_ble_eq_true rfl) kdX5_finish_50 (fun H locs hP hD hS => ?_)
      have hP : va_P D kCl (kWX5_finish cB cI cL cBB cII cSh h_this a_this this_taped this_code this_kind this_rate (0 : Int32) this_total this_bitAt this_k this_e1 this_du this_dv f_this_cubes f_this_turns f_this_round f_73 f_74 f_75 f_this_words f_this_block) H := hP
      have hD : va_D A (kWX5_finish cB cI cL cBB cII cSh h_this a_this this_taped this_code this_kind this_rate (0 : Int32) this_total this_bitAt this_k this_e1 this_du this_dv f_this_cubes f_this_turns f_this_round f_73 f_74 f_75 f_this_words f_this_block) := hD
      obtain rfl := Option.some.inj h
      exact W.vret hx hb hr (fun t ht hW => ⟨⟨rfl, by rw [ht]; exact hP, va_K.moved hW.alike hK, hD⟩, hS.F ht⟩) hS.2.2 kdX5_finish_53

-- 489.ModuleKemModel.give.lean.txt
abbrev kWX5_give (cB cI cL cBB cII cSh : ClassId) (h_this : Nat) (a_this : Nat → Nat) (h_a1 : Nat) (n_a1 : Nat) (this_taped : Int32) (this_code : Int32) (this_kind : Int32) (this_rate : Int32) (this_filled : Int32) (this_total : Int64) (this_bitAt : Int32) (this_k : Int32) (this_e1 : Int32) (this_du : Int32) (this_dv : Int32) (f_this_cubes : Nat → Int64) (f_this_turns : Nat → Int32) (f_this_round : Nat → Int64) (f_this_state : Nat → Int64) (f_this_other : Nat → Int64) (f_this_column : Nat → Int64) (f_this_words : Nat → Int64) (f_this_block : Nat → Int32) (f_a1 : Nat → Int32) : va_W := [(h_this, koX5 a_this this_taped this_code this_kind this_rate this_filled this_total this_bitAt this_k this_e1 this_du this_dv), ((a_this 6), .inl (cL, 80, .inr (.inl f_this_cubes))), ((a_this 11), .inl (cI, 25, .inl f_this_turns)), ((a_this 12), .inl (cL, 24, .inr (.inl f_this_round))), ((a_this 13), .inl (cL, 25, .inr (.inl f_this_state))), ((a_this 14), .inl (cL, 25, .inr (.inl f_this_other))), ((a_this 15), .inl (cL, 5, .inr (.inl f_this_column))), ((a_this 16), .inl (cL, 80, .inr (.inl f_this_words))), ((a_this 17), .inl (cB, 128, .inl f_this_block)), (h_a1, .inl (cB, n_a1, .inl f_a1))]
def krX5_give : Room := { frames := 4, cells := 0, slots := 0, locals := 107 }
set_option maxHeartbeats 4000000 in
set_option maxRecDepth 100000 in
theorem klX5_give_7 {p : Program} {l : Launch} {e : Env} {s : State} {m : MethodId} {args : Array Value} {below : List Frame} {meth : Method} {c : Code} {cells slots : Nat} {Q : State → Prop} {D : va_G} {cB cI cL cBB cII cSh : ClassId} {A : Nat → Prop} (C0 : CallFix p m c prog_8_method_37_code 5 s args kwA kRX5) (hlocks : meth.locks = false) (hK : va_K D kCl (kb_T cB cI cL cBB cII cSh) s) (hN : kb_N s) (hA : ∀ q, s.heap.size ≤ q → A q) (hcR : cells ≤ krX5_give.cells) (hsR : slots ≤ krX5_give.slots) (h_this h_a1 : Nat) (a_this : Nat → Nat) (p2 : Int32) (p3 : Int32) (n_a1 : Nat) (this_taped : Int32) (this_code : Int32) (this_kind : Int32) (this_rate : Int32) (w_2 : Int64) (this_bitAt : Int32) (this_k : Int32) (this_e1 : Int32) (this_du : Int32) (this_dv : Int32) (f_this_cubes : Nat → Int64) (f_this_turns : Nat → Int32) (f_this_round : Nat → Int64) (f_6 : Nat → Int64) (f_7 : Nat → Int32) :
    ∀ (fuel : Nat) (x4p7 : Int32) (f_a1p7 : Nat → Int32) (this_filledp7 : Int32) (f_this_columnp7 : Nat → Int64) (f_this_otherp7 : Nat → Int64) (f_this_statep7 : Nat → Int64) (r : Int32 × (Nat → Int32) × Int32 × (Nat → Int64) × (Nat → Int64) × (Nat → Int64)), kb_w (fun u : Int32 × (Nat → Int32) × Int32 × (Nat → Int64) × (Nat → Int64) × (Nat → Int64) => kSX5_give_7 p2 p3 n_a1 this_kind this_rate f_this_turns f_this_round u.1 u.2.1 u.2.2.1 u.2.2.2.1 u.2.2.2.2.1 u.2.2.2.2.2) fuel (x4p7, f_a1p7, this_filledp7, f_this_columnp7, f_this_otherp7, f_this_statep7) = some r → ∀ (H : Heap) (locs : List Loc) (ls : Array Slot), va_P D kCl (kWX5_give cB cI cL cBB cII cSh h_this a_this h_a1 n_a1 this_taped this_code this_kind this_rate this_filledp7 w_2 this_bitAt this_k this_e1 this_du this_dv f_this_cubes f_this_turns f_this_round f_this_statep7 f_this_otherp7 f_this_columnp7 f_6 f_7 f_a1p7) H → va_D A (kWX5_give cB cI cL cBB cII cSh h_this a_this h_a1 n_a1 this_taped this_code this_kind this_rate this_filledp7 w_2 this_bitAt this_k this_e1 this_du this_dv f_this_cubes f_this_turns f_this_round f_this_statep7 f_this_otherp7 f_this_columnp7 f_6 f_7 f_a1p7) → va_S A s.heap H locs → lv_has ls 5 [(0, .ref h_this), (1, .ref h_a1), (2, .int p2), (3, .int p3), (4, .int x4p7)] → (∀ (x4p7' : Int32) (f_a1p7' : Nat → Int32) (this_filledp7' : Int32) (f_this_columnp7' : Nat → Int64) (f_this_otherp7' : Nat → Int64) (f_this_statep7' : Nat → Int64), r = (x4p7', f_a1p7', this_filledp7', f_this_columnp7', f_this_otherp7', f_this_statep7') → ∀ (H : Heap) (locs : List Loc) (ls : Array Slot), va_P D kCl (kWX5_give cB cI cL cBB cII cSh h_this a_this h_a1 n_a1 this_taped this_code this_kind this_rate this_filledp7' w_2 this_bitAt this_k this_e1 this_du this_dv f_this_cubes f_this_turns f_this_round f_this_statep7' f_this_otherp7' f_this_columnp7' f_6 f_7 f_a1p7') H → va_D A (kWX5_give cB cI cL cBB cII cSh h_this a_this h_a1 n_a1 this_taped this_code this_kind this_rate this_filledp7' w_2 this_bitAt this_k this_e1 this_du this_dv f_this_cubes f_this_turns f_this_round f_this_statep7' f_this_otherp7' f_this_columnp7' f_6 f_7 f_a1p7') → va_S A s.heap H locs → lv_has ls 5 [(0, .ref h_this), (1, .ref h_a1), (2, .int p2), (3, .int p3), (4, .int x4p7')] → W p l e krX5_give s m args below meth c H locs cells slots Q (F0 m 102 ls [])) → W p l e krX5_give s m args below meth c H locs cells slots Q (F0 m 7 ls []) := by
  obtain ⟨hx, hb, hml, hown, hts⟩ := id C0
  intro fuel
  induction fuel with
  | zero =>
    intro x4p7 f_a1p7 this_filledp7 f_this_columnp7 f_this_otherp7 f_this_statep7 r h
    exact absurd h (kb_w_z _ _ _)
  | succ fuel ih =>
    intro x4p7 f_a1p7 this_filledp7 f_this_columnp7 f_this_otherp7 f_this_statep7 r h H locs ls hP hD hS hl hk0
    obtain ⟨o, h, ho⟩ := kb_w_s h
    have h : kSX5_give_7 p2 p3 n_a1 this_kind this_rate f_this_turns f_this_round x4p7 f_a1p7 this_filledp7 f_this_columnp7 f_this_otherp7 f_this_statep7 = some o := h
    unfold kSX5_give_7 at h
    refine lv_iload hx hb kdX5_give_7 (lv_at hl 4 rfl) ?_
    refine lv_iload_n hx hb kdX5_give_9 rfl (lv_at hl 3 rfl) ?_
    refine lv_icmp_ge (tgt := 102) hx hb kdX5_give_10 (by decide) (fun c_9 => ?_) (fun c_9 => ?_)
    · have h := kb_b_t c_9 h
      obtain rfl := Option.some.inj h
      exact hk0 x4p7 f_a1p7 this_filledp7 f_this_columnp7 f_this_otherp7 f_this_statep7 ho.symm _ _ _ hP hD hS (lv_sub hl [0, 1, 2, 3, 4] rfl)
    · have h := kb_b_f c_9 h
      refine lv_aload_n hx hb kdX5_give_13 rfl (lv_at hl 0 rfl) ?_
      obtain ⟨u_11, hu_11, h⟩ := kb_o_s h
      obtain ⟨r_10, rfl⟩ : ∃ z, z = u_11 := ⟨_, rfl⟩
      try dsimp only at h
      have hC := (show ([0] : List Nat).map (fun i : Nat => (kWX5_give cB cI cL cBB cII cSh h_this a_this h_a1 n_a1 this_taped this_code this_kind this_rate this_filledp7 w_2 this_bitAt this_k this_e1 this_du this_dv f_this_cubes f_this_turns f_this_round f_this_statep7 f_this_otherp7 f_this_columnp7 f_6 f_7 f_a1p7)[i]?) = List.map some (kWX5_sponge cB cI cL cBB cII cSh h_this a_this this_taped this_code this_kind this_rate this_filledp7 w_2 this_bitAt this_k this_e1 this_du this_dv) from rfl)
      have hPc := kb_Psub hP ([0] : List Nat) hC
      have hDc := kb_Dsub hD ([0] : List Nat) hC (by simp [kb_nd])
      refine kb_call0 (va_runV (As := []) (rest := []) C0 (kcX5_sponge l D cB cI cL cBB cII cSh h_this a_this _ this_taped this_code this_kind this_rate this_filledp7 w_2 this_bitAt this_k this_e1 this_du this_dv r_10 hu_11) (cwV 0 hts (kb_gV km_645 km_647 kp_3 km_6 km_648) rfl rfl rfl (by decide +kernel) ⟨Nat.le_of_ble_eq_true rfl, Nat.le_of_ble_eq_true rfl⟩) ⟨kb_P_bl, va_recv hK hP (ci := 5) (q0 := 0) rfl rfl, (fun U hU hW => ⟨rfl, by rw [hU], by rw [hU]; exact hPc, va_K.moved hW.alike hK, kb_N_to hW hN, hDc.weaken (fun _ _ _ _ => trivial)⟩)⟩ rfl rfl hl.1 rfl (lv_room (Nat.le_of_ble_eq_true rfl)) kdX5_give_14 ⟨hcR, hsR⟩) hP hD hS hA ([0] : List Nat) hC rfl (fun H locs hP hD hS => ?_)
      have hP : va_P D kCl (kWX5_give cB cI cL cBB cII cSh h_this a_this h_a1 n_a1 this_taped this_code this_kind this_rate this_filledp7 w_2 this_bitAt this_k this_e1 this_du this_dv f_this_cubes f_this_turns f_this_round f_this_statep7 f_this_otherp7 f_this_columnp7 f_6 f_7 f_a1p7) H := hP
      have hD : va_D A (kWX5_give cB cI cL cBB cII cSh h_this a_this h_a1 n_a1 this_taped this_code this_kind this_rate this_filledp7 w_2 this_bitAt this_k this_e1 this_du this_dv f_this_cubes f_this_turns f_this_round f_this_statep7 f_this_otherp7 f_this_columnp7 f_6 f_7 f_a1p7) := hD
      refine lv_if_eq (tgt := 34) hx hb kdX5_give_17 (by decide) (fun c_12 => ?_) (fun c_12 => ?_)
      · have h := kb_b_t c_12 h
        refine lv_aload_n hx hb kdX5_give_34 rfl (lv_at hl 1 rfl) ?_
        refine lv_iload_n hx hb kdX5_give_35 rfl (lv_at hl 2 rfl) ?_
        refine lv_iload hx hb kdX5_give_36 (lv_at hl 4 rfl) ?_
        refine lv_iadd hx hb kdX5_give_38 ?_
        refine lv_aload_n hx hb kdX5_give_39 rfl (lv_at hl 0 rfl) ?_
        refine va_get (ci := 5) (v := .int this_rate) (C := kRX5) (T := kTX5) (N := 35) hx hb hts kinX5 hown hK hP 0 rfl rfl 19 (by decide) (hts _ km_700) (fun _ h9 => h9) rfl kdX5_give_40 ?_
        refine lv_bipush (v := 64) hx hb kdX5_give_43 (by decide) ?_
        refine lv_icmp_ne (tgt := 71) hx hb kdX5_give_45 (by decide) (fun c_13 => ?_) (fun c_13 => ?_)
        · have h := kb_b_f c_13 h
          refine lv_aload_n hx hb kdX5_give_71 rfl (lv_at hl 0 rfl) ?_
          refine va_get (ci := 5) (v := .ref (a_this 13)) (C := kRX5) (T := kTX5) (N := 35) hx hb hts kinX5 hown hK hP 0 rfl rfl 13 (by decide) (hts _ km_694) (fun _ h9 => h9) rfl kdX5_give_72 ?_
          refine lv_iload hx hb kdX5_give_75 (lv_at hl 4 rfl) ?_
          refine lv_bipush (v := 8) hx hb kdX5_give_77 (by decide) ?_
          refine lv_idiv hx hb kdX5_give_79 (by decide) ?_
          obtain ⟨g_14, h⟩ := kb_g_s h
          refine va_lald hx hb hK hP 4 2 rfl rfl (kb_in_v g_14) kdX5_give_80 ?_
          refine lv_bipush (v := 56) hx hb kdX5_give_81 (by decide) ?_
          refine lv_bipush (v := 8) hx hb kdX5_give_83 (by decide) ?_
          refine lv_iload hx hb kdX5_give_85 (lv_at hl 4 rfl) ?_
          refine lv_bipush (v := 8) hx hb kdX5_give_87 (by decide) ?_
          refine lv_irem hx hb kdX5_give_89 (by decide) ?_
          refine lv_imul hx hb kdX5_give_90 ?_
          refine lv_isub hx hb kdX5_give_91 ?_
          refine lv_lushr (v := (((f_this_statep7 (x4p7 / (8 : Int32)).toNatClampNeg).toUInt64 >>> (((56 : Int32) - ((8 : Int32) * (x4p7 - x4p7 / (8 : Int32) * (8 : Int32)))).toInt64.toUInt64 &&& Int64.toUInt64 63)).toInt64)) hx hb kdX5_give_92 rfl ?_
          refine lv_l2i (v := ((((f_this_statep7 (x4p7 / (8 : Int32)).toNatClampNeg).toUInt64 >>> (((56 : Int32) - ((8 : Int32) * (x4p7 - x4p7 / (8 : Int32) * (8 : Int32)))).toInt64.toUInt64 &&& Int64.toUInt64 63)).toInt64).toInt32)) hx hb kdX5_give_93 rfl ?_
          refine lv_i2b (v := (((((f_this_statep7 (x4p7 / (8 : Int32)).toNatClampNeg).toUInt64 >>> (((56 : Int32) - ((8 : Int32) * (x4p7 - x4p7 / (8 : Int32) * (8 : Int32)))).toInt64.toUInt64 &&& Int64.toUInt64 63)).toInt64).toInt32).toInt8.toInt32)) hx hb kdX5_give_94 rfl ?_
          obtain ⟨g_15, h⟩ := kb_g_s h
          refine va_bast hx hb hK hP hD hS 9 0 rfl rfl (kb_in_v g_15) kdX5_give_95 (fun H locs hP hD hS => ?_)
          obtain ⟨f_16, ef_16⟩ : ∃ y, y = upd f_a1p7 (p2 + x4p7).toNatClampNeg (vp_nar .byte (((((f_this_statep7 (x4p7 / (8 : Int32)).toNatClampNeg).toUInt64 >>> (((56 : Int32) - ((8 : Int32) * (x4p7 - x4p7 / (8 : Int32) * (8 : Int32)))).toInt64.toUInt64 &&& Int64.toUInt64 63)).toInt64).toInt32).toInt8.toInt32)) := ⟨_, rfl⟩
          have h := kb_n_s ef_16 h
          have hP : va_P D kCl (kWX5_give cB cI cL cBB cII cSh h_this a_this h_a1 n_a1 this_taped this_code this_kind this_rate this_filledp7 w_2 this_bitAt this_k this_e1 this_du this_dv f_this_cubes f_this_turns f_this_round f_this_statep7 f_this_otherp7 f_this_columnp7 f_6 f_7 f_16) H := by rw [ef_16]; exact hP
          have hD : va_D A (kWX5_give cB cI cL cBB cII cSh h_this a_this h_a1 n_a1 this_taped this_code this_kind this_rate this_filledp7 w_2 this_bitAt this_k this_e1 this_du this_dv f_this_cubes f_this_turns f_this_round f_this_statep7 f_this_otherp7 f_this_columnp7 f_6 f_7 f_16) := by rw [ef_16]; exact hD
          obtain ⟨x4_17, ex4_17⟩ : ∃ y : Int32, y = x4p7 + Int32.ofInt 1 := ⟨_, rfl⟩
          have h := kb_n_s ex4_17 h
          refine lv_iinc (v := x4_17) (lv' := [(4, .int x4_17), (0, .ref h_this), (1, .ref h_a1), (2, .int p2), (3, .int p3)]) hx hb kdX5_give_96 hl (k := 4) rfl ex4_17.symm (by decide) rfl (fun ls hl => ?_)
          refine lv_goto (tgt := 7) hx hb kdX5_give_99 (by decide) ?_
          obtain rfl := Option.some.inj h
          exact ih x4_17 f_16 this_filledp7 f_this_columnp7 f_this_otherp7 f_this_statep7 r ho _ _ _ hP hD hS (lv_sub hl [1, 2, 3, 4, 0] rfl) hk0
        · have h := kb_b_t c_13 h
          refine lv_aload_n hx hb kdX5_give_48 rfl (lv_at hl 0 rfl) ?_
          refine va_get (ci := 5) (v := .ref (a_this 13)) (C := kRX5) (T := kTX5) (N := 35) hx hb hts kinX5 hown hK hP 0 rfl rfl 13 (by decide) (hts _ km_694) (fun _ h9 => h9) rfl kdX5_give_49 ?_
          refine lv_iload hx hb kdX5_give_52 (lv_at hl 4 rfl) ?_
          refine lv_iconst (v := 4) hx hb kdX5_give_54 (by decide) ?_
          refine lv_idiv hx hb kdX5_give_55 (by decide) ?_
          obtain ⟨g_18, h⟩ := kb_g_s h
          refine va_lald hx hb hK hP 4 2 rfl rfl (kb_in_v g_18) kdX5_give_56 ?_
          refine lv_bipush (v := 24) hx hb kdX5_give_57 (by decide) ?_
          refine lv_bipush (v := 8) hx hb kdX5_give_59 (by decide) ?_
          refine lv_iload hx hb kdX5_give_61 (lv_at hl 4 rfl) ?_
          refine lv_iconst (v := 4) hx hb kdX5_give_63 (by decide) ?_
          refine lv_irem hx hb kdX5_give_64 (by decide) ?_
          refine lv_imul hx hb kdX5_give_65 ?_
          refine lv_isub hx hb kdX5_give_66 ?_
          refine lv_lushr (v := (((f_this_statep7 (x4p7 / (4 : Int32)).toNatClampNeg).toUInt64 >>> (((24 : Int32) - ((8 : Int32) * (x4p7 - x4p7 / (4 : Int32) * (4 : Int32)))).toInt64.toUInt64 &&& Int64.toUInt64 63)).toInt64)) hx hb kdX5_give_67 rfl ?_
          refine lv_goto (tgt := 93) hx hb kdX5_give_68 (by decide) ?_
          refine lv_l2i (v := ((((f_this_statep7 (x4p7 / (4 : Int32)).toNatClampNeg).toUInt64 >>> (((24 : Int32) - ((8 : Int32) * (x4p7 - x4p7 / (4 : Int32) * (4 : Int32)))).toInt64.toUInt64 &&& Int64.toUInt64 63)).toInt64).toInt32)) hx hb kdX5_give_93 rfl ?_
          refine lv_i2b (v := (((((f_this_statep7 (x4p7 / (4 : Int32)).toNatClampNeg).toUInt64 >>> (((24 : Int32) - ((8 : Int32) * (x4p7 - x4p7 / (4 : Int32) * (4 : Int32)))).toInt64.toUInt64 &&& Int64.toUInt64 63)).toInt64).toInt32).toInt8.toInt32)) hx hb kdX5_give_94 rfl ?_
          obtain ⟨g_19, h⟩ := kb_g_s h
          refine va_bast hx hb hK hP hD hS 9 0 rfl rfl (kb_in_v g_19) kdX5_give_95 (fun H locs hP hD hS => ?_)
          obtain ⟨f_20, ef_20⟩ : ∃ y, y = upd f_a1p7 (p2 + x4p7).toNatClampNeg (vp_nar .byte (((((f_this_statep7 (x4p7 / (4 : Int32)).toNatClampNeg).toUInt64 >>> (((24 : Int32) - ((8 : Int32) * (x4p7 - x4p7 / (4 : Int32) * (4 : Int32)))).toInt64.toUInt64 &&& Int64.toUInt64 63)).toInt64).toInt32).toInt8.toInt32)) := ⟨_, rfl⟩
          have h := kb_n_s ef_20 h
          have hP : va_P D kCl (kWX5_give cB cI cL cBB cII cSh h_this a_this h_a1 n_a1 this_taped this_code this_kind this_rate this_filledp7 w_2 this_bitAt this_k this_e1 this_du this_dv f_this_cubes f_this_turns f_this_round f_this_statep7 f_this_otherp7 f_this_columnp7 f_6 f_7 f_20) H := by rw [ef_20]; exact hP
          have hD : va_D A (kWX5_give cB cI cL cBB cII cSh h_this a_this h_a1 n_a1 this_taped this_code this_kind this_rate this_filledp7 w_2 this_bitAt this_k this_e1 this_du this_dv f_this_cubes f_this_turns f_this_round f_this_statep7 f_this_otherp7 f_this_columnp7 f_6 f_7 f_20) := by rw [ef_20]; exact hD
          obtain ⟨x4_21, ex4_21⟩ : ∃ y : Int32, y = x4p7 + Int32.ofInt 1 := ⟨_, rfl⟩
          have h := kb_n_s ex4_21 h
          refine lv_iinc (v := x4_21) (lv' := [(4, .int x4_21), (0, .ref h_this), (1, .ref h_a1), (2, .int p2), (3, .int p3)]) hx hb kdX5_give_96 hl (k := 4) rfl ex4_21.symm (by decide) rfl (fun ls hl => ?_)
          refine lv_goto (tgt := 7) hx hb kdX5_give_99 (by decide) ?_
          obtain rfl := Option.some.inj h
          exact ih x4_21 f_20 this_filledp7 f_this_columnp7 f_this_otherp7 f_this_statep7 r ho _ _ _ hP hD hS (lv_sub hl [1, 2, 3, 4, 0] rfl) hk0
      · have h := kb_b_f c_12 h
        refine lv_aload_n hx hb kdX5_give_20 rfl (lv_at hl 1 rfl) ?_
        refine lv_iload_n hx hb kdX5_give_21 rfl (lv_at hl 2 rfl) ?_
        refine lv_iload hx hb kdX5_give_22 (lv_at hl 4 rfl) ?_
        refine lv_iadd hx hb kdX5_give_24 ?_
        refine lv_aload_n hx hb kdX5_give_25 rfl (lv_at hl 0 rfl) ?_
        obtain ⟨u_27, hu_27, h⟩ := kb_o_s h
        obtain ⟨r_22, w_23, f_24, f_25, f_26⟩ := u_27
        try dsimp only at h
        have hC := (show ([0, 2, 3, 4, 5, 6] : List Nat).map (fun i : Nat => (kWX5_give cB cI cL cBB cII cSh h_this a_this h_a1 n_a1 this_taped this_code this_kind this_rate this_filledp7 w_2 this_bitAt this_k this_e1 this_du this_dv f_this_cubes f_this_turns f_this_round f_this_statep7 f_this_otherp7 f_this_columnp7 f_6 f_7 f_a1p7)[i]?) = List.map some (kWX5_squeeze cB cI cL cBB cII cSh h_this a_this this_taped this_code this_kind this_rate this_filledp7 w_2 this_bitAt this_k this_e1 this_du this_dv f_this_turns f_this_round f_this_statep7 f_this_otherp7 f_this_columnp7) from rfl)
        have hPc := kb_Psub hP ([0, 2, 3, 4, 5, 6] : List Nat) hC
        have hDc := kb_Dsub hD ([0, 2, 3, 4, 5, 6] : List Nat) hC (by simp [kb_nd])
        refine kb_call0 (va_runV (As := []) (rest := [.int (p2 + x4p7), .ref h_a1]) C0 (kcX5_squeeze l D cB cI cL cBB cII cSh h_this a_this _ this_taped this_code this_kind this_rate this_filledp7 w_2 this_bitAt this_k this_e1 this_du this_dv f_this_turns f_this_round f_this_statep7 f_this_otherp7 f_this_columnp7 (r_22, w_23, f_24, f_25, f_26) hu_27) (cwV 0 hts (kb_gV km_850 km_852 kp_24 km_6 km_853) rfl rfl rfl (by decide +kernel) ⟨Nat.le_of_ble_eq_true rfl, Nat.le_of_ble_eq_true rfl⟩) ⟨kb_P_bl, va_recv hK hP (ci := 5) (q0 := 0) rfl rfl, (fun U hU hW => ⟨rfl, by rw [hU], by rw [hU]; exact hPc, va_K.moved hW.alike hK, kb_N_to hW hN, hDc.weaken (fun _ _ _ _ => trivial)⟩)⟩ rfl rfl hl.1 rfl (lv_room (Nat.le_of_ble_eq_true rfl)) kdX5_give_26 ⟨hcR, hsR⟩) hP hD hS hA ([0, 2, 3, 4, 5, 6] : List Nat) hC rfl (fun H locs hP hD hS => ?_)
        have hP : va_P D kCl (kWX5_give cB cI cL cBB cII cSh h_this a_this h_a1 n_a1 this_taped this_code this_kind this_rate w_23 w_2 this_bitAt this_k this_e1 this_du this_dv f_this_cubes f_this_turns f_this_round f_24 f_25 f_26 f_6 f_7 f_a1p7) H := hP
        have hD : va_D A (kWX5_give cB cI cL cBB cII cSh h_this a_this h_a1 n_a1 this_taped this_code this_kind this_rate w_23 w_2 this_bitAt this_k this_e1 this_du this_dv f_this_cubes f_this_turns f_this_round f_24 f_25 f_26 f_6 f_7 f_a1p7) := hD
        refine lv_i2b (v := (r_22.toInt8.toInt32)) hx hb kdX5_give_29 rfl ?_
        obtain ⟨g_28, h⟩ := kb_g_s h
        refine va_bast hx hb hK hP hD hS 9 0 rfl rfl (kb_in_v g_28) kdX5_give_30 (fun H locs hP hD hS => ?_)
        obtain ⟨f_29, ef_29⟩ : ∃ y, y = upd f_a1p7 (p2 + x4p7).toNatClampNeg (vp_nar .byte (r_22.toInt8.toInt32)) := ⟨_, rfl⟩
        have h := kb_n_s ef_29 h
        have hP : va_P D kCl (kWX5_give cB cI cL cBB cII cSh h_this a_this h_a1 n_a1 this_taped this_code this_kind this_rate w_23 w_2 this_bitAt this_k this_e1 this_du this_dv f_this_cubes f_this_turns f_this_round f_24 f_25 f_26 f_6 f_7 f_29) H := by rw [ef_29]; exact hP
        have hD : va_D A (kWX5_give cB cI cL cBB cII cSh h_this a_this h_a1 n_a1 this_taped this_code this_kind this_rate w_23 w_2 this_bitAt this_k this_e1 this_du this_dv f_this_cubes f_this_turns f_this_round f_24 f_25 f_26 f_6 f_7 f_29) := by rw [ef_29]; exact hD
        refine lv_goto (tgt := 96) hx hb kdX5_give_31 (by decide) ?_
        obtain ⟨x4_30, ex4_30⟩ : ∃ y : Int32, y = x4p7 + Int32.ofInt 1 := ⟨_, rfl⟩
        have h := kb_n_s ex4_30 h
        refine lv_iinc (v := x4_30) (lv' := [(4, .int x4_30), (0, .ref h_this), (1, .ref h_a1), (2, .int p2), (3, .int p3)]) hx hb kdX5_give_96 hl (k := 4) rfl ex4_30.symm (by decide) rfl (fun ls hl => ?_)
        refine lv_goto (tgt := 7) hx hb kdX5_give_99 (by decide) ?_
        obtain rfl := Option.some.inj h
        exact ih x4_30 f_29 w_23 f_26 f_25 f_24 r ho _ _ _ hP hD hS (lv_sub hl [1, 2, 3, 4, 0] rfl) hk0
set_option maxHeartbeats 4000000 in
set_option maxRecDepth 100000 in
theorem kcX5_give (l : Launch) (D : va_G) (cB cI cL cBB cII cSh : ClassId) (h_this h_a1 : Nat) (a_this : Nat → Nat) (sz : Nat) (p2 : Int32) (p3 : Int32) (n_a1 : Nat) (this_taped : Int32) (this_code : Int32) (this_kind : Int32) (this_rate : Int32) (this_filled : Int32) (this_total : Int64) (this_bitAt : Int32) (this_k : Int32) (this_e1 : Int32) (this_du : Int32) (this_dv : Int32) (f_this_cubes : Nat → Int64) (f_this_turns : Nat → Int32) (f_this_round : Nat → Int64) (f_this_state : Nat → Int64) (f_this_other : Nat → Int64) (f_this_column : Nat → Int64) (f_this_words : Nat → Int64) (f_this_block : Nat → Int32) (f_a1 : Nat → Int32) (out : Int32 × Int64 × (Nat → Int64) × (Nat → Int64) × (Nat → Int64) × (Nat → Int64) × (Nat → Int32) × (Nat → Int32)) (h : kFX5_give p2 p3 n_a1 this_kind this_rate this_filled this_total f_this_cubes f_this_turns f_this_round f_this_state f_this_other f_this_column f_this_words f_this_block f_a1 = some out) : Met l kyX5_give kwX5_give krX5_give (kb_P D kCl (kb_T cB cI cL cBB cII cSh) [.ref h_this, .ref h_a1, .int p2, .int p3] (kWX5_give cB cI cL cBB cII cSh h_this a_this h_a1 n_a1 this_taped this_code this_kind this_rate this_filled this_total this_bitAt this_k this_e1 this_du this_dv f_this_cubes f_this_turns f_this_round f_this_state f_this_other f_this_column f_this_words f_this_block f_a1) sz) (kb_Q D kCl (kb_T cB cI cL cBB cII cSh) (va_A (kWX5_give cB cI cL cBB cII cSh h_this a_this h_a1 n_a1 this_taped this_code this_kind this_rate this_filled this_total this_bitAt this_k this_e1 this_du this_dv f_this_cubes f_this_turns f_this_round f_this_state f_this_other f_this_column f_this_words f_this_block f_a1) sz) none (kWX5_give cB cI cL cBB cII cSh h_this a_this h_a1 n_a1 this_taped this_code this_kind this_rate out.1 out.2.1 this_bitAt this_k this_e1 this_du this_dv f_this_cubes f_this_turns f_this_round out.2.2.1 out.2.2.2.1 out.2.2.2.2.1 out.2.2.2.2.2.1 out.2.2.2.2.2.2.1 out.2.2.2.2.2.2.2)) 0 0 (va_A (kWX5_give cB cI cL cBB cII cSh h_this a_this h_a1 n_a1 this_taped this_code this_kind this_rate this_filled this_total this_bitAt this_k this_e1 this_du this_dv f_this_cubes f_this_turns f_this_round f_this_state f_this_other f_this_column f_this_words f_this_block f_a1) sz) := by
  refine Met.ofW (cc := prog_8_method_37_code) (maxL := 5) (ret := none) (by decide) rfl ?_
  intro p e s m args below meth c s₁ B hml hv
  obtain ⟨rfl, hsz, hP, hK, hN, hD0⟩ := hv
  have hx := B.exec
  have hb := B.bytes
  have hr := B.returns
  have hts0 := atoms_spec (ws := kwX5_give) B.pre
  have hts : ∀ w ∈ kwA, w.before _ s = true := fun w h => hts0 w (List.mem_cons_of_mem _ h)
  have hown : s.vm.findClass kRX5 = some m.cls := findClass_of_methodNamed B.named
  have hlocks := B.notSynchronized
  subst hsz
  have hD := hD0.self (sz := s.heap.size)
  generalize hAe : va_A (kWX5_give cB cI cL cBB cII cSh h_this a_this h_a1 n_a1 this_taped this_code this_kind this_rate this_filled this_total this_bitAt this_k this_e1 this_du this_dv f_this_cubes f_this_turns f_this_round f_this_state f_this_other f_this_column f_this_words f_this_block f_a1) s.heap.size = A at hD ⊢
  have hA : ∀ q : Nat, s.heap.size ≤ q → A q := fun q h => by rw [← hAe]; exact Or.inr h
  have hS : va_S A s.heap s.heap [] := va_S.rf
  have C0 : CallFix p m c prog_8_method_37_code 5 s _ kwA kRX5 := ⟨hx, hb, hml, hown, hts⟩
  have hl := lv_entry ([.ref h_this, .ref h_a1, .int p2, .int p3]) (n := 5) (Nat.le_of_ble_eq_true rfl)
  rw [lg_entry_eq]
  generalize (lg_sl ([.ref h_this, .ref h_a1, .int p2, .int p3]) ++ List.replicate (5 - (lg_sl ([.ref h_this, .ref h_a1, .int p2, .int p3])).length) Slot.unset).toArray = ls at hl ⊢
  have hl : lv_has ls 5 [(0, .ref h_this), (1, .ref h_a1), (2, .int p2), (3, .int p3)] := hl
  unfold kFX5_give at h
  refine lv_aload_n hx hb kdX5_give_0 rfl (lv_at hl 0 rfl) ?_
  obtain ⟨u_8, hu_8, h⟩ := kb_o_s h
  obtain ⟨w_1, w_2, f_3, f_4, f_5, f_6, f_7⟩ := u_8
  try dsimp only at h
  have hC := (show ([0, 1, 2, 3, 4, 5, 6, 7, 8] : List Nat).map (fun i : Nat => (kWX5_give cB cI cL cBB cII cSh h_this a_this h_a1 n_a1 this_taped this_code this_kind this_rate this_filled this_total this_bitAt this_k this_e1 this_du this_dv f_this_cubes f_this_turns f_this_round f_this_state f_this_other f_this_column f_this_words f_this_block f_a1)[i]?) = List.map some (kWX5_finish cB cI cL cBB cII cSh h_this a_this this_taped this_code this_kind this_rate this_filled this_total this_bitAt this_k this_e1 this_du this_dv f_this_cubes f_this_turns f_this_round f_this_state f_this_other f_this_column f_this_words f_this_block) from rfl)
  have hPc := kb_Psub hP ([0, 1, 2, 3, 4, 5, 6, 7, 8] : List Nat) hC
  have hDc := kb_Dsub hD ([0, 1, 2, 3, 4, 5, 6, 7, 8] : List Nat) hC (by simp [kb_nd])
  refine kb_call0 (va_runV (As := []) (rest := []) C0 (kcX5_finish l D cB cI cL cBB cII cSh h_this a_this _ this_taped this_code this_kind this_rate this_filled this_total this_bitAt this_k this_e1 this_du this_dv f_this_cubes f_this_turns f_this_round f_this_state f_this_other f_this_column f_this_words f_this_block (w_1, w_2, f_3, f_4, f_5, f_6, f_7) hu_8) (cwV 0 hts (kb_gV km_676 km_678 kp_23 km_6 km_679) rfl rfl rfl (by decide +kernel) ⟨Nat.le_of_ble_eq_true rfl, Nat.le_of_ble_eq_true rfl⟩) ⟨kb_P_bl, va_recv hK hP (ci := 5) (q0 := 0) rfl rfl, (fun U hU hW => ⟨rfl, by rw [hU], by rw [hU]; exact hPc, va_K.moved hW.alike hK, kb_N_to hW hN, hDc.weaken (fun _ _ _ _ => trivial)⟩)⟩ rfl rfl hl.1 rfl (lv_room (Nat.le_of_ble_eq_true rfl)) kdX5_give_1 ⟨Nat.le_of_ble_eq_true rfl, Nat.le_of_ble_eq_true rfl⟩) hP hD hS hA ([0, 1, 2, 3, 4, 5, 6, 7, 8] : List Nat) hC rfl (fun H locs hP hD hS => ?_)
  have hP : va_P D kCl (kWX5_give cB cI cL cBB cII cSh h_this a_this h_a1 n_a1 this_taped this_code this_kind this_rate w_1 w_2 this_bitAt this_k this_e1 this_du this_dv f_this_cubes f_this_turns f_this_round f_3 f_4 f_5 f_6 f_7 f_a1) H := hP
  have hD : va_D A (kWX5_give cB cI cL cBB cII cSh h_this a_this h_a1 n_a1 this_taped this_code this_kind this_rate w_1 w_2 this_bitAt this_k this_e1 this_du this_dv f_this_cubes f_this_turns f_this_round f_3 f_4 f_5 f_6 f_7 f_a1) := hD
  refine lv_iconst (v := 0) hx hb kdX5_give_4 (by decide) ?_
  refine lv_istore (lv' := [(4, .int (0 : Int32)), (0, .ref h_this), (1, .ref h_a1), (2, .int p2), (3, .int p3)]) hx hb kdX5_give_5 hl (by decide) rfl (fun ls hl => ?_)
  obtain ⟨r_37, hr_37, h⟩ := kb_o_s h
  refine klX5_give_7 C0 hlocks hK hN hA (by decide) (by decide) h_this h_a1 a_this p2 p3 n_a1 this_taped this_code this_kind this_rate w_2 this_bitAt this_k this_e1 this_du this_dv f_this_cubes f_this_turns f_this_round f_6 f_7 100000 (0 : Int32) f_a1 w_1 f_5 f_4 f_3 r_37 hr_37 _ _ _ hP hD hS (lv_sub hl [1, 2, 3, 4, 0] rfl) (fun x4p7_31 f_a1p7_32 this_filledp7_33 f_this_columnp7_34 f_this_otherp7_35 f_this_statep7_36 er_37 H locs ls hP hD hS hl => ?_)
  subst er_37
  try dsimp only at h
  obtain rfl := Option.some.inj h
  exact W.vret hx hb hr (fun t ht hW => ⟨⟨rfl, by rw [ht]; exact hP, va_K.moved hW.alike hK, hD⟩, hS.F ht⟩) hS.2.2 kdX5_give_102

-- 490.ModuleKemModel.sample.lean.txt
abbrev kWX5_sample (cB cI cL cBB cII cSh : ClassId) (h_this : Nat) (a_this : Nat → Nat) (h_a1 : Nat) (n_a1 : Nat) (h_a2 : Nat) (n_a2 : Nat) (this_taped : Int32) (this_code : Int32) (this_kind : Int32) (this_rate : Int32) (this_filled : Int32) (this_total : Int64) (this_bitAt : Int32) (this_k : Int32) (this_e1 : Int32) (this_du : Int32) (this_dv : Int32) (f_this_roots : Nat → Int64) (f_this_cubes : Nat → Int64) (f_this_start224 : Nat → Int64) (f_this_start256 : Nat → Int64) (f_this_turns : Nat → Int32) (f_this_round : Nat → Int64) (f_this_state : Nat → Int64) (f_this_other : Nat → Int64) (f_this_column : Nat → Int64) (f_this_words : Nat → Int64) (f_this_block : Nat → Int32) (f_a1 : Nat → Int32) (f_a2 : Nat → Int32) : va_W := [(h_this, koX5 a_this this_taped this_code this_kind this_rate this_filled this_total this_bitAt this_k this_e1 this_du this_dv), ((a_this 5), .inl (cL, 16, .inr (.inl f_this_roots))), ((a_this 6), .inl (cL, 80, .inr (.inl f_this_cubes))), ((a_this 7), .inl (cL, 8, .inr (.inl f_this_start224))), ((a_this 8), .inl (cL, 8, .inr (.inl f_this_start256))), ((a_this 11), .inl (cI, 25, .inl f_this_turns)), ((a_this 12), .inl (cL, 24, .inr (.inl f_this_round))), ((a_this 13), .inl (cL, 25, .inr (.inl f_this_state))), ((a_this 14), .inl (cL, 25, .inr (.inl f_this_other))), ((a_this 15), .inl (cL, 5, .inr (.inl f_this_column))), ((a_this 16), .inl (cL, 80, .inr (.inl f_this_words))), ((a_this 17), .inl (cB, 128, .inl f_this_block)), (h_a1, .inl (cI, n_a1, .inl f_a1)), (h_a2, .inl (cB, n_a2, .inl f_a2))]
def krX5_sample : Room := { frames := 4, cells := 0, slots := 0, locals := 108 }
set_option maxHeartbeats 4000000 in
set_option maxRecDepth 100000 in
theorem klX5_sample_36 {p : Program} {l : Launch} {e : Env} {s : State} {m : MethodId} {args : Array Value} {below : List Frame} {meth : Method} {c : Code} {cells slots : Nat} {Q : State → Prop} {D : va_G} {cB cI cL cBB cII cSh : ClassId} {A : Nat → Prop} (C0 : CallFix p m c prog_8_method_47_code 11 s args kwA kRX5) (hlocks : meth.locks = false) (hK : va_K D kCl (kb_T cB cI cL cBB cII cSh) s) (hN : kb_N s) (hA : ∀ q, s.heap.size ≤ q → A q) (hcR : cells ≤ krX5_sample.cells) (hsR : slots ≤ krX5_sample.slots) (h_this h_a1 h_a2 : Nat) (a_this : Nat → Nat) (n_a1 : Nat) (n_a2 : Nat) (this_taped : Int32) (this_code : Int32) (w_2 : Int32) (w_3 : Int32) (w_32 : Int64) (this_bitAt : Int32) (this_k : Int32) (this_e1 : Int32) (this_du : Int32) (this_dv : Int32) (f_this_roots : Nat → Int64) (f_this_cubes : Nat → Int64) (f_this_start224 : Nat → Int64) (f_this_start256 : Nat → Int64) (f_this_turns : Nat → Int32) (f_this_round : Nat → Int64) (f_36 : Nat → Int64) (f_37 : Nat → Int32) (f_a2 : Nat → Int32) :
    ∀ (fuel : Nat) (x6p36 : Int32) (x7p36 : Int32) (f_a1p36 : Nat → Int32) (this_filledp36 : Int32) (f_this_columnp36 : Nat → Int64) (f_this_otherp36 : Nat → Int64) (f_this_statep36 : Nat → Int64) (r : Int32 × Int32 × (Nat → Int32) × Int32 × (Nat → Int64) × (Nat → Int64) × (Nat → Int64)), kb_w (fun u : Int32 × Int32 × (Nat → Int32) × Int32 × (Nat → Int64) × (Nat → Int64) × (Nat → Int64) => kSX5_sample_36 n_a1 w_3 f_this_turns f_this_round u.1 u.2.1 u.2.2.1 u.2.2.2.1 u.2.2.2.2.1 u.2.2.2.2.2.1 u.2.2.2.2.2.2) fuel (x6p36, x7p36, f_a1p36, this_filledp36, f_this_columnp36, f_this_otherp36, f_this_statep36) = some r → ∀ (H : Heap) (locs : List Loc) (ls : Array Slot), va_P D kCl (kWX5_sample cB cI cL cBB cII cSh h_this a_this h_a1 n_a1 h_a2 n_a2 this_taped this_code w_2 w_3 this_filledp36 w_32 this_bitAt this_k this_e1 this_du this_dv f_this_roots f_this_cubes f_this_start224 f_this_start256 f_this_turns f_this_round f_this_statep36 f_this_otherp36 f_this_columnp36 f_36 f_37 f_a1p36 f_a2) H → va_D A (kWX5_sample cB cI cL cBB cII cSh h_this a_this h_a1 n_a1 h_a2 n_a2 this_taped this_code w_2 w_3 this_filledp36 w_32 this_bitAt this_k this_e1 this_du this_dv f_this_roots f_this_cubes f_this_start224 f_this_start256 f_this_turns f_this_round f_this_statep36 f_this_otherp36 f_this_columnp36 f_36 f_37 f_a1p36 f_a2) → va_S A s.heap H locs → lv_has ls 11 [(0, .ref h_this), (1, .ref h_a1), (6, .int x6p36), (7, .int x7p36)] → (∀ (x6p36' : Int32) (x7p36' : Int32) (f_a1p36' : Nat → Int32) (this_filledp36' : Int32) (f_this_columnp36' : Nat → Int64) (f_this_otherp36' : Nat → Int64) (f_this_statep36' : Nat → Int64), r = (x6p36', x7p36', f_a1p36', this_filledp36', f_this_columnp36', f_this_otherp36', f_this_statep36') → ∀ (H : Heap) (locs : List Loc) (ls : Array Slot), va_P D kCl (kWX5_sample cB cI cL cBB cII cSh h_this a_this h_a1 n_a1 h_a2 n_a2 this_taped this_code w_2 w_3 this_filledp36' w_32 this_bitAt this_k this_e1 this_du this_dv f_this_roots f_this_cubes f_this_start224 f_this_start256 f_this_turns f_this_round f_this_statep36' f_this_otherp36' f_this_columnp36' f_36 f_37 f_a1p36' f_a2) H → va_D A (kWX5_sample cB cI cL cBB cII cSh h_this a_this h_a1 n_a1 h_a2 n_a2 this_taped this_code w_2 w_3 this_filledp36' w_32 this_bitAt this_k this_e1 this_du this_dv f_this_roots f_this_cubes f_this_start224 f_this_start256 f_this_turns f_this_round f_this_statep36' f_this_otherp36' f_this_columnp36' f_36 f_37 f_a1p36' f_a2) → va_S A s.heap H locs → lv_has ls 11 [(0, .ref h_this), (1, .ref h_a1), (6, .int x6p36'), (7, .int x7p36')] → W p l e krX5_sample s m args below meth c H locs cells slots Q (F0 m 156 ls [])) → W p l e krX5_sample s m args below meth c H locs cells slots Q (F0 m 36 ls []) := by
  obtain ⟨hx, hb, hml, hown, hts⟩ := id C0
  intro fuel
  induction fuel with
  | zero =>
    intro x6p36 x7p36 f_a1p36 this_filledp36 f_this_columnp36 f_this_otherp36 f_this_statep36 r h
    exact absurd h (kb_w_z _ _ _)
  | succ fuel ih =>
    intro x6p36 x7p36 f_a1p36 this_filledp36 f_this_columnp36 f_this_otherp36 f_this_statep36 r h H locs ls hP hD hS hl hk0
    obtain ⟨o, h, ho⟩ := kb_w_s h
    have h : kSX5_sample_36 n_a1 w_3 f_this_turns f_this_round x6p36 x7p36 f_a1p36 this_filledp36 f_this_columnp36 f_this_otherp36 f_this_statep36 = some o := h
    unfold kSX5_sample_36 at h
    refine lv_iload hx hb kdX5_sample_36 (lv_at hl 3 rfl) ?_
    refine lv_sipush (v := 280) hx hb kdX5_sample_38 (by decide) ?_
    refine lv_icmp_ge (tgt := 156) hx hb kdX5_sample_41 (by decide) (fun c_39 => ?_) (fun c_39 => ?_)
    · have h := kb_b_t c_39 h
      obtain rfl := Option.some.inj h
      exact hk0 x6p36 x7p36 f_a1p36 this_filledp36 f_this_columnp36 f_this_otherp36 f_this_statep36 ho.symm _ _ _ hP hD hS (lv_sub hl [0, 1, 2, 3] rfl)
    · have h := kb_b_f c_39 h
      refine lv_iload hx hb kdX5_sample_44 (lv_at hl 2 rfl) ?_
      refine lv_sipush (v := 256) hx hb kdX5_sample_46 (by decide) ?_
      refine lv_icmp_ge (tgt := 156) hx hb kdX5_sample_49 (by decide) (fun c_40 => ?_) (fun c_40 => ?_)
      · have h := kb_b_t c_40 h
        obtain rfl := Option.some.inj h
        exact hk0 x6p36 x7p36 f_a1p36 this_filledp36 f_this_columnp36 f_this_otherp36 f_this_statep36 ho.symm _ _ _ hP hD hS (lv_sub hl [0, 1, 2, 3] rfl)
      · have h := kb_b_f c_40 h
        refine lv_aload_n hx hb kdX5_sample_52 rfl (lv_at hl 0 rfl) ?_
        obtain ⟨u_46, hu_46, h⟩ := kb_o_s h
        obtain ⟨r_41, w_42, f_43, f_44, f_45⟩ := u_46
        try dsimp only at h
        have hC := (show ([0, 5, 6, 7, 8, 9] : List Nat).map (fun i : Nat => (kWX5_sample cB cI cL cBB cII cSh h_this a_this h_a1 n_a1 h_a2 n_a2 this_taped this_code w_2 w_3 this_filledp36 w_32 this_bitAt this_k this_e1 this_du this_dv f_this_roots f_this_cubes f_this_start224 f_this_start256 f_this_turns f_this_round f_this_statep36 f_this_otherp36 f_this_columnp36 f_36 f_37 f_a1p36 f_a2)[i]?) = List.map some (kWX5_squeeze cB cI cL cBB cII cSh h_this a_this this_taped this_code w_2 w_3 this_filledp36 w_32 this_bitAt this_k this_e1 this_du this_dv f_this_turns f_this_round f_this_statep36 f_this_otherp36 f_this_columnp36) from rfl)
        have hPc := kb_Psub hP ([0, 5, 6, 7, 8, 9] : List Nat) hC
        have hDc := kb_Dsub hD ([0, 5, 6, 7, 8, 9] : List Nat) hC (by simp [kb_nd])
        refine kb_call0 (va_runV (As := []) (rest := []) C0 (kcX5_squeeze l D cB cI cL cBB cII cSh h_this a_this _ this_taped this_code w_2 w_3 this_filledp36 w_32 this_bitAt this_k this_e1 this_du this_dv f_this_turns f_this_round f_this_statep36 f_this_otherp36 f_this_columnp36 (r_41, w_42, f_43, f_44, f_45) hu_46) (cwV 0 hts (kb_gV km_850 km_852 kp_24 km_6 km_853) rfl rfl rfl (by decide +kernel) ⟨Nat.le_of_ble_eq_true rfl, Nat.le_of_ble_eq_true rfl⟩) ⟨kb_P_bl, va_recv hK hP (ci := 5) (q0 := 0) rfl rfl, (fun U hU hW => ⟨rfl, by rw [hU], by rw [hU]; exact hPc, va_K.moved hW.alike hK, kb_N_to hW hN, hDc.weaken (fun _ _ _ _ => trivial)⟩)⟩ rfl rfl hl.1 rfl (lv_room (Nat.le_of_ble_eq_true rfl)) kdX5_sample_53 ⟨hcR, hsR⟩) hP hD hS hA ([0, 5, 6, 7, 8, 9] : List Nat) hC rfl (fun H locs hP hD hS => ?_)
        have hP : va_P D kCl (kWX5_sample cB cI cL cBB cII cSh h_this a_this h_a1 n_a1 h_a2 n_a2 this_taped this_code w_2 w_3 w_42 w_32 this_bitAt this_k this_e1 this_du this_dv f_this_roots f_this_cubes f_this_start224 f_this_start256 f_this_turns f_this_round f_43 f_44 f_45 f_36 f_37 f_a1p36 f_a2) H := hP
        have hD : va_D A (kWX5_sample cB cI cL cBB cII cSh h_this a_this h_a1 n_a1 h_a2 n_a2 this_taped this_code w_2 w_3 w_42 w_32 this_bitAt this_k this_e1 this_du this_dv f_this_roots f_this_cubes f_this_start224 f_this_start256 f_this_turns f_this_round f_43 f_44 f_45 f_36 f_37 f_a1p36 f_a2) := hD
        refine lv_istore (lv' := [(8, .int r_41), (0, .ref h_this), (1, .ref h_a1), (6, .int x6p36), (7, .int x7p36)]) hx hb kdX5_sample_56 hl (by decide) rfl (fun ls hl => ?_)
        refine lv_aload_n hx hb kdX5_sample_58 rfl (lv_at hl 1 rfl) ?_
        obtain ⟨u_52, hu_52, h⟩ := kb_o_s h
        obtain ⟨r_47, w_48, f_49, f_50, f_51⟩ := u_52
        try dsimp only at h
        have hC := (show ([0, 5, 6, 7, 8, 9] : List Nat).map (fun i : Nat => (kWX5_sample cB cI cL cBB cII cSh h_this a_this h_a1 n_a1 h_a2 n_a2 this_taped this_code w_2 w_3 w_42 w_32 this_bitAt this_k this_e1 this_du this_dv f_this_roots f_this_cubes f_this_start224 f_this_start256 f_this_turns f_this_round f_43 f_44 f_45 f_36 f_37 f_a1p36 f_a2)[i]?) = List.map some (kWX5_squeeze cB cI cL cBB cII cSh h_this a_this this_taped this_code w_2 w_3 w_42 w_32 this_bitAt this_k this_e1 this_du this_dv f_this_turns f_this_round f_43 f_44 f_45) from rfl)
        have hPc := kb_Psub hP ([0, 5, 6, 7, 8, 9] : List Nat) hC
        have hDc := kb_Dsub hD ([0, 5, 6, 7, 8, 9] : List Nat) hC (by simp [kb_nd])
        refine kb_call0 (va_runV (As := []) (rest := []) C0 (kcX5_squeeze l D cB cI cL cBB cII cSh h_this a_this _ this_taped this_code w_2 w_3 w_42 w_32 this_bitAt this_k this_e1 this_du this_dv f_this_turns f_this_round f_43 f_44 f_45 (r_47, w_48, f_49, f_50, f_51) hu_52) (cwV 0 hts (kb_gV km_850 km_852 kp_24 km_6 km_853) rfl rfl rfl (by decide +kernel) ⟨Nat.le_of_ble_eq_true rfl, Nat.le_of_ble_eq_true rfl⟩) ⟨kb_P_bl, va_recv hK hP (ci := 5) (q0 := 0) rfl rfl, (fun U hU hW => ⟨rfl, by rw [hU], by rw [hU]; exact hPc, va_K.moved hW.alike hK, kb_N_to hW hN, hDc.weaken (fun _ _ _ _ => trivial)⟩)⟩ rfl rfl hl.1 rfl (lv_room (Nat.le_of_ble_eq_true rfl)) kdX5_sample_59 ⟨hcR, hsR⟩) hP hD hS hA ([0, 5, 6, 7, 8, 9] : List Nat) hC rfl (fun H locs hP hD hS => ?_)
        have hP : va_P D kCl (kWX5_sample cB cI cL cBB cII cSh h_this a_this h_a1 n_a1 h_a2 n_a2 this_taped this_code w_2 w_3 w_48 w_32 this_bitAt this_k this_e1 this_du this_dv f_this_roots f_this_cubes f_this_start224 f_this_start256 f_this_turns f_this_round f_49 f_50 f_51 f_36 f_37 f_a1p36 f_a2) H := hP
        have hD : va_D A (kWX5_sample cB cI cL cBB cII cSh h_this a_this h_a1 n_a1 h_a2 n_a2 this_taped this_code w_2 w_3 w_48 w_32 this_bitAt this_k this_e1 this_du this_dv f_this_roots f_this_cubes f_this_start224 f_this_start256 f_this_turns f_this_round f_49 f_50 f_51 f_36 f_37 f_a1p36 f_a2) := hD
        refine lv_istore (lv' := [(9, .int r_47), (8, .int r_41), (0, .ref h_this), (1, .ref h_a1), (6, .int x6p36), (7, .int x7p36)]) hx hb kdX5_sample_62 hl (by decide) rfl (fun ls hl => ?_)
        refine lv_aload_n hx hb kdX5_sample_64 rfl (lv_at hl 2 rfl) ?_
        obtain ⟨u_58, hu_58, h⟩ := kb_o_s h
        obtain ⟨r_53, w_54, f_55, f_56, f_57⟩ := u_58
        try dsimp only at h
        have hC := (show ([0, 5, 6, 7, 8, 9] : List Nat).map (fun i : Nat => (kWX5_sample cB cI cL cBB cII cSh h_this a_this h_a1 n_a1 h_a2 n_a2 this_taped this_code w_2 w_3 w_48 w_32 this_bitAt this_k this_e1 this_du this_dv f_this_roots f_this_cubes f_this_start224 f_this_start256 f_this_turns f_this_round f_49 f_50 f_51 f_36 f_37 f_a1p36 f_a2)[i]?) = List.map some (kWX5_squeeze cB cI cL cBB cII cSh h_this a_this this_taped this_code w_2 w_3 w_48 w_32 this_bitAt this_k this_e1 this_du this_dv f_this_turns f_this_round f_49 f_50 f_51) from rfl)
        have hPc := kb_Psub hP ([0, 5, 6, 7, 8, 9] : List Nat) hC
        have hDc := kb_Dsub hD ([0, 5, 6, 7, 8, 9] : List Nat) hC (by simp [kb_nd])
        refine kb_call0 (va_runV (As := []) (rest := []) C0 (kcX5_squeeze l D cB cI cL cBB cII cSh h_this a_this _ this_taped this_code w_2 w_3 w_48 w_32 this_bitAt this_k this_e1 this_du this_dv f_this_turns f_this_round f_49 f_50 f_51 (r_53, w_54, f_55, f_56, f_57) hu_58) (cwV 0 hts (kb_gV km_850 km_852 kp_24 km_6 km_853) rfl rfl rfl (by decide +kernel) ⟨Nat.le_of_ble_eq_true rfl, Nat.le_of_ble_eq_true rfl⟩) ⟨kb_P_bl, va_recv hK hP (ci := 5) (q0 := 0) rfl rfl, (fun U hU hW => ⟨rfl, by rw [hU], by rw [hU]; exact hPc, va_K.moved hW.alike hK, kb_N_to hW hN, hDc.weaken (fun _ _ _ _ => trivial)⟩)⟩ rfl rfl hl.1 rfl (lv_room (Nat.le_of_ble_eq_true rfl)) kdX5_sample_65 ⟨hcR, hsR⟩) hP hD hS hA ([0, 5, 6, 7, 8, 9] : List Nat) hC rfl (fun H locs hP hD hS => ?_)
        have hP : va_P D kCl (kWX5_sample cB cI cL cBB cII cSh h_this a_this h_a1 n_a1 h_a2 n_a2 this_taped this_code w_2 w_3 w_54 w_32 this_bitAt this_k this_e1 this_du this_dv f_this_roots f_this_cubes f_this_start224 f_this_start256 f_this_turns f_this_round f_55 f_56 f_57 f_36 f_37 f_a1p36 f_a2) H := hP
        have hD : va_D A (kWX5_sample cB cI cL cBB cII cSh h_this a_this h_a1 n_a1 h_a2 n_a2 this_taped this_code w_2 w_3 w_54 w_32 this_bitAt this_k this_e1 this_du this_dv f_this_roots f_this_cubes f_this_start224 f_this_start256 f_this_turns f_this_round f_55 f_56 f_57 f_36 f_37 f_a1p36 f_a2) := hD
        refine lv_istore (lv' := [(10, .int r_53), (9, .int r_47), (8, .int r_41), (0, .ref h_this), (1, .ref h_a1), (6, .int x6p36), (7, .int x7p36)]) hx hb kdX5_sample_68 hl (by decide) rfl (fun ls hl => ?_)
        refine lv_iload hx hb kdX5_sample_70 (lv_at hl 2 rfl) ?_
        refine lv_sipush (v := 256) hx hb kdX5_sample_72 (by decide) ?_
        refine lv_iload hx hb kdX5_sample_75 (lv_at hl 1 rfl) ?_
        refine lv_bipush (v := 16) hx hb kdX5_sample_77 (by decide) ?_
        refine lv_irem hx hb kdX5_sample_79 (by decide) ?_
        refine lv_imul hx hb kdX5_sample_80 ?_
        refine lv_iadd hx hb kdX5_sample_81 ?_
        refine lv_sipush (v := 3329) hx hb kdX5_sample_82 (by decide) ?_
        refine lv_icmp_ge (tgt := 107) hx hb kdX5_sample_85 (by decide) (fun c_59 => ?_) (fun c_59 => ?_)
        · have h := kb_b_t c_59 h
          refine lv_iload hx hb kdX5_sample_107 (lv_at hl 5 rfl) ?_
          refine lv_sipush (v := 256) hx hb kdX5_sample_109 (by decide) ?_
          refine lv_icmp_ge (tgt := 150) hx hb kdX5_sample_112 (by decide) (fun c_60 => ?_) (fun c_60 => ?_)
          · have h := kb_b_t c_60 h
            obtain ⟨x7_61, ex7_61⟩ : ∃ y : Int32, y = x7p36 + Int32.ofInt 1 := ⟨_, rfl⟩
            have h := kb_n_s ex7_61 h
            refine lv_iinc (v := x7_61) (lv' := [(7, .int x7_61), (10, .int r_53), (9, .int r_47), (8, .int r_41), (0, .ref h_this), (1, .ref h_a1), (6, .int x6p36)]) hx hb kdX5_sample_150 hl (k := 6) rfl ex7_61.symm (by decide) rfl (fun ls hl => ?_)
            refine lv_goto (tgt := 36) hx hb kdX5_sample_153 (by decide) ?_
            obtain rfl := Option.some.inj h
            exact ih x6p36 x7_61 f_a1p36 w_54 f_57 f_56 f_55 r ho _ _ _ hP hD hS (lv_sub hl [4, 5, 6, 0] rfl) hk0
          · have h := kb_b_f c_60 h
            refine lv_iload hx hb kdX5_sample_115 (lv_at hl 1 rfl) ?_
            refine lv_bipush (v := 16) hx hb kdX5_sample_117 (by decide) ?_
            refine lv_idiv hx hb kdX5_sample_119 (by decide) ?_
            refine lv_bipush (v := 16) hx hb kdX5_sample_120 (by decide) ?_
            refine lv_iload hx hb kdX5_sample_122 (lv_at hl 0 rfl) ?_
            refine lv_imul hx hb kdX5_sample_124 ?_
            refine lv_iadd hx hb kdX5_sample_125 ?_
            refine lv_sipush (v := 3329) hx hb kdX5_sample_126 (by decide) ?_
            refine lv_icmp_ge (tgt := 150) hx hb kdX5_sample_129 (by decide) (fun c_62 => ?_) (fun c_62 => ?_)
            · have h := kb_b_t c_62 h
              obtain ⟨x7_63, ex7_63⟩ : ∃ y : Int32, y = x7p36 + Int32.ofInt 1 := ⟨_, rfl⟩
              have h := kb_n_s ex7_63 h
              refine lv_iinc (v := x7_63) (lv' := [(7, .int x7_63), (10, .int r_53), (9, .int r_47), (8, .int r_41), (0, .ref h_this), (1, .ref h_a1), (6, .int x6p36)]) hx hb kdX5_sample_150 hl (k := 6) rfl ex7_63.symm (by decide) rfl (fun ls hl => ?_)
              refine lv_goto (tgt := 36) hx hb kdX5_sample_153 (by decide) ?_
              obtain rfl := Option.some.inj h
              exact ih x6p36 x7_63 f_a1p36 w_54 f_57 f_56 f_55 r ho _ _ _ hP hD hS (lv_sub hl [4, 5, 6, 0] rfl) hk0
            · have h := kb_b_f c_62 h
              refine lv_aload_n hx hb kdX5_sample_132 rfl (lv_at hl 4 rfl) ?_
              refine lv_iload hx hb kdX5_sample_133 (lv_at hl 5 rfl) ?_
              refine lv_iload hx hb kdX5_sample_135 (lv_at hl 1 rfl) ?_
              refine lv_bipush (v := 16) hx hb kdX5_sample_137 (by decide) ?_
              refine lv_idiv hx hb kdX5_sample_139 (by decide) ?_
              refine lv_bipush (v := 16) hx hb kdX5_sample_140 (by decide) ?_
              refine lv_iload hx hb kdX5_sample_142 (lv_at hl 0 rfl) ?_
              refine lv_imul hx hb kdX5_sample_144 ?_
              refine lv_iadd hx hb kdX5_sample_145 ?_
              obtain ⟨g_64, h⟩ := kb_g_s h
              refine va_iast hx hb hK hP hD hS 12 1 rfl rfl (kb_in_v g_64) kdX5_sample_146 (fun H locs hP hD hS => ?_)
              obtain ⟨f_65, ef_65⟩ : ∃ y, y = upd f_a1p36 x6p36.toNatClampNeg ((r_47 / (16 : Int32)) + ((16 : Int32) * r_53)) := ⟨_, rfl⟩
              have h := kb_n_s ef_65 h
              have hP : va_P D kCl (kWX5_sample cB cI cL cBB cII cSh h_this a_this h_a1 n_a1 h_a2 n_a2 this_taped this_code w_2 w_3 w_54 w_32 this_bitAt this_k this_e1 this_du this_dv f_this_roots f_this_cubes f_this_start224 f_this_start256 f_this_turns f_this_round f_55 f_56 f_57 f_36 f_37 f_65 f_a2) H := by rw [ef_65]; exact hP
              have hD : va_D A (kWX5_sample cB cI cL cBB cII cSh h_this a_this h_a1 n_a1 h_a2 n_a2 this_taped this_code w_2 w_3 w_54 w_32 this_bitAt this_k this_e1 this_du this_dv f_this_roots f_this_cubes f_this_start224 f_this_start256 f_this_turns f_this_round f_55 f_56 f_57 f_36 f_37 f_65 f_a2) := by rw [ef_65]; exact hD
              obtain ⟨x6_66, ex6_66⟩ : ∃ y : Int32, y = x6p36 + Int32.ofInt 1 := ⟨_, rfl⟩
              have h := kb_n_s ex6_66 h
              refine lv_iinc (v := x6_66) (lv' := [(6, .int x6_66), (10, .int r_53), (9, .int r_47), (8, .int r_41), (0, .ref h_this), (1, .ref h_a1), (7, .int x7p36)]) hx hb kdX5_sample_147 hl (k := 5) rfl ex6_66.symm (by decide) rfl (fun ls hl => ?_)
              obtain ⟨x7_67, ex7_67⟩ : ∃ y : Int32, y = x7p36 + Int32.ofInt 1 := ⟨_, rfl⟩
              have h := kb_n_s ex7_67 h
              refine lv_iinc (v := x7_67) (lv' := [(7, .int x7_67), (6, .int x6_66), (10, .int r_53), (9, .int r_47), (8, .int r_41), (0, .ref h_this), (1, .ref h_a1)]) hx hb kdX5_sample_150 hl (k := 6) rfl ex7_67.symm (by decide) rfl (fun ls hl => ?_)
              refine lv_goto (tgt := 36) hx hb kdX5_sample_153 (by decide) ?_
              obtain rfl := Option.some.inj h
              exact ih x6_66 x7_67 f_65 w_54 f_57 f_56 f_55 r ho _ _ _ hP hD hS (lv_sub hl [5, 6, 1, 0] rfl) hk0
        · have h := kb_b_f c_59 h
          refine lv_aload_n hx hb kdX5_sample_88 rfl (lv_at hl 4 rfl) ?_
          refine lv_iload hx hb kdX5_sample_89 (lv_at hl 5 rfl) ?_
          refine lv_iload hx hb kdX5_sample_91 (lv_at hl 2 rfl) ?_
          refine lv_sipush (v := 256) hx hb kdX5_sample_93 (by decide) ?_
          refine lv_iload hx hb kdX5_sample_96 (lv_at hl 1 rfl) ?_
          refine lv_bipush (v := 16) hx hb kdX5_sample_98 (by decide) ?_
          refine lv_irem hx hb kdX5_sample_100 (by decide) ?_
          refine lv_imul hx hb kdX5_sample_101 ?_
          refine lv_iadd hx hb kdX5_sample_102 ?_
          obtain ⟨g_68, h⟩ := kb_g_s h
          refine va_iast hx hb hK hP hD hS 12 1 rfl rfl (kb_in_v g_68) kdX5_sample_103 (fun H locs hP hD hS => ?_)
          obtain ⟨f_69, ef_69⟩ : ∃ y, y = upd f_a1p36 x6p36.toNatClampNeg (r_41 + ((256 : Int32) * (r_47 - r_47 / (16 : Int32) * (16 : Int32)))) := ⟨_, rfl⟩
          have h := kb_n_s ef_69 h
          have hP : va_P D kCl (kWX5_sample cB cI cL cBB cII cSh h_this a_this h_a1 n_a1 h_a2 n_a2 this_taped this_code w_2 w_3 w_54 w_32 this_bitAt this_k this_e1 this_du this_dv f_this_roots f_this_cubes f_this_start224 f_this_start256 f_this_turns f_this_round f_55 f_56 f_57 f_36 f_37 f_69 f_a2) H := by rw [ef_69]; exact hP
          have hD : va_D A (kWX5_sample cB cI cL cBB cII cSh h_this a_this h_a1 n_a1 h_a2 n_a2 this_taped this_code w_2 w_3 w_54 w_32 this_bitAt this_k this_e1 this_du this_dv f_this_roots f_this_cubes f_this_start224 f_this_start256 f_this_turns f_this_round f_55 f_56 f_57 f_36 f_37 f_69 f_a2) := by rw [ef_69]; exact hD
          obtain ⟨x6_70, ex6_70⟩ : ∃ y : Int32, y = x6p36 + Int32.ofInt 1 := ⟨_, rfl⟩
          have h := kb_n_s ex6_70 h
          refine lv_iinc (v := x6_70) (lv' := [(6, .int x6_70), (10, .int r_53), (9, .int r_47), (8, .int r_41), (0, .ref h_this), (1, .ref h_a1), (7, .int x7p36)]) hx hb kdX5_sample_104 hl (k := 5) rfl ex6_70.symm (by decide) rfl (fun ls hl => ?_)
          refine lv_iload hx hb kdX5_sample_107 (lv_at hl 0 rfl) ?_
          refine lv_sipush (v := 256) hx hb kdX5_sample_109 (by decide) ?_
          refine lv_icmp_ge (tgt := 150) hx hb kdX5_sample_112 (by decide) (fun c_71 => ?_) (fun c_71 => ?_)
          · have h := kb_b_t c_71 h
            obtain ⟨x7_72, ex7_72⟩ : ∃ y : Int32, y = x7p36 + Int32.ofInt 1 := ⟨_, rfl⟩
            have h := kb_n_s ex7_72 h
            refine lv_iinc (v := x7_72) (lv' := [(7, .int x7_72), (6, .int x6_70), (10, .int r_53), (9, .int r_47), (8, .int r_41), (0, .ref h_this), (1, .ref h_a1)]) hx hb kdX5_sample_150 hl (k := 6) rfl ex7_72.symm (by decide) rfl (fun ls hl => ?_)
            refine lv_goto (tgt := 36) hx hb kdX5_sample_153 (by decide) ?_
            obtain rfl := Option.some.inj h
            exact ih x6_70 x7_72 f_69 w_54 f_57 f_56 f_55 r ho _ _ _ hP hD hS (lv_sub hl [5, 6, 1, 0] rfl) hk0
          · have h := kb_b_f c_71 h
            refine lv_iload hx hb kdX5_sample_115 (lv_at hl 2 rfl) ?_
            refine lv_bipush (v := 16) hx hb kdX5_sample_117 (by decide) ?_
            refine lv_idiv hx hb kdX5_sample_119 (by decide) ?_
            refine lv_bipush (v := 16) hx hb kdX5_sample_120 (by decide) ?_
            refine lv_iload hx hb kdX5_sample_122 (lv_at hl 1 rfl) ?_
            refine lv_imul hx hb kdX5_sample_124 ?_
            refine lv_iadd hx hb kdX5_sample_125 ?_
            refine lv_sipush (v := 3329) hx hb kdX5_sample_126 (by decide) ?_
            refine lv_icmp_ge (tgt := 150) hx hb kdX5_sample_129 (by decide) (fun c_73 => ?_) (fun c_73 => ?_)
            · have h := kb_b_t c_73 h
              obtain ⟨x7_74, ex7_74⟩ : ∃ y : Int32, y = x7p36 + Int32.ofInt 1 := ⟨_, rfl⟩
              have h := kb_n_s ex7_74 h
              refine lv_iinc (v := x7_74) (lv' := [(7, .int x7_74), (6, .int x6_70), (10, .int r_53), (9, .int r_47), (8, .int r_41), (0, .ref h_this), (1, .ref h_a1)]) hx hb kdX5_sample_150 hl (k := 6) rfl ex7_74.symm (by decide) rfl (fun ls hl => ?_)
              refine lv_goto (tgt := 36) hx hb kdX5_sample_153 (by decide) ?_
              obtain rfl := Option.some.inj h
              exact ih x6_70 x7_74 f_69 w_54 f_57 f_56 f_55 r ho _ _ _ hP hD hS (lv_sub hl [5, 6, 1, 0] rfl) hk0
            · have h := kb_b_f c_73 h
              refine lv_aload_n hx hb kdX5_sample_132 rfl (lv_at hl 5 rfl) ?_
              refine lv_iload hx hb kdX5_sample_133 (lv_at hl 0 rfl) ?_
              refine lv_iload hx hb kdX5_sample_135 (lv_at hl 2 rfl) ?_
              refine lv_bipush (v := 16) hx hb kdX5_sample_137 (by decide) ?_
              refine lv_idiv hx hb kdX5_sample_139 (by decide) ?_
              refine lv_bipush (v := 16) hx hb kdX5_sample_140 (by decide) ?_
              refine lv_iload hx hb kdX5_sample_142 (lv_at hl 1 rfl) ?_
              refine lv_imul hx hb kdX5_sample_144 ?_
              refine lv_iadd hx hb kdX5_sample_145 ?_
              obtain ⟨g_75, h⟩ := kb_g_s h
              refine va_iast hx hb hK hP hD hS 12 1 rfl rfl (kb_in_v g_75) kdX5_sample_146 (fun H locs hP hD hS => ?_)
              obtain ⟨f_76, ef_76⟩ : ∃ y, y = upd f_69 x6_70.toNatClampNeg ((r_47 / (16 : Int32)) + ((16 : Int32) * r_53)) := ⟨_, rfl⟩
              have h := kb_n_s ef_76 h
              have hP : va_P D kCl (kWX5_sample cB cI cL cBB cII cSh h_this a_this h_a1 n_a1 h_a2 n_a2 this_taped this_code w_2 w_3 w_54 w_32 this_bitAt this_k this_e1 this_du this_dv f_this_roots f_this_cubes f_this_start224 f_this_start256 f_this_turns f_this_round f_55 f_56 f_57 f_36 f_37 f_76 f_a2) H := by rw [ef_76]; exact hP
              have hD : va_D A (kWX5_sample cB cI cL cBB cII cSh h_this a_this h_a1 n_a1 h_a2 n_a2 this_taped this_code w_2 w_3 w_54 w_32 this_bitAt this_k this_e1 this_du this_dv f_this_roots f_this_cubes f_this_start224 f_this_start256 f_this_turns f_this_round f_55 f_56 f_57 f_36 f_37 f_76 f_a2) := by rw [ef_76]; exact hD
              obtain ⟨x6_77, ex6_77⟩ : ∃ y : Int32, y = x6_70 + Int32.ofInt 1 := ⟨_, rfl⟩
              have h := kb_n_s ex6_77 h
              refine lv_iinc (v := x6_77) (lv' := [(6, .int x6_77), (10, .int r_53), (9, .int r_47), (8, .int r_41), (0, .ref h_this), (1, .ref h_a1), (7, .int x7p36)]) hx hb kdX5_sample_147 hl (k := 0) rfl ex6_77.symm (by decide) rfl (fun ls hl => ?_)
              obtain ⟨x7_78, ex7_78⟩ : ∃ y : Int32, y = x7p36 + Int32.ofInt 1 := ⟨_, rfl⟩
              have h := kb_n_s ex7_78 h
              refine lv_iinc (v := x7_78) (lv' := [(7, .int x7_78), (6, .int x6_77), (10, .int r_53), (9, .int r_47), (8, .int r_41), (0, .ref h_this), (1, .ref h_a1)]) hx hb kdX5_sample_150 hl (k := 6) rfl ex7_78.symm (by decide) rfl (fun ls hl => ?_)
              refine lv_goto (tgt := 36) hx hb kdX5_sample_153 (by decide) ?_
              obtain rfl := Option.some.inj h
              exact ih x6_77 x7_78 f_76 w_54 f_57 f_56 f_55 r ho _ _ _ hP hD hS (lv_sub hl [5, 6, 1, 0] rfl) hk0
set_option maxHeartbeats 4000000 in
set_option maxRecDepth 100000 in
theorem kcX5_sample (l : Launch) (D : va_G) (cB cI cL cBB cII cSh : ClassId) (h_this h_a1 h_a2 : Nat) (a_this : Nat → Nat) (sz : Nat) (p3 : Int32) (p4 : Int32) (p5 : Int32) (n_a1 : Nat) (n_a2 : Nat) (this_taped : Int32) (this_code : Int32) (this_kind : Int32) (this_rate : Int32) (this_filled : Int32) (this_total : Int64) (this_bitAt : Int32) (this_k : Int32) (this_e1 : Int32) (this_du : Int32) (this_dv : Int32) (f_this_roots : Nat → Int64) (f_this_cubes : Nat → Int64) (f_this_start224 : Nat → Int64) (f_this_start256 : Nat → Int64) (f_this_turns : Nat → Int32) (f_this_round : Nat → Int64) (f_this_state : Nat → Int64) (f_this_other : Nat → Int64) (f_this_column : Nat → Int64) (f_this_words : Nat → Int64) (f_this_block : Nat → Int32) (f_a1 : Nat → Int32) (f_a2 : Nat → Int32) (out : Int32 × Int32 × Int32 × Int32 × Int64 × (Nat → Int64) × (Nat → Int64) × (Nat → Int64) × (Nat → Int64) × (Nat → Int32) × (Nat → Int32)) (h : kFX5_sample p3 p4 p5 n_a1 n_a2 f_this_roots f_this_cubes f_this_start224 f_this_start256 f_this_turns f_this_round f_this_state f_this_other f_this_column f_this_words f_this_block f_a1 f_a2 = some out) : Met l kyX5_sample kwX5_sample krX5_sample (kb_P D kCl (kb_T cB cI cL cBB cII cSh) [.ref h_this, .ref h_a1, .ref h_a2, .int p3, .int p4, .int p5] (kWX5_sample cB cI cL cBB cII cSh h_this a_this h_a1 n_a1 h_a2 n_a2 this_taped this_code this_kind this_rate this_filled this_total this_bitAt this_k this_e1 this_du this_dv f_this_roots f_this_cubes f_this_start224 f_this_start256 f_this_turns f_this_round f_this_state f_this_other f_this_column f_this_words f_this_block f_a1 f_a2) sz) (kb_Q D kCl (kb_T cB cI cL cBB cII cSh) (va_A (kWX5_sample cB cI cL cBB cII cSh h_this a_this h_a1 n_a1 h_a2 n_a2 this_taped this_code this_kind this_rate this_filled this_total this_bitAt this_k this_e1 this_du this_dv f_this_roots f_this_cubes f_this_start224 f_this_start256 f_this_turns f_this_round f_this_state f_this_other f_this_column f_this_words f_this_block f_a1 f_a2) sz) (some (.int out.1)) (kWX5_sample cB cI cL cBB cII cSh h_this a_this h_a1 n_a1 h_a2 n_a2 this_taped this_code out.2.2.1 out.2.2.2.1 out.2.1 out.2.2.2.2.1 this_bitAt this_k this_e1 this_du this_dv f_this_roots f_this_cubes f_this_start224 f_this_start256 f_this_turns f_this_round out.2.2.2.2.2.1 out.2.2.2.2.2.2.1 out.2.2.2.2.2.2.2.1 out.2.2.2.2.2.2.2.2.1 out.2.2.2.2.2.2.2.2.2.1 out.2.2.2.2.2.2.2.2.2.2 f_a2)) 0 0 (va_A (kWX5_sample cB cI cL cBB cII cSh h_this a_this h_a1 n_a1 h_a2 n_a2 this_taped this_code this_kind this_rate this_filled this_total this_bitAt this_k this_e1 this_du this_dv f_this_roots f_this_cubes f_this_start224 f_this_start256 f_this_turns f_this_round f_this_state f_this_other f_this_column f_this_words f_this_block f_a1 f_a2) sz) := by
  refine Met.ofW (cc := prog_8_method_47_code) (maxL := 11) (ret := (some .boolean)) (by decide) rfl ?_
  intro p e s m args below meth c s₁ B hml hv
  obtain ⟨rfl, hsz, hP, hK, hN, hD0⟩ := hv
  have hx := B.exec
  have hb := B.bytes
  have hr := B.returns
  have hts0 := atoms_spec (ws := kwX5_sample) B.pre
  have hts : ∀ w ∈ kwA, w.before _ s = true := fun w h => hts0 w (List.mem_cons_of_mem _ h)
  have hown : s.vm.findClass kRX5 = some m.cls := findClass_of_methodNamed B.named
  have hlocks := B.notSynchronized
  subst hsz
  have hD := hD0.self (sz := s.heap.size)
  generalize hAe : va_A (kWX5_sample cB cI cL cBB cII cSh h_this a_this h_a1 n_a1 h_a2 n_a2 this_taped this_code this_kind this_rate this_filled this_total this_bitAt this_k this_e1 this_du this_dv f_this_roots f_this_cubes f_this_start224 f_this_start256 f_this_turns f_this_round f_this_state f_this_other f_this_column f_this_words f_this_block f_a1 f_a2) s.heap.size = A at hD ⊢
  have hA : ∀ q : Nat, s.heap.size ≤ q → A q := fun q h => by rw [← hAe]; exact Or.inr h
  have hS : va_S A s.heap s.heap [] := va_S.rf
  have C0 : CallFix p m c prog_8_method_47_code 11 s _ kwA kRX5 := ⟨hx, hb, hml, hown, hts⟩
  have hl := lv_entry ([.ref h_this, .ref h_a1, .ref h_a2, .int p3, .int p4, .int p5]) (n := 11) (Nat.le_of_ble_eq_true rfl)
  rw [lg_entry_eq]
  generalize (lg_sl ([.ref h_this, .ref h_a1, .ref h_a2, .int p3, .int p4, .int p5]) ++ List.replicate (11 - (lg_sl ([.ref h_this, .ref h_a1, .ref h_a2, .int p3, .int p4, .int p5])).length) Slot.unset).toArray = ls at hl ⊢
  have hl : lv_has ls 11 [(0, .ref h_this), (1, .ref h_a1), (2, .ref h_a2), (3, .int p3), (4, .int p4), (5, .int p5)] := hl
  unfold kFX5_sample at h
  refine lv_aload_n hx hb kdX5_sample_0 rfl (lv_at hl 0 rfl) ?_
  refine lv_bipush (v := 11) hx hb kdX5_sample_1 (by decide) ?_
  obtain ⟨u_6, hu_6, h⟩ := kb_o_s h
  obtain ⟨w_1, w_2, w_3, w_4, f_5⟩ := u_6
  try dsimp only at h
  have hC := (show ([0, 1, 3, 4, 7] : List Nat).map (fun i : Nat => (kWX5_sample cB cI cL cBB cII cSh h_this a_this h_a1 n_a1 h_a2 n_a2 this_taped this_code this_kind this_rate this_filled this_total this_bitAt this_k this_e1 this_du this_dv f_this_roots f_this_cubes f_this_start224 f_this_start256 f_this_turns f_this_round f_this_state f_this_other f_this_column f_this_words f_this_block f_a1 f_a2)[i]?) = List.map some (kWX5_begin cB cI cL cBB cII cSh h_this a_this this_taped this_code this_kind this_rate this_filled this_total this_bitAt this_k this_e1 this_du this_dv f_this_roots f_this_start224 f_this_start256 f_this_state) from rfl)
  have hPc := kb_Psub hP ([0, 1, 3, 4, 7] : List Nat) hC
  have hDc := kb_Dsub hD ([0, 1, 3, 4, 7] : List Nat) hC (by simp [kb_nd])
  refine kb_call0 (va_runV (As := [.int (11 : Int32)]) (rest := []) C0 (kcX5_begin l D cB cI cL cBB cII cSh h_this a_this _ (11 : Int32) this_taped this_code this_kind this_rate this_filled this_total this_bitAt this_k this_e1 this_du this_dv f_this_roots f_this_start224 f_this_start256 f_this_state (w_1, w_2, w_3, w_4, f_5) hu_6) (cwV 1 hts (kb_gV km_629 km_631 kp_4 km_6 km_632) rfl rfl rfl (by decide +kernel) ⟨Nat.le_of_ble_eq_true rfl, Nat.le_of_ble_eq_true rfl⟩) ⟨kb_P_bl, va_recv hK hP (ci := 5) (q0 := 0) rfl rfl, (fun U hU hW => ⟨rfl, by rw [hU], by rw [hU]; exact hPc, va_K.moved hW.alike hK, kb_N_to hW hN, hDc.weaken (fun _ _ _ _ => trivial)⟩)⟩ rfl rfl hl.1 rfl (lv_room (Nat.le_of_ble_eq_true rfl)) kdX5_sample_3 ⟨Nat.le_of_ble_eq_true rfl, Nat.le_of_ble_eq_true rfl⟩) hP hD hS hA ([0, 1, 3, 4, 7] : List Nat) hC rfl (fun H locs hP hD hS => ?_)
  have hP : va_P D kCl (kWX5_sample cB cI cL cBB cII cSh h_this a_this h_a1 n_a1 h_a2 n_a2 this_taped this_code w_2 w_3 w_1 w_4 this_bitAt this_k this_e1 this_du this_dv f_this_roots f_this_cubes f_this_start224 f_this_start256 f_this_turns f_this_round f_5 f_this_other f_this_column f_this_words f_this_block f_a1 f_a2) H := hP
  have hD : va_D A (kWX5_sample cB cI cL cBB cII cSh h_this a_this h_a1 n_a1 h_a2 n_a2 this_taped this_code w_2 w_3 w_1 w_4 this_bitAt this_k this_e1 this_du this_dv f_this_roots f_this_cubes f_this_start224 f_this_start256 f_this_turns f_this_round f_5 f_this_other f_this_column f_this_words f_this_block f_a1 f_a2) := hD
  refine lv_aload_n hx hb kdX5_sample_6 rfl (lv_at hl 0 rfl) ?_
  refine lv_aload_n hx hb kdX5_sample_7 rfl (lv_at hl 2 rfl) ?_
  refine lv_iload_n hx hb kdX5_sample_8 rfl (lv_at hl 3 rfl) ?_
  refine lv_bipush (v := 32) hx hb kdX5_sample_9 (by decide) ?_
  obtain ⟨u_14, hu_14, h⟩ := kb_o_s h
  obtain ⟨w_7, w_8, f_9, f_10, f_11, f_12, f_13⟩ := u_14
  try dsimp only at h
  have hC := (show ([0, 2, 5, 6, 7, 8, 9, 10, 11, 13] : List Nat).map (fun i : Nat => (kWX5_sample cB cI cL cBB cII cSh h_this a_this h_a1 n_a1 h_a2 n_a2 this_taped this_code w_2 w_3 w_1 w_4 this_bitAt this_k this_e1 this_du this_dv f_this_roots f_this_cubes f_this_start224 f_this_start256 f_this_turns f_this_round f_5 f_this_other f_this_column f_this_words f_this_block f_a1 f_a2)[i]?) = List.map some (kWX5_put2 cB cI cL cBB cII cSh h_this a_this h_a2 n_a2 this_taped this_code w_2 w_3 w_1 w_4 this_bitAt this_k this_e1 this_du this_dv f_this_cubes f_this_turns f_this_round f_5 f_this_other f_this_column f_this_words f_this_block f_a2) from rfl)
  have hPc := kb_Psub hP ([0, 2, 5, 6, 7, 8, 9, 10, 11, 13] : List Nat) hC
  have hDc := kb_Dsub hD ([0, 2, 5, 6, 7, 8, 9, 10, 11, 13] : List Nat) hC (by simp [kb_nd])
  refine kb_call0 (va_runV (As := [.ref h_a2, .int p3, .int (32 : Int32)]) (rest := []) C0 (kcX5_put2 l D cB cI cL cBB cII cSh h_this h_a2 a_this _ p3 (32 : Int32) n_a2 this_taped this_code w_2 w_3 w_1 w_4 this_bitAt this_k this_e1 this_du this_dv f_this_cubes f_this_turns f_this_round f_5 f_this_other f_this_column f_this_words f_this_block f_a2 (w_7, w_8, f_9, f_10, f_11, f_12, f_13) hu_14) (cwV 3 hts (kb_gV km_842 km_844 kp_25 km_6 km_845) rfl rfl rfl (by decide +kernel) ⟨Nat.le_of_ble_eq_true rfl, Nat.le_of_ble_eq_true rfl⟩) ⟨kb_P_bl, va_recv hK hP (ci := 5) (q0 := 0) rfl rfl, (fun U hU hW => ⟨rfl, by rw [hU], by rw [hU]; exact hPc, va_K.moved hW.alike hK, kb_N_to hW hN, hDc.weaken (fun _ _ _ _ => trivial)⟩)⟩ rfl rfl hl.1 rfl (lv_room (Nat.le_of_ble_eq_true rfl)) kdX5_sample_11 ⟨Nat.le_of_ble_eq_true rfl, Nat.le_of_ble_eq_true rfl⟩) hP hD hS hA ([0, 2, 5, 6, 7, 8, 9, 10, 11, 13] : List Nat) hC rfl (fun H locs hP hD hS => ?_)
  have hP : va_P D kCl (kWX5_sample cB cI cL cBB cII cSh h_this a_this h_a1 n_a1 h_a2 n_a2 this_taped this_code w_2 w_3 w_7 w_8 this_bitAt this_k this_e1 this_du this_dv f_this_roots f_this_cubes f_this_start224 f_this_start256 f_this_turns f_this_round f_9 f_10 f_11 f_12 f_13 f_a1 f_a2) H := hP
  have hD : va_D A (kWX5_sample cB cI cL cBB cII cSh h_this a_this h_a1 n_a1 h_a2 n_a2 this_taped this_code w_2 w_3 w_7 w_8 this_bitAt this_k this_e1 this_du this_dv f_this_roots f_this_cubes f_this_start224 f_this_start256 f_this_turns f_this_round f_9 f_10 f_11 f_12 f_13 f_a1 f_a2) := hD
  refine lv_aload_n hx hb kdX5_sample_14 rfl (lv_at hl 0 rfl) ?_
  refine lv_iload hx hb kdX5_sample_15 (lv_at hl 4 rfl) ?_
  obtain ⟨u_22, hu_22, h⟩ := kb_o_s h
  obtain ⟨w_15, w_16, f_17, f_18, f_19, f_20, f_21⟩ := u_22
  try dsimp only at h
  have hC := (show ([0, 2, 5, 6, 7, 8, 9, 10, 11] : List Nat).map (fun i : Nat => (kWX5_sample cB cI cL cBB cII cSh h_this a_this h_a1 n_a1 h_a2 n_a2 this_taped this_code w_2 w_3 w_7 w_8 this_bitAt this_k this_e1 this_du this_dv f_this_roots f_this_cubes f_this_start224 f_this_start256 f_this_turns f_this_round f_9 f_10 f_11 f_12 f_13 f_a1 f_a2)[i]?) = List.map some (kWX5_put cB cI cL cBB cII cSh h_this a_this this_taped this_code w_2 w_3 w_7 w_8 this_bitAt this_k this_e1 this_du this_dv f_this_cubes f_this_turns f_this_round f_9 f_10 f_11 f_12 f_13) from rfl)
  have hPc := kb_Psub hP ([0, 2, 5, 6, 7, 8, 9, 10, 11] : List Nat) hC
  have hDc := kb_Dsub hD ([0, 2, 5, 6, 7, 8, 9, 10, 11] : List Nat) hC (by simp [kb_nd])
  refine kb_call0 (va_runV (As := [.int p4]) (rest := []) C0 (kcX5_put l D cB cI cL cBB cII cSh h_this a_this _ p4 this_taped this_code w_2 w_3 w_7 w_8 this_bitAt this_k this_e1 this_du this_dv f_this_cubes f_this_turns f_this_round f_9 f_10 f_11 f_12 f_13 (w_15, w_16, f_17, f_18, f_19, f_20, f_21) hu_22) (cwV 1 hts (kb_gV km_641 km_643 kp_22 km_6 km_644) rfl rfl rfl (by decide +kernel) ⟨Nat.le_of_ble_eq_true rfl, Nat.le_of_ble_eq_true rfl⟩) ⟨kb_P_bl, va_recv hK hP (ci := 5) (q0 := 0) rfl rfl, (fun U hU hW => ⟨rfl, by rw [hU], by rw [hU]; exact hPc, va_K.moved hW.alike hK, kb_N_to hW hN, hDc.weaken (fun _ _ _ _ => trivial)⟩)⟩ rfl rfl hl.1 rfl (lv_room (Nat.le_of_ble_eq_true rfl)) kdX5_sample_17 ⟨Nat.le_of_ble_eq_true rfl, Nat.le_of_ble_eq_true rfl⟩) hP hD hS hA ([0, 2, 5, 6, 7, 8, 9, 10, 11] : List Nat) hC rfl (fun H locs hP hD hS => ?_)
  have hP : va_P D kCl (kWX5_sample cB cI cL cBB cII cSh h_this a_this h_a1 n_a1 h_a2 n_a2 this_taped this_code w_2 w_3 w_15 w_16 this_bitAt this_k this_e1 this_du this_dv f_this_roots f_this_cubes f_this_start224 f_this_start256 f_this_turns f_this_round f_17 f_18 f_19 f_20 f_21 f_a1 f_a2) H := hP
  have hD : va_D A (kWX5_sample cB cI cL cBB cII cSh h_this a_this h_a1 n_a1 h_a2 n_a2 this_taped this_code w_2 w_3 w_15 w_16 this_bitAt this_k this_e1 this_du this_dv f_this_roots f_this_cubes f_this_start224 f_this_start256 f_this_turns f_this_round f_17 f_18 f_19 f_20 f_21 f_a1 f_a2) := hD
  refine lv_aload_n hx hb kdX5_sample_20 rfl (lv_at hl 0 rfl) ?_
  refine lv_iload hx hb kdX5_sample_21 (lv_at hl 5 rfl) ?_
  obtain ⟨u_30, hu_30, h⟩ := kb_o_s h
  obtain ⟨w_23, w_24, f_25, f_26, f_27, f_28, f_29⟩ := u_30
  try dsimp only at h
  have hC := (show ([0, 2, 5, 6, 7, 8, 9, 10, 11] : List Nat).map (fun i : Nat => (kWX5_sample cB cI cL cBB cII cSh h_this a_this h_a1 n_a1 h_a2 n_a2 this_taped this_code w_2 w_3 w_15 w_16 this_bitAt this_k this_e1 this_du this_dv f_this_roots f_this_cubes f_this_start224 f_this_start256 f_this_turns f_this_round f_17 f_18 f_19 f_20 f_21 f_a1 f_a2)[i]?) = List.map some (kWX5_put cB cI cL cBB cII cSh h_this a_this this_taped this_code w_2 w_3 w_15 w_16 this_bitAt this_k this_e1 this_du this_dv f_this_cubes f_this_turns f_this_round f_17 f_18 f_19 f_20 f_21) from rfl)
  have hPc := kb_Psub hP ([0, 2, 5, 6, 7, 8, 9, 10, 11] : List Nat) hC
  have hDc := kb_Dsub hD ([0, 2, 5, 6, 7, 8, 9, 10, 11] : List Nat) hC (by simp [kb_nd])
  refine kb_call0 (va_runV (As := [.int p5]) (rest := []) C0 (kcX5_put l D cB cI cL cBB cII cSh h_this a_this _ p5 this_taped this_code w_2 w_3 w_15 w_16 this_bitAt this_k this_e1 this_du this_dv f_this_cubes f_this_turns f_this_round f_17 f_18 f_19 f_20 f_21 (w_23, w_24, f_25, f_26, f_27, f_28, f_29) hu_30) (cwV 1 hts (kb_gV km_641 km_643 kp_22 km_6 km_644) rfl rfl rfl (by decide +kernel) ⟨Nat.le_of_ble_eq_true rfl, Nat.le_of_ble_eq_true rfl⟩) ⟨kb_P_bl, va_recv hK hP (ci := 5) (q0 := 0) rfl rfl, (fun U hU hW => ⟨rfl, by rw [hU], by rw [hU]; exact hPc, va_K.moved hW.alike hK, kb_N_to hW hN, hDc.weaken (fun _ _ _ _ => trivial)⟩)⟩ rfl rfl hl.1 rfl (lv_room (Nat.le_of_ble_eq_true rfl)) kdX5_sample_23 ⟨Nat.le_of_ble_eq_true rfl, Nat.le_of_ble_eq_true rfl⟩) hP hD hS hA ([0, 2, 5, 6, 7, 8, 9, 10, 11] : List Nat) hC rfl (fun H locs hP hD hS => ?_)
  have hP : va_P D kCl (kWX5_sample cB cI cL cBB cII cSh h_this a_this h_a1 n_a1 h_a2 n_a2 this_taped this_code w_2 w_3 w_23 w_24 this_bitAt this_k this_e1 this_du this_dv f_this_roots f_this_cubes f_this_start224 f_this_start256 f_this_turns f_this_round f_25 f_26 f_27 f_28 f_29 f_a1 f_a2) H := hP
  have hD : va_D A (kWX5_sample cB cI cL cBB cII cSh h_this a_this h_a1 n_a1 h_a2 n_a2 this_taped this_code w_2 w_3 w_23 w_24 this_bitAt this_k this_e1 this_du this_dv f_this_roots f_this_cubes f_this_start224 f_this_start256 f_this_turns f_this_round f_25 f_26 f_27 f_28 f_29 f_a1 f_a2) := hD
  refine lv_aload_n hx hb kdX5_sample_26 rfl (lv_at hl 0 rfl) ?_
  obtain ⟨u_38, hu_38, h⟩ := kb_o_s h
  obtain ⟨w_31, w_32, f_33, f_34, f_35, f_36, f_37⟩ := u_38
  try dsimp only at h
  have hC := (show ([0, 2, 5, 6, 7, 8, 9, 10, 11] : List Nat).map (fun i : Nat => (kWX5_sample cB cI cL cBB cII cSh h_this a_this h_a1 n_a1 h_a2 n_a2 this_taped this_code w_2 w_3 w_23 w_24 this_bitAt this_k this_e1 this_du this_dv f_this_roots f_this_cubes f_this_start224 f_this_start256 f_this_turns f_this_round f_25 f_26 f_27 f_28 f_29 f_a1 f_a2)[i]?) = List.map some (kWX5_finish cB cI cL cBB cII cSh h_this a_this this_taped this_code w_2 w_3 w_23 w_24 this_bitAt this_k this_e1 this_du this_dv f_this_cubes f_this_turns f_this_round f_25 f_26 f_27 f_28 f_29) from rfl)
  have hPc := kb_Psub hP ([0, 2, 5, 6, 7, 8, 9, 10, 11] : List Nat) hC
  have hDc := kb_Dsub hD ([0, 2, 5, 6, 7, 8, 9, 10, 11] : List Nat) hC (by simp [kb_nd])
  refine kb_call0 (va_runV (As := []) (rest := []) C0 (kcX5_finish l D cB cI cL cBB cII cSh h_this a_this _ this_taped this_code w_2 w_3 w_23 w_24 this_bitAt this_k this_e1 this_du this_dv f_this_cubes f_this_turns f_this_round f_25 f_26 f_27 f_28 f_29 (w_31, w_32, f_33, f_34, f_35, f_36, f_37) hu_38) (cwV 0 hts (kb_gV km_676 km_678 kp_23 km_6 km_679) rfl rfl rfl (by decide +kernel) ⟨Nat.le_of_ble_eq_true rfl, Nat.le_of_ble_eq_true rfl⟩) ⟨kb_P_bl, va_recv hK hP (ci := 5) (q0 := 0) rfl rfl, (fun U hU hW => ⟨rfl, by rw [hU], by rw [hU]; exact hPc, va_K.moved hW.alike hK, kb_N_to hW hN, hDc.weaken (fun _ _ _ _ => trivial)⟩)⟩ rfl rfl hl.1 rfl (lv_room (Nat.le_of_ble_eq_true rfl)) kdX5_sample_27 ⟨Nat.le_of_ble_eq_true rfl, Nat.le_of_ble_eq_true rfl⟩) hP hD hS hA ([0, 2, 5, 6, 7, 8, 9, 10, 11] : List Nat) hC rfl (fun H locs hP hD hS => ?_)
  have hP : va_P D kCl (kWX5_sample cB cI cL cBB cII cSh h_this a_this h_a1 n_a1 h_a2 n_a2 this_taped this_code w_2 w_3 w_31 w_32 this_bitAt this_k this_e1 this_du this_dv f_this_roots f_this_cubes f_this_start224 f_this_start256 f_this_turns f_this_round f_33 f_34 f_35 f_36 f_37 f_a1 f_a2) H := hP
  have hD : va_D A (kWX5_sample cB cI cL cBB cII cSh h_this a_this h_a1 n_a1 h_a2 n_a2 this_taped this_code w_2 w_3 w_31 w_32 this_bitAt this_k this_e1 this_du this_dv f_this_roots f_this_cubes f_this_start224 f_this_start256 f_this_turns f_this_round f_33 f_34 f_35 f_36 f_37 f_a1 f_a2) := hD
  refine lv_iconst (v := 0) hx hb kdX5_sample_30 (by decide) ?_
  refine lv_istore (lv' := [(6, .int (0 : Int32)), (0, .ref h_this), (1, .ref h_a1), (2, .ref h_a2), (3, .int p3), (4, .int p4), (5, .int p5)]) hx hb kdX5_sample_31 hl (by decide) rfl (fun ls hl => ?_)
  refine lv_iconst (v := 0) hx hb kdX5_sample_33 (by decide) ?_
  refine lv_istore (lv' := [(7, .int (0 : Int32)), (6, .int (0 : Int32)), (0, .ref h_this), (1, .ref h_a1), (2, .ref h_a2), (3, .int p3), (4, .int p4), (5, .int p5)]) hx hb kdX5_sample_34 hl (by decide) rfl (fun ls hl => ?_)
  obtain ⟨r_87, hr_87, h⟩ := kb_o_s h
  refine klX5_sample_36 C0 hlocks hK hN hA (by decide) (by decide) h_this h_a1 h_a2 a_this n_a1 n_a2 this_taped this_code w_2 w_3 w_32 this_bitAt this_k this_e1 this_du this_dv f_this_roots f_this_cubes f_this_start224 f_this_start256 f_this_turns f_this_round f_36 f_37 f_a2 100000 (0 : Int32) (0 : Int32) f_a1 w_31 f_35 f_34 f_33 r_87 hr_87 _ _ _ hP hD hS (lv_sub hl [2, 3, 1, 0] rfl) (fun x6p36_79 x7p36_80 f_a1p36_81 this_filledp36_82 f_this_columnp36_83 f_this_otherp36_84 f_this_statep36_85 er_87 H locs ls hP hD hS hl => ?_)
  subst er_87
  try dsimp only at h
  refine lv_iload hx hb kdX5_sample_156 (lv_at hl 2 rfl) ?_
  refine lv_sipush (v := 256) hx hb kdX5_sample_158 (by decide) ?_
  refine lv_icmp_ne (tgt := 168) hx hb kdX5_sample_161 (by decide) (fun c_86 => ?_) (fun c_86 => ?_)
  · have h := kb_b_f c_86 h
    refine lv_iconst (v := 0) hx hb kdX5_sample_168 (by decide) ?_
    obtain rfl := Option.some.inj h
    exact W.zret (v := (0 : Int32)) (ty := .boolean) hx hb hr (by decide) (fun t ht hW => ⟨⟨rfl, by rw [ht]; exact hP, va_K.moved hW.alike hK, hD⟩, hS.F ht⟩) hS.2.2 kdX5_sample_169
  · have h := kb_b_t c_86 h
    refine lv_iconst (v := 1) hx hb kdX5_sample_164 (by decide) ?_
    refine lv_goto (tgt := 169) hx hb kdX5_sample_165 (by decide) ?_
    obtain rfl := Option.some.inj h
    exact W.zret (v := (1 : Int32)) (ty := .boolean) hx hb hr (by decide) (fun t ht hW => ⟨⟨rfl, by rw [ht]; exact hP, va_K.moved hW.alike hK, hD⟩, hS.F ht⟩) hS.2.2 kdX5_sample_169

-- 491.ModuleKemModel.binomial.lean.txt
abbrev kWX5_binomial (cB cI cL cBB cII cSh : ClassId) (h_this : Nat) (a_this : Nat → Nat) (h_a1 : Nat) (n_a1 : Nat) (h_a3 : Nat) (n_a3 : Nat) (this_taped : Int32) (this_code : Int32) (this_kind : Int32) (this_rate : Int32) (this_filled : Int32) (this_total : Int64) (this_bitAt : Int32) (this_k : Int32) (this_e1 : Int32) (this_du : Int32) (this_dv : Int32) (f_this_roots : Nat → Int64) (f_this_cubes : Nat → Int64) (f_this_start224 : Nat → Int64) (f_this_start256 : Nat → Int64) (f_this_turns : Nat → Int32) (f_this_round : Nat → Int64) (f_this_state : Nat → Int64) (f_this_other : Nat → Int64) (f_this_column : Nat → Int64) (f_this_words : Nat → Int64) (f_this_block : Nat → Int32) (f_this_noise : Nat → Int32) (f_a1 : Nat → Int32) (f_a3 : Nat → Int32) : va_W := [(h_this, koX5 a_this this_taped this_code this_kind this_rate this_filled this_total this_bitAt this_k this_e1 this_du this_dv), ((a_this 5), .inl (cL, 16, .inr (.inl f_this_roots))), ((a_this 6), .inl (cL, 80, .inr (.inl f_this_cubes))), ((a_this 7), .inl (cL, 8, .inr (.inl f_this_start224))), ((a_this 8), .inl (cL, 8, .inr (.inl f_this_start256))), ((a_this 11), .inl (cI, 25, .inl f_this_turns)), ((a_this 12), .inl (cL, 24, .inr (.inl f_this_round))), ((a_this 13), .inl (cL, 25, .inr (.inl f_this_state))), ((a_this 14), .inl (cL, 25, .inr (.inl f_this_other))), ((a_this 15), .inl (cL, 5, .inr (.inl f_this_column))), ((a_this 16), .inl (cL, 80, .inr (.inl f_this_words))), ((a_this 17), .inl (cB, 128, .inl f_this_block)), ((a_this 27), .inl (cB, 256, .inl f_this_noise)), (h_a1, .inl (cI, n_a1, .inl f_a1)), (h_a3, .inl (cB, n_a3, .inl f_a3))]
def krX5_binomial : Room := { frames := 5, cells := 0, slots := 0, locals := 131 }
set_option maxHeartbeats 4000000 in
set_option maxRecDepth 100000 in
theorem klX5_binomial_51 {p : Program} {l : Launch} {e : Env} {s : State} {m : MethodId} {args : Array Value} {below : List Frame} {meth : Method} {c : Code} {cells slots : Nat} {Q : State → Prop} {D : va_G} {cB cI cL cBB cII cSh : ClassId} {A : Nat → Prop} (C0 : CallFix p m c prog_8_method_48_code 9 s args kwA kRX5) (hlocks : meth.locks = false) (hK : va_K D kCl (kb_T cB cI cL cBB cII cSh) s) (hN : kb_N s) (hA : ∀ q, s.heap.size ≤ q → A q) (hcR : cells ≤ krX5_binomial.cells) (hsR : slots ≤ krX5_binomial.slots) (h_this h_a1 h_a3 : Nat) (a_this : Nat → Nat) (p2 : Int32) (x6p37 : Int32) (n_a1 : Nat) (n_a3 : Nat) (this_taped : Int32) (this_code : Int32) (w_2 : Int32) (w_3 : Int32) (w_23 : Int32) (w_24 : Int64) (this_bitAt : Int32) (this_k : Int32) (this_e1 : Int32) (this_du : Int32) (this_dv : Int32) (f_this_roots : Nat → Int64) (f_this_cubes : Nat → Int64) (f_this_start224 : Nat → Int64) (f_this_start256 : Nat → Int64) (f_this_turns : Nat → Int32) (f_this_round : Nat → Int64) (f_25 : Nat → Int64) (f_26 : Nat → Int64) (f_27 : Nat → Int64) (f_28 : Nat → Int64) (f_29 : Nat → Int32) (f_30 : Nat → Int32) (f_a1p37 : Nat → Int32) (f_a3 : Nat → Int32) :
    ∀ (fuel : Nat) (x7p51 : Int32) (x8p51 : Int32) (r : Int32 × Int32), kb_w (fun u : Int32 × Int32 => kSX5_binomial_51 p2 x6p37 f_30 u.1 u.2) fuel (x7p51, x8p51) = some r → ∀ (H : Heap) (locs : List Loc) (ls : Array Slot), va_P D kCl (kWX5_binomial cB cI cL cBB cII cSh h_this a_this h_a1 n_a1 h_a3 n_a3 this_taped this_code w_2 w_3 w_23 w_24 this_bitAt this_k this_e1 this_du this_dv f_this_roots f_this_cubes f_this_start224 f_this_start256 f_this_turns f_this_round f_25 f_26 f_27 f_28 f_29 f_30 f_a1p37 f_a3) H → va_D A (kWX5_binomial cB cI cL cBB cII cSh h_this a_this h_a1 n_a1 h_a3 n_a3 this_taped this_code w_2 w_3 w_23 w_24 this_bitAt this_k this_e1 this_du this_dv f_this_roots f_this_cubes f_this_start224 f_this_start256 f_this_turns f_this_round f_25 f_26 f_27 f_28 f_29 f_30 f_a1p37 f_a3) → va_S A s.heap H locs → lv_has ls 9 [(0, .ref h_this), (1, .ref h_a1), (2, .int p2), (6, .int x6p37), (7, .int x7p51), (8, .int x8p51)] → (∀ (x7p51' : Int32) (x8p51' : Int32), r = (x7p51', x8p51') → ∀ (H : Heap) (locs : List Loc) (ls : Array Slot), va_P D kCl (kWX5_binomial cB cI cL cBB cII cSh h_this a_this h_a1 n_a1 h_a3 n_a3 this_taped this_code w_2 w_3 w_23 w_24 this_bitAt this_k this_e1 this_du this_dv f_this_roots f_this_cubes f_this_start224 f_this_start256 f_this_turns f_this_round f_25 f_26 f_27 f_28 f_29 f_30 f_a1p37 f_a3) H → va_D A (kWX5_binomial cB cI cL cBB cII cSh h_this a_this h_a1 n_a1 h_a3 n_a3 this_taped this_code w_2 w_3 w_23 w_24 this_bitAt this_k this_e1 this_du this_dv f_this_roots f_this_cubes f_this_start224 f_this_start256 f_this_turns f_this_round f_25 f_26 f_27 f_28 f_29 f_30 f_a1p37 f_a3) → va_S A s.heap H locs → lv_has ls 9 [(0, .ref h_this), (1, .ref h_a1), (2, .int p2), (6, .int x6p37), (7, .int x7p51'), (8, .int x8p51')] → W p l e krX5_binomial s m args below meth c H locs cells slots Q (F0 m 105 ls [])) → W p l e krX5_binomial s m args below meth c H locs cells slots Q (F0 m 51 ls []) := by
  obtain ⟨hx, hb, hml, hown, hts⟩ := id C0
  intro fuel
  induction fuel with
  | zero =>
    intro x7p51 x8p51 r h
    exact absurd h (kb_w_z _ _ _)
  | succ fuel ih =>
    intro x7p51 x8p51 r h H locs ls hP hD hS hl hk0
    obtain ⟨o, h, ho⟩ := kb_w_s h
    have h : kSX5_binomial_51 p2 x6p37 f_30 x7p51 x8p51 = some o := h
    unfold kSX5_binomial_51 at h
    refine lv_iload hx hb kdX5_binomial_51 (lv_at hl 5 rfl) ?_
    refine lv_iload_n hx hb kdX5_binomial_53 rfl (lv_at hl 2 rfl) ?_
    refine lv_icmp_ge (tgt := 105) hx hb kdX5_binomial_54 (by decide) (fun c_33 => ?_) (fun c_33 => ?_)
    · have h := kb_b_t c_33 h
      obtain rfl := Option.some.inj h
      exact hk0 x7p51 x8p51 ho.symm _ _ _ hP hD hS (lv_sub hl [0, 1, 2, 3, 4, 5] rfl)
    · have h := kb_b_f c_33 h
      refine lv_iload hx hb kdX5_binomial_57 (lv_at hl 4 rfl) ?_
      refine lv_aload_n hx hb kdX5_binomial_59 rfl (lv_at hl 0 rfl) ?_
      refine va_get (ci := 5) (v := .ref (a_this 27)) (C := kRX5) (T := kTX5) (N := 35) hx hb hts kinX5 hown hK hP 0 rfl rfl 27 (by decide) (hts _ km_708) (fun _ h9 => h9) rfl kdX5_binomial_60 ?_
      refine lv_iconst (v := 0) hx hb kdX5_binomial_63 (by decide) ?_
      refine lv_iconst (v := 2) hx hb kdX5_binomial_64 (by decide) ?_
      refine lv_iload hx hb kdX5_binomial_65 (lv_at hl 3 rfl) ?_
      refine lv_imul hx hb kdX5_binomial_67 ?_
      refine lv_iload_n hx hb kdX5_binomial_68 rfl (lv_at hl 2 rfl) ?_
      refine lv_imul hx hb kdX5_binomial_69 ?_
      refine lv_iload hx hb kdX5_binomial_70 (lv_at hl 5 rfl) ?_
      refine lv_iadd hx hb kdX5_binomial_72 ?_
      obtain ⟨u_35, hu_35, h⟩ := kb_o_s h
      obtain ⟨r_34, rfl⟩ : ∃ z, z = u_35 := ⟨_, rfl⟩
      try dsimp only at h
      have hC := (show ([12] : List Nat).map (fun i : Nat => (kWX5_binomial cB cI cL cBB cII cSh h_this a_this h_a1 n_a1 h_a3 n_a3 this_taped this_code w_2 w_3 w_23 w_24 this_bitAt this_k this_e1 this_du this_dv f_this_roots f_this_cubes f_this_start224 f_this_start256 f_this_turns f_this_round f_25 f_26 f_27 f_28 f_29 f_30 f_a1p37 f_a3)[i]?) = List.map some (kWX5_bitOf cB cI cL cBB cII cSh (a_this 27) 256 f_30) from rfl)
      have hPc := kb_Psub hP ([12] : List Nat) hC
      have hDc := kb_Dsub hD ([12] : List Nat) hC (by simp [kb_nd])
      refine kb_call0 (va_runS (As := [.ref (a_this 27), .int (0 : Int32), .int ((((2 : Int32) * x6p37) * p2) + x8p51)]) (rest := [.int x7p51]) C0 (kcX5_bitOf l D cB cI cL cBB cII cSh (a_this 27) _ (0 : Int32) ((((2 : Int32) * x6p37) * p2) + x8p51) 256 f_30 r_34 hu_35) (va_cwS 3 hts (kb_gS km_858 km_859 km_6 km_860) rfl rfl rfl (by decide +kernel) ⟨Nat.le_of_ble_eq_true rfl, Nat.le_of_ble_eq_true rfl⟩) ⟨kb_P_bl, (fun U hU hW => ⟨rfl, by rw [hU], by rw [hU]; exact hPc, va_K.moved hW.alike hK, kb_N_to hW hN, hDc.weaken (fun _ _ _ _ => trivial)⟩)⟩ rfl rfl hl.1 rfl (lv_room (Nat.le_of_ble_eq_true rfl)) kdX5_binomial_73 ⟨hcR, hsR⟩) hP hD hS hA ([12] : List Nat) hC rfl (fun H locs hP hD hS => ?_)
      have hP : va_P D kCl (kWX5_binomial cB cI cL cBB cII cSh h_this a_this h_a1 n_a1 h_a3 n_a3 this_taped this_code w_2 w_3 w_23 w_24 this_bitAt this_k this_e1 this_du this_dv f_this_roots f_this_cubes f_this_start224 f_this_start256 f_this_turns f_this_round f_25 f_26 f_27 f_28 f_29 f_30 f_a1p37 f_a3) H := hP
      have hD : va_D A (kWX5_binomial cB cI cL cBB cII cSh h_this a_this h_a1 n_a1 h_a3 n_a3 this_taped this_code w_2 w_3 w_23 w_24 this_bitAt this_k this_e1 this_du this_dv f_this_roots f_this_cubes f_this_start224 f_this_start256 f_this_turns f_this_round f_25 f_26 f_27 f_28 f_29 f_30 f_a1p37 f_a3) := hD
      refine lv_aload_n hx hb kdX5_binomial_76 rfl (lv_at hl 0 rfl) ?_
      refine va_get (ci := 5) (v := .ref (a_this 27)) (C := kRX5) (T := kTX5) (N := 35) hx hb hts kinX5 hown hK hP 0 rfl rfl 27 (by decide) (hts _ km_708) (fun _ h9 => h9) rfl kdX5_binomial_77 ?_
      refine lv_iconst (v := 0) hx hb kdX5_binomial_80 (by decide) ?_
      refine lv_iconst (v := 2) hx hb kdX5_binomial_81 (by decide) ?_
      refine lv_iload hx hb kdX5_binomial_82 (lv_at hl 3 rfl) ?_
      refine lv_imul hx hb kdX5_binomial_84 ?_
      refine lv_iload_n hx hb kdX5_binomial_85 rfl (lv_at hl 2 rfl) ?_
      refine lv_imul hx hb kdX5_binomial_86 ?_
      refine lv_iload_n hx hb kdX5_binomial_87 rfl (lv_at hl 2 rfl) ?_
      refine lv_iadd hx hb kdX5_binomial_88 ?_
      refine lv_iload hx hb kdX5_binomial_89 (lv_at hl 5 rfl) ?_
      refine lv_iadd hx hb kdX5_binomial_91 ?_
      obtain ⟨u_37, hu_37, h⟩ := kb_o_s h
      obtain ⟨r_36, rfl⟩ : ∃ z, z = u_37 := ⟨_, rfl⟩
      try dsimp only at h
      have hC := (show ([12] : List Nat).map (fun i : Nat => (kWX5_binomial cB cI cL cBB cII cSh h_this a_this h_a1 n_a1 h_a3 n_a3 this_taped this_code w_2 w_3 w_23 w_24 this_bitAt this_k this_e1 this_du this_dv f_this_roots f_this_cubes f_this_start224 f_this_start256 f_this_turns f_this_round f_25 f_26 f_27 f_28 f_29 f_30 f_a1p37 f_a3)[i]?) = List.map some (kWX5_bitOf cB cI cL cBB cII cSh (a_this 27) 256 f_30) from rfl)
      have hPc := kb_Psub hP ([12] : List Nat) hC
      have hDc := kb_Dsub hD ([12] : List Nat) hC (by simp [kb_nd])
      refine kb_call0 (va_runS (As := [.ref (a_this 27), .int (0 : Int32), .int (((((2 : Int32) * x6p37) * p2) + p2) + x8p51)]) (rest := [.int r_34, .int x7p51]) C0 (kcX5_bitOf l D cB cI cL cBB cII cSh (a_this 27) _ (0 : Int32) (((((2 : Int32) * x6p37) * p2) + p2) + x8p51) 256 f_30 r_36 hu_37) (va_cwS 3 hts (kb_gS km_858 km_859 km_6 km_860) rfl rfl rfl (by decide +kernel) ⟨Nat.le_of_ble_eq_true rfl, Nat.le_of_ble_eq_true rfl⟩) ⟨kb_P_bl, (fun U hU hW => ⟨rfl, by rw [hU], by rw [hU]; exact hPc, va_K.moved hW.alike hK, kb_N_to hW hN, hDc.weaken (fun _ _ _ _ => trivial)⟩)⟩ rfl rfl hl.1 rfl (lv_room (Nat.le_of_ble_eq_true rfl)) kdX5_binomial_92 ⟨hcR, hsR⟩) hP hD hS hA ([12] : List Nat) hC rfl (fun H locs hP hD hS => ?_)
      have hP : va_P D kCl (kWX5_binomial cB cI cL cBB cII cSh h_this a_this h_a1 n_a1 h_a3 n_a3 this_taped this_code w_2 w_3 w_23 w_24 this_bitAt this_k this_e1 this_du this_dv f_this_roots f_this_cubes f_this_start224 f_this_start256 f_this_turns f_this_round f_25 f_26 f_27 f_28 f_29 f_30 f_a1p37 f_a3) H := hP
      have hD : va_D A (kWX5_binomial cB cI cL cBB cII cSh h_this a_this h_a1 n_a1 h_a3 n_a3 this_taped this_code w_2 w_3 w_23 w_24 this_bitAt this_k this_e1 this_du this_dv f_this_roots f_this_cubes f_this_start224 f_this_start256 f_this_turns f_this_round f_25 f_26 f_27 f_28 f_29 f_30 f_a1p37 f_a3) := hD
      refine lv_isub hx hb kdX5_binomial_95 ?_
      refine lv_iadd hx hb kdX5_binomial_96 ?_
      refine lv_topi (fun x7_38 ex7_38 => ?_)
      have h := kb_n_s ex7_38 h
      refine lv_istore (lv' := [(7, .int x7_38), (0, .ref h_this), (1, .ref h_a1), (2, .int p2), (6, .int x6p37), (8, .int x8p51)]) hx hb kdX5_binomial_97 hl (by decide) rfl (fun ls hl => ?_)
      obtain ⟨x8_39, ex8_39⟩ : ∃ y : Int32, y = x8p51 + Int32.ofInt 1 := ⟨_, rfl⟩
      have h := kb_n_s ex8_39 h
      refine lv_iinc (v := x8_39) (lv' := [(8, .int x8_39), (7, .int x7_38), (0, .ref h_this), (1, .ref h_a1), (2, .int p2), (6, .int x6p37)]) hx hb kdX5_binomial_99 hl (k := 5) rfl ex8_39.symm (by decide) rfl (fun ls hl => ?_)
      refine lv_goto (tgt := 51) hx hb kdX5_binomial_102 (by decide) ?_
      obtain rfl := Option.some.inj h
      exact ih x7_38 x8_39 r ho _ _ _ hP hD hS (lv_sub hl [2, 3, 4, 5, 1, 0] rfl) hk0
set_option maxHeartbeats 4000000 in
set_option maxRecDepth 100000 in
theorem klX5_binomial_37 {p : Program} {l : Launch} {e : Env} {s : State} {m : MethodId} {args : Array Value} {below : List Frame} {meth : Method} {c : Code} {cells slots : Nat} {Q : State → Prop} {D : va_G} {cB cI cL cBB cII cSh : ClassId} {A : Nat → Prop} (C0 : CallFix p m c prog_8_method_48_code 9 s args kwA kRX5) (hlocks : meth.locks = false) (hK : va_K D kCl (kb_T cB cI cL cBB cII cSh) s) (hN : kb_N s) (hA : ∀ q, s.heap.size ≤ q → A q) (hcR : cells ≤ krX5_binomial.cells) (hsR : slots ≤ krX5_binomial.slots) (h_this h_a1 h_a3 : Nat) (a_this : Nat → Nat) (p2 : Int32) (n_a1 : Nat) (n_a3 : Nat) (this_taped : Int32) (this_code : Int32) (w_2 : Int32) (w_3 : Int32) (w_23 : Int32) (w_24 : Int64) (this_bitAt : Int32) (this_k : Int32) (this_e1 : Int32) (this_du : Int32) (this_dv : Int32) (f_this_roots : Nat → Int64) (f_this_cubes : Nat → Int64) (f_this_start224 : Nat → Int64) (f_this_start256 : Nat → Int64) (f_this_turns : Nat → Int32) (f_this_round : Nat → Int64) (f_25 : Nat → Int64) (f_26 : Nat → Int64) (f_27 : Nat → Int64) (f_28 : Nat → Int64) (f_29 : Nat → Int32) (f_30 : Nat → Int32) (f_a3 : Nat → Int32) :
    ∀ (fuel : Nat) (x6p37 : Int32) (f_a1p37 : Nat → Int32) (r : Int32 × (Nat → Int32)), kb_w (fun u : Int32 × (Nat → Int32) => kSX5_binomial_37 p2 n_a1 f_30 u.1 u.2) fuel (x6p37, f_a1p37) = some r → ∀ (H : Heap) (locs : List Loc) (ls : Array Slot), va_P D kCl (kWX5_binomial cB cI cL cBB cII cSh h_this a_this h_a1 n_a1 h_a3 n_a3 this_taped this_code w_2 w_3 w_23 w_24 this_bitAt this_k this_e1 this_du this_dv f_this_roots f_this_cubes f_this_start224 f_this_start256 f_this_turns f_this_round f_25 f_26 f_27 f_28 f_29 f_30 f_a1p37 f_a3) H → va_D A (kWX5_binomial cB cI cL cBB cII cSh h_this a_this h_a1 n_a1 h_a3 n_a3 this_taped this_code w_2 w_3 w_23 w_24 this_bitAt this_k this_e1 this_du this_dv f_this_roots f_this_cubes f_this_start224 f_this_start256 f_this_turns f_this_round f_25 f_26 f_27 f_28 f_29 f_30 f_a1p37 f_a3) → va_S A s.heap H locs → lv_has ls 9 [(0, .ref h_this), (1, .ref h_a1), (2, .int p2), (6, .int x6p37)] → (∀ (x6p37' : Int32) (f_a1p37' : Nat → Int32), r = (x6p37', f_a1p37') → ∀ (H : Heap) (locs : List Loc) (ls : Array Slot), va_P D kCl (kWX5_binomial cB cI cL cBB cII cSh h_this a_this h_a1 n_a1 h_a3 n_a3 this_taped this_code w_2 w_3 w_23 w_24 this_bitAt this_k this_e1 this_du this_dv f_this_roots f_this_cubes f_this_start224 f_this_start256 f_this_turns f_this_round f_25 f_26 f_27 f_28 f_29 f_30 f_a1p37' f_a3) H → va_D A (kWX5_binomial cB cI cL cBB cII cSh h_this a_this h_a1 n_a1 h_a3 n_a3 this_taped this_code w_2 w_3 w_23 w_24 this_bitAt this_k this_e1 this_du this_dv f_this_roots f_this_cubes f_this_start224 f_this_start256 f_this_turns f_this_round f_25 f_26 f_27 f_28 f_29 f_30 f_a1p37' f_a3) → va_S A s.heap H locs → lv_has ls 9 [(0, .ref h_this), (1, .ref h_a1), (2, .int p2), (6, .int x6p37')] → W p l e krX5_binomial s m args below meth c H locs cells slots Q (F0 m 125 ls [])) → W p l e krX5_binomial s m args below meth c H locs cells slots Q (F0 m 37 ls []) := by
  obtain ⟨hx, hb, hml, hown, hts⟩ := id C0
  intro fuel
  induction fuel with
  | zero =>
    intro x6p37 f_a1p37 r h
    exact absurd h (kb_w_z _ _ _)
  | succ fuel ih =>
    intro x6p37 f_a1p37 r h H locs ls hP hD hS hl hk0
    obtain ⟨o, h, ho⟩ := kb_w_s h
    have h : kSX5_binomial_37 p2 n_a1 f_30 x6p37 f_a1p37 = some o := h
    unfold kSX5_binomial_37 at h
    refine lv_iload hx hb kdX5_binomial_37 (lv_at hl 3 rfl) ?_
    refine lv_sipush (v := 256) hx hb kdX5_binomial_39 (by decide) ?_
    refine lv_icmp_ge (tgt := 125) hx hb kdX5_binomial_42 (by decide) (fun c_32 => ?_) (fun c_32 => ?_)
    · have h := kb_b_t c_32 h
      obtain rfl := Option.some.inj h
      exact hk0 x6p37 f_a1p37 ho.symm _ _ _ hP hD hS (lv_sub hl [0, 1, 2, 3] rfl)
    · have h := kb_b_f c_32 h
      refine lv_iconst (v := 0) hx hb kdX5_binomial_45 (by decide) ?_
      refine lv_istore (lv' := [(7, .int (0 : Int32)), (0, .ref h_this), (1, .ref h_a1), (2, .int p2), (6, .int x6p37)]) hx hb kdX5_binomial_46 hl (by decide) rfl (fun ls hl => ?_)
      refine lv_iconst (v := 0) hx hb kdX5_binomial_48 (by decide) ?_
      refine lv_istore (lv' := [(8, .int (0 : Int32)), (7, .int (0 : Int32)), (0, .ref h_this), (1, .ref h_a1), (2, .int p2), (6, .int x6p37)]) hx hb kdX5_binomial_49 hl (by decide) rfl (fun ls hl => ?_)
      obtain ⟨r_46, hr_46, h⟩ := kb_o_s h
      refine klX5_binomial_51 C0 hlocks hK hN hA hcR hsR h_this h_a1 h_a3 a_this p2 x6p37 n_a1 n_a3 this_taped this_code w_2 w_3 w_23 w_24 this_bitAt this_k this_e1 this_du this_dv f_this_roots f_this_cubes f_this_start224 f_this_start256 f_this_turns f_this_round f_25 f_26 f_27 f_28 f_29 f_30 f_a1p37 f_a3 100000 (0 : Int32) (0 : Int32) r_46 hr_46 _ _ _ hP hD hS (lv_sub hl [2, 3, 4, 5, 1, 0] rfl) (fun x7p51_40 x8p51_41 er_46 H locs ls hP hD hS hl => ?_)
      subst er_46
      try dsimp only at h
      refine lv_aload_n hx hb kdX5_binomial_105 rfl (lv_at hl 1 rfl) ?_
      refine lv_iload hx hb kdX5_binomial_106 (lv_at hl 3 rfl) ?_
      refine lv_iload hx hb kdX5_binomial_108 (lv_at hl 4 rfl) ?_
      refine lv_sipush (v := 3329) hx hb kdX5_binomial_110 (by decide) ?_
      refine lv_iadd hx hb kdX5_binomial_113 ?_
      refine lv_sipush (v := 3329) hx hb kdX5_binomial_114 (by decide) ?_
      refine lv_irem hx hb kdX5_binomial_117 (by decide) ?_
      refine lv_topi (fun q_42 eq_42 => ?_)
      have h := kb_n_s eq_42 h
      obtain ⟨g_43, h⟩ := kb_g_s h
      refine va_iast hx hb hK hP hD hS 13 1 rfl rfl (kb_in_v g_43) kdX5_binomial_118 (fun H locs hP hD hS => ?_)
      obtain ⟨f_44, ef_44⟩ : ∃ y, y = upd f_a1p37 x6p37.toNatClampNeg q_42 := ⟨_, rfl⟩
      have h := kb_n_s ef_44 h
      have hP : va_P D kCl (kWX5_binomial cB cI cL cBB cII cSh h_this a_this h_a1 n_a1 h_a3 n_a3 this_taped this_code w_2 w_3 w_23 w_24 this_bitAt this_k this_e1 this_du this_dv f_this_roots f_this_cubes f_this_start224 f_this_start256 f_this_turns f_this_round f_25 f_26 f_27 f_28 f_29 f_30 f_44 f_a3) H := by rw [ef_44]; exact hP
      have hD : va_D A (kWX5_binomial cB cI cL cBB cII cSh h_this a_this h_a1 n_a1 h_a3 n_a3 this_taped this_code w_2 w_3 w_23 w_24 this_bitAt this_k this_e1 this_du this_dv f_this_roots f_this_cubes f_this_start224 f_this_start256 f_this_turns f_this_round f_25 f_26 f_27 f_28 f_29 f_30 f_44 f_a3) := by rw [ef_44]; exact hD
      obtain ⟨x6_45, ex6_45⟩ : ∃ y : Int32, y = x6p37 + Int32.ofInt 1 := ⟨_, rfl⟩
      have h := kb_n_s ex6_45 h
      refine lv_iinc (v := x6_45) (lv' := [(6, .int x6_45), (0, .ref h_this), (1, .ref h_a1), (2, .int p2), (7, .int x7p51_40), (8, .int x8p51_41)]) hx hb kdX5_binomial_119 hl (k := 3) rfl ex6_45.symm (by decide) rfl (fun ls hl => ?_)
      refine lv_goto (tgt := 37) hx hb kdX5_binomial_122 (by decide) ?_
      obtain rfl := Option.some.inj h
      exact ih x6_45 f_44 r ho _ _ _ hP hD hS (lv_sub hl [1, 2, 3, 0] rfl) hk0
set_option maxHeartbeats 4000000 in
set_option maxRecDepth 100000 in
theorem kcX5_binomial (l : Launch) (D : va_G) (cB cI cL cBB cII cSh : ClassId) (h_this h_a1 h_a3 : Nat) (a_this : Nat → Nat) (sz : Nat) (p2 : Int32) (p4 : Int32) (p5 : Int32) (n_a1 : Nat) (n_a3 : Nat) (this_taped : Int32) (this_code : Int32) (this_kind : Int32) (this_rate : Int32) (this_filled : Int32) (this_total : Int64) (this_bitAt : Int32) (this_k : Int32) (this_e1 : Int32) (this_du : Int32) (this_dv : Int32) (f_this_roots : Nat → Int64) (f_this_cubes : Nat → Int64) (f_this_start224 : Nat → Int64) (f_this_start256 : Nat → Int64) (f_this_turns : Nat → Int32) (f_this_round : Nat → Int64) (f_this_state : Nat → Int64) (f_this_other : Nat → Int64) (f_this_column : Nat → Int64) (f_this_words : Nat → Int64) (f_this_block : Nat → Int32) (f_this_noise : Nat → Int32) (f_a1 : Nat → Int32) (f_a3 : Nat → Int32) (out : Int32 × Int32 × Int32 × Int64 × (Nat → Int64) × (Nat → Int64) × (Nat → Int64) × (Nat → Int64) × (Nat → Int32) × (Nat → Int32) × (Nat → Int32)) (h : kFX5_binomial p2 p4 p5 n_a1 n_a3 f_this_roots f_this_cubes f_this_start224 f_this_start256 f_this_turns f_this_round f_this_state f_this_other f_this_column f_this_words f_this_block f_this_noise f_a1 f_a3 = some out) : Met l kyX5_binomial kwX5_binomial krX5_binomial (kb_P D kCl (kb_T cB cI cL cBB cII cSh) [.ref h_this, .ref h_a1, .int p2, .ref h_a3, .int p4, .int p5] (kWX5_binomial cB cI cL cBB cII cSh h_this a_this h_a1 n_a1 h_a3 n_a3 this_taped this_code this_kind this_rate this_filled this_total this_bitAt this_k this_e1 this_du this_dv f_this_roots f_this_cubes f_this_start224 f_this_start256 f_this_turns f_this_round f_this_state f_this_other f_this_column f_this_words f_this_block f_this_noise f_a1 f_a3) sz) (kb_Q D kCl (kb_T cB cI cL cBB cII cSh) (va_A (kWX5_binomial cB cI cL cBB cII cSh h_this a_this h_a1 n_a1 h_a3 n_a3 this_taped this_code this_kind this_rate this_filled this_total this_bitAt this_k this_e1 this_du this_dv f_this_roots f_this_cubes f_this_start224 f_this_start256 f_this_turns f_this_round f_this_state f_this_other f_this_column f_this_words f_this_block f_this_noise f_a1 f_a3) sz) none (kWX5_binomial cB cI cL cBB cII cSh h_this a_this h_a1 n_a1 h_a3 n_a3 this_taped this_code out.2.1 out.2.2.1 out.1 out.2.2.2.1 this_bitAt this_k this_e1 this_du this_dv f_this_roots f_this_cubes f_this_start224 f_this_start256 f_this_turns f_this_round out.2.2.2.2.1 out.2.2.2.2.2.1 out.2.2.2.2.2.2.1 out.2.2.2.2.2.2.2.1 out.2.2.2.2.2.2.2.2.1 out.2.2.2.2.2.2.2.2.2.1 out.2.2.2.2.2.2.2.2.2.2 f_a3)) 0 0 (va_A (kWX5_binomial cB cI cL cBB cII cSh h_this a_this h_a1 n_a1 h_a3 n_a3 this_taped this_code this_kind this_rate this_filled this_total this_bitAt this_k this_e1 this_du this_dv f_this_roots f_this_cubes f_this_start224 f_this_start256 f_this_turns f_this_round f_this_state f_this_other f_this_column f_this_words f_this_block f_this_noise f_a1 f_a3) sz) := by
  refine Met.ofW (cc := prog_8_method_48_code) (maxL := 9) (ret := none) (by decide) rfl ?_
  intro p e s m args below meth c s₁ B hml hv
  obtain ⟨rfl, hsz, hP, hK, hN, hD0⟩ := hv
  have hx := B.exec
  have hb := B.bytes
  have hr := B.returns
  have hts0 := atoms_spec (ws := kwX5_binomial) B.pre
  have hts : ∀ w ∈ kwA, w.before _ s = true := fun w h => hts0 w (List.mem_cons_of_mem _ h)
  have hown : s.vm.findClass kRX5 = some m.cls := findClass_of_methodNamed B.named
  have hlocks := B.notSynchronized
  subst hsz
  have hD := hD0.self (sz := s.heap.size)
  generalize hAe : va_A (kWX5_binomial cB cI cL cBB cII cSh h_this a_this h_a1 n_a1 h_a3 n_a3 this_taped this_code this_kind this_rate this_filled this_total this_bitAt this_k this_e1 this_du this_dv f_this_roots f_this_cubes f_this_start224 f_this_start256 f_this_turns f_this_round f_this_state f_this_other f_this_column f_this_words f_this_block f_this_noise f_a1 f_a3) s.heap.size = A at hD ⊢
  have hA : ∀ q : Nat, s.heap.size ≤ q → A q := fun q h => by rw [← hAe]; exact Or.inr h
  have hS : va_S A s.heap s.heap [] := va_S.rf
  have C0 : CallFix p m c prog_8_method_48_code 9 s _ kwA kRX5 := ⟨hx, hb, hml, hown, hts⟩
  have hl := lv_entry ([.ref h_this, .ref h_a1, .int p2, .ref h_a3, .int p4, .int p5]) (n := 9) (Nat.le_of_ble_eq_true rfl)
  rw [lg_entry_eq]
  generalize (lg_sl ([.ref h_this, .ref h_a1, .int p2, .ref h_a3, .int p4, .int p5]) ++ List.replicate (9 - (lg_sl ([.ref h_this, .ref h_a1, .int p2, .ref h_a3, .int p4, .int p5])).length) Slot.unset).toArray = ls at hl ⊢
  have hl : lv_has ls 9 [(0, .ref h_this), (1, .ref h_a1), (2, .int p2), (3, .ref h_a3), (4, .int p4), (5, .int p5)] := hl
  unfold kFX5_binomial at h
  refine lv_aload_n hx hb kdX5_binomial_0 rfl (lv_at hl 0 rfl) ?_
  refine lv_bipush (v := 12) hx hb kdX5_binomial_1 (by decide) ?_
  obtain ⟨u_6, hu_6, h⟩ := kb_o_s h
  obtain ⟨w_1, w_2, w_3, w_4, f_5⟩ := u_6
  try dsimp only at h
  have hC := (show ([0, 1, 3, 4, 7] : List Nat).map (fun i : Nat => (kWX5_binomial cB cI cL cBB cII cSh h_this a_this h_a1 n_a1 h_a3 n_a3 this_taped this_code this_kind this_rate this_filled this_total this_bitAt this_k this_e1 this_du this_dv f_this_roots f_this_cubes f_this_start224 f_this_start256 f_this_turns f_this_round f_this_state f_this_other f_this_column f_this_words f_this_block f_this_noise f_a1 f_a3)[i]?) = List.map some (kWX5_begin cB cI cL cBB cII cSh h_this a_this this_taped this_code this_kind this_rate this_filled this_total this_bitAt this_k this_e1 this_du this_dv f_this_roots f_this_start224 f_this_start256 f_this_state) from rfl)
  have hPc := kb_Psub hP ([0, 1, 3, 4, 7] : List Nat) hC
  have hDc := kb_Dsub hD ([0, 1, 3, 4, 7] : List Nat) hC (by simp [kb_nd])
  refine kb_call0 (va_runV (As := [.int (12 : Int32)]) (rest := []) C0 (kcX5_begin l D cB cI cL cBB cII cSh h_this a_this _ (12 : Int32) this_taped this_code this_kind this_rate this_filled this_total this_bitAt this_k this_e1 this_du this_dv f_this_roots f_this_start224 f_this_start256 f_this_state (w_1, w_2, w_3, w_4, f_5) hu_6) (cwV 1 hts (kb_gV km_629 km_631 kp_4 km_6 km_632) rfl rfl rfl (by decide +kernel) ⟨Nat.le_of_ble_eq_true rfl, Nat.le_of_ble_eq_true rfl⟩) ⟨kb_P_bl, va_recv hK hP (ci := 5) (q0 := 0) rfl rfl, (fun U hU hW => ⟨rfl, by rw [hU], by rw [hU]; exact hPc, va_K.moved hW.alike hK, kb_N_to hW hN, hDc.weaken (fun _ _ _ _ => trivial)⟩)⟩ rfl rfl hl.1 rfl (lv_room (Nat.le_of_ble_eq_true rfl)) kdX5_binomial_3 ⟨Nat.le_of_ble_eq_true rfl, Nat.le_of_ble_eq_true rfl⟩) hP hD hS hA ([0, 1, 3, 4, 7] : List Nat) hC rfl (fun H locs hP hD hS => ?_)
  have hP : va_P D kCl (kWX5_binomial cB cI cL cBB cII cSh h_this a_this h_a1 n_a1 h_a3 n_a3 this_taped this_code w_2 w_3 w_1 w_4 this_bitAt this_k this_e1 this_du this_dv f_this_roots f_this_cubes f_this_start224 f_this_start256 f_this_turns f_this_round f_5 f_this_other f_this_column f_this_words f_this_block f_this_noise f_a1 f_a3) H := hP
  have hD : va_D A (kWX5_binomial cB cI cL cBB cII cSh h_this a_this h_a1 n_a1 h_a3 n_a3 this_taped this_code w_2 w_3 w_1 w_4 this_bitAt this_k this_e1 this_du this_dv f_this_roots f_this_cubes f_this_start224 f_this_start256 f_this_turns f_this_round f_5 f_this_other f_this_column f_this_words f_this_block f_this_noise f_a1 f_a3) := hD
  refine lv_aload_n hx hb kdX5_binomial_6 rfl (lv_at hl 0 rfl) ?_
  refine lv_aload_n hx hb kdX5_binomial_7 rfl (lv_at hl 3 rfl) ?_
  refine lv_iload hx hb kdX5_binomial_8 (lv_at hl 4 rfl) ?_
  refine lv_bipush (v := 32) hx hb kdX5_binomial_10 (by decide) ?_
  obtain ⟨u_14, hu_14, h⟩ := kb_o_s h
  obtain ⟨w_7, w_8, f_9, f_10, f_11, f_12, f_13⟩ := u_14
  try dsimp only at h
  have hC := (show ([0, 2, 5, 6, 7, 8, 9, 10, 11, 14] : List Nat).map (fun i : Nat => (kWX5_binomial cB cI cL cBB cII cSh h_this a_this h_a1 n_a1 h_a3 n_a3 this_taped this_code w_2 w_3 w_1 w_4 this_bitAt this_k this_e1 this_du this_dv f_this_roots f_this_cubes f_this_start224 f_this_start256 f_this_turns f_this_round f_5 f_this_other f_this_column f_this_words f_this_block f_this_noise f_a1 f_a3)[i]?) = List.map some (kWX5_put2 cB cI cL cBB cII cSh h_this a_this h_a3 n_a3 this_taped this_code w_2 w_3 w_1 w_4 this_bitAt this_k this_e1 this_du this_dv f_this_cubes f_this_turns f_this_round f_5 f_this_other f_this_column f_this_words f_this_block f_a3) from rfl)
  have hPc := kb_Psub hP ([0, 2, 5, 6, 7, 8, 9, 10, 11, 14] : List Nat) hC
  have hDc := kb_Dsub hD ([0, 2, 5, 6, 7, 8, 9, 10, 11, 14] : List Nat) hC (by simp [kb_nd])
  refine kb_call0 (va_runV (As := [.ref h_a3, .int p4, .int (32 : Int32)]) (rest := []) C0 (kcX5_put2 l D cB cI cL cBB cII cSh h_this h_a3 a_this _ p4 (32 : Int32) n_a3 this_taped this_code w_2 w_3 w_1 w_4 this_bitAt this_k this_e1 this_du this_dv f_this_cubes f_this_turns f_this_round f_5 f_this_other f_this_column f_this_words f_this_block f_a3 (w_7, w_8, f_9, f_10, f_11, f_12, f_13) hu_14) (cwV 3 hts (kb_gV km_842 km_844 kp_25 km_6 km_845) rfl rfl rfl (by decide +kernel) ⟨Nat.le_of_ble_eq_true rfl, Nat.le_of_ble_eq_true rfl⟩) ⟨kb_P_bl, va_recv hK hP (ci := 5) (q0 := 0) rfl rfl, (fun U hU hW => ⟨rfl, by rw [hU], by rw [hU]; exact hPc, va_K.moved hW.alike hK, kb_N_to hW hN, hDc.weaken (fun _ _ _ _ => trivial)⟩)⟩ rfl rfl hl.1 rfl (lv_room (Nat.le_of_ble_eq_true rfl)) kdX5_binomial_12 ⟨Nat.le_of_ble_eq_true rfl, Nat.le_of_ble_eq_true rfl⟩) hP hD hS hA ([0, 2, 5, 6, 7, 8, 9, 10, 11, 14] : List Nat) hC rfl (fun H locs hP hD hS => ?_)
  have hP : va_P D kCl (kWX5_binomial cB cI cL cBB cII cSh h_this a_this h_a1 n_a1 h_a3 n_a3 this_taped this_code w_2 w_3 w_7 w_8 this_bitAt this_k this_e1 this_du this_dv f_this_roots f_this_cubes f_this_start224 f_this_start256 f_this_turns f_this_round f_9 f_10 f_11 f_12 f_13 f_this_noise f_a1 f_a3) H := hP
  have hD : va_D A (kWX5_binomial cB cI cL cBB cII cSh h_this a_this h_a1 n_a1 h_a3 n_a3 this_taped this_code w_2 w_3 w_7 w_8 this_bitAt this_k this_e1 this_du this_dv f_this_roots f_this_cubes f_this_start224 f_this_start256 f_this_turns f_this_round f_9 f_10 f_11 f_12 f_13 f_this_noise f_a1 f_a3) := hD
  refine lv_aload_n hx hb kdX5_binomial_15 rfl (lv_at hl 0 rfl) ?_
  refine lv_iload hx hb kdX5_binomial_16 (lv_at hl 5 rfl) ?_
  obtain ⟨u_22, hu_22, h⟩ := kb_o_s h
  obtain ⟨w_15, w_16, f_17, f_18, f_19, f_20, f_21⟩ := u_22
  try dsimp only at h
  have hC := (show ([0, 2, 5, 6, 7, 8, 9, 10, 11] : List Nat).map (fun i : Nat => (kWX5_binomial cB cI cL cBB cII cSh h_this a_this h_a1 n_a1 h_a3 n_a3 this_taped this_code w_2 w_3 w_7 w_8 this_bitAt this_k this_e1 this_du this_dv f_this_roots f_this_cubes f_this_start224 f_this_start256 f_this_turns f_this_round f_9 f_10 f_11 f_12 f_13 f_this_noise f_a1 f_a3)[i]?) = List.map some (kWX5_put cB cI cL cBB cII cSh h_this a_this this_taped this_code w_2 w_3 w_7 w_8 this_bitAt this_k this_e1 this_du this_dv f_this_cubes f_this_turns f_this_round f_9 f_10 f_11 f_12 f_13) from rfl)
  have hPc := kb_Psub hP ([0, 2, 5, 6, 7, 8, 9, 10, 11] : List Nat) hC
  have hDc := kb_Dsub hD ([0, 2, 5, 6, 7, 8, 9, 10, 11] : List Nat) hC (by simp [kb_nd])
  refine kb_call0 (va_runV (As := [.int p5]) (rest := []) C0 (kcX5_put l D cB cI cL cBB cII cSh h_this a_this _ p5 this_taped this_code w_2 w_3 w_7 w_8 this_bitAt this_k this_e1 this_du this_dv f_this_cubes f_this_turns f_this_round f_9 f_10 f_11 f_12 f_13 (w_15, w_16, f_17, f_18, f_19, f_20, f_21) hu_22) (cwV 1 hts (kb_gV km_641 km_643 kp_22 km_6 km_644) rfl rfl rfl (by decide +kernel) ⟨Nat.le_of_ble_eq_true rfl, Nat.le_of_ble_eq_true rfl⟩) ⟨kb_P_bl, va_recv hK hP (ci := 5) (q0 := 0) rfl rfl, (fun U hU hW => ⟨rfl, by rw [hU], by rw [hU]; exact hPc, va_K.moved hW.alike hK, kb_N_to hW hN, hDc.weaken (fun _ _ _ _ => trivial)⟩)⟩ rfl rfl hl.1 rfl (lv_room (Nat.le_of_ble_eq_true rfl)) kdX5_binomial_18 ⟨Nat.le_of_ble_eq_true rfl, Nat.le_of_ble_eq_true rfl⟩) hP hD hS hA ([0, 2, 5, 6, 7, 8, 9, 10, 11] : List Nat) hC rfl (fun H locs hP hD hS => ?_)
  have hP : va_P D kCl (kWX5_binomial cB cI cL cBB cII cSh h_this a_this h_a1 n_a1 h_a3 n_a3 this_taped this_code w_2 w_3 w_15 w_16 this_bitAt this_k this_e1 this_du this_dv f_this_roots f_this_cubes f_this_start224 f_this_start256 f_this_turns f_this_round f_17 f_18 f_19 f_20 f_21 f_this_noise f_a1 f_a3) H := hP
  have hD : va_D A (kWX5_binomial cB cI cL cBB cII cSh h_this a_this h_a1 n_a1 h_a3 n_a3 this_taped this_code w_2 w_3 w_15 w_16 this_bitAt this_k this_e1 this_du this_dv f_this_roots f_this_cubes f_this_start224 f_this_start256 f_this_turns f_this_round f_17 f_18 f_19 f_20 f_21 f_this_noise f_a1 f_a3) := hD
  refine lv_aload_n hx hb kdX5_binomial_21 rfl (lv_at hl 0 rfl) ?_
  refine lv_aload_n hx hb kdX5_binomial_22 rfl (lv_at hl 0 rfl) ?_
  refine va_get (ci := 5) (v := .ref (a_this 27)) (C := kRX5) (T := kTX5) (N := 35) hx hb hts kinX5 hown hK hP 0 rfl rfl 27 (by decide) (hts _ km_708) (fun _ h9 => h9) rfl kdX5_binomial_23 ?_
  refine lv_iconst (v := 0) hx hb kdX5_binomial_26 (by decide) ?_
  refine lv_bipush (v := 64) hx hb kdX5_binomial_27 (by decide) ?_
  refine lv_iload_n hx hb kdX5_binomial_29 rfl (lv_at hl 2 rfl) ?_
  refine lv_imul hx hb kdX5_binomial_30 ?_
  obtain ⟨u_31, hu_31, h⟩ := kb_o_s h
  obtain ⟨w_23, w_24, f_25, f_26, f_27, f_28, f_29, f_30⟩ := u_31
  try dsimp only at h
  have hC := (show ([0, 2, 5, 6, 7, 8, 9, 10, 11, 12] : List Nat).map (fun i : Nat => (kWX5_binomial cB cI cL cBB cII cSh h_this a_this h_a1 n_a1 h_a3 n_a3 this_taped this_code w_2 w_3 w_15 w_16 this_bitAt this_k this_e1 this_du this_dv f_this_roots f_this_cubes f_this_start224 f_this_start256 f_this_turns f_this_round f_17 f_18 f_19 f_20 f_21 f_this_noise f_a1 f_a3)[i]?) = List.map some (kWX5_give cB cI cL cBB cII cSh h_this a_this (a_this 27) 256 this_taped this_code w_2 w_3 w_15 w_16 this_bitAt this_k this_e1 this_du this_dv f_this_cubes f_this_turns f_this_round f_17 f_18 f_19 f_20 f_21 f_this_noise) from rfl)
  have hPc := kb_Psub hP ([0, 2, 5, 6, 7, 8, 9, 10, 11, 12] : List Nat) hC
  have hDc := kb_Dsub hD ([0, 2, 5, 6, 7, 8, 9, 10, 11, 12] : List Nat) hC (by simp [kb_nd])
  refine kb_call0 (va_runV (As := [.ref (a_this 27), .int (0 : Int32), .int ((64 : Int32) * p2)]) (rest := []) C0 (kcX5_give l D cB cI cL cBB cII cSh h_this (a_this 27) a_this _ (0 : Int32) ((64 : Int32) * p2) 256 this_taped this_code w_2 w_3 w_15 w_16 this_bitAt this_k this_e1 this_du this_dv f_this_cubes f_this_turns f_this_round f_17 f_18 f_19 f_20 f_21 f_this_noise (w_23, w_24, f_25, f_26, f_27, f_28, f_29, f_30) hu_31) (cwV 3 hts (kb_gV km_846 km_848 kp_26 km_6 km_849) rfl rfl rfl (by decide +kernel) ⟨Nat.le_of_ble_eq_true rfl, Nat.le_of_ble_eq_true rfl⟩) ⟨kb_P_bl, va_recv hK hP (ci := 5) (q0 := 0) rfl rfl, (fun U hU hW => ⟨rfl, by rw [hU], by rw [hU]; exact hPc, va_K.moved hW.alike hK, kb_N_to hW hN, hDc.weaken (fun _ _ _ _ => trivial)⟩)⟩ rfl rfl hl.1 rfl (lv_room (Nat.le_of_ble_eq_true rfl)) kdX5_binomial_31 ⟨Nat.le_of_ble_eq_true rfl, Nat.le_of_ble_eq_true rfl⟩) hP hD hS hA ([0, 2, 5, 6, 7, 8, 9, 10, 11, 12] : List Nat) hC rfl (fun H locs hP hD hS => ?_)
  have hP : va_P D kCl (kWX5_binomial cB cI cL cBB cII cSh h_this a_this h_a1 n_a1 h_a3 n_a3 this_taped this_code w_2 w_3 w_23 w_24 this_bitAt this_k this_e1 this_du this_dv f_this_roots f_this_cubes f_this_start224 f_this_start256 f_this_turns f_this_round f_25 f_26 f_27 f_28 f_29 f_30 f_a1 f_a3) H := hP
  have hD : va_D A (kWX5_binomial cB cI cL cBB cII cSh h_this a_this h_a1 n_a1 h_a3 n_a3 this_taped this_code w_2 w_3 w_23 w_24 this_bitAt this_k this_e1 this_du this_dv f_this_roots f_this_cubes f_this_start224 f_this_start256 f_this_turns f_this_round f_25 f_26 f_27 f_28 f_29 f_30 f_a1 f_a3) := hD
  refine lv_iconst (v := 0) hx hb kdX5_binomial_34 (by decide) ?_
  refine lv_istore (lv' := [(6, .int (0 : Int32)), (0, .ref h_this), (1, .ref h_a1), (2, .int p2), (3, .ref h_a3), (4, .int p4), (5, .int p5)]) hx hb kdX5_binomial_35 hl (by decide) rfl (fun ls hl => ?_)
  obtain ⟨r_49, hr_49, h⟩ := kb_o_s h
  refine klX5_binomial_37 C0 hlocks hK hN hA (by decide) (by decide) h_this h_a1 h_a3 a_this p2 n_a1 n_a3 this_taped this_code w_2 w_3 w_23 w_24 this_bitAt this_k this_e1 this_du this_dv f_this_roots f_this_cubes f_this_start224 f_this_start256 f_this_turns f_this_round f_25 f_26 f_27 f_28 f_29 f_30 f_a3 100000 (0 : Int32) f_a1 r_49 hr_49 _ _ _ hP hD hS (lv_sub hl [1, 2, 3, 0] rfl) (fun x6p37_47 f_a1p37_48 er_49 H locs ls hP hD hS hl => ?_)
  subst er_49
  try dsimp only at h
  obtain rfl := Option.some.inj h
  exact W.vret hx hb hr (fun t ht hW => ⟨⟨rfl, by rw [ht]; exact hP, va_K.moved hW.alike hK, hD⟩, hS.F ht⟩) hS.2.2 kdX5_binomial_125
