-- 496.ModuleKem.Kem.recoverMessage.lean.txt
abbrev kWX1_recoverMessage (cB cI cL cBB cII cSh : ClassId) (h_this : Nat) (a_this : Nat → Nat) (a_this_ring : Nat → Nat) (r_this_vector : Nat → Nat) (h_a1 : Nat) (h_a2 : Nat) (n_a2 : Nat) (h_a3 : Nat) (n_a3 : Nat) (f_this_ring_powers : Nat → Int32) (f_this_sum : Nat → Int32) (f_this_term : Nat → Int32) (f_this_message : Nat → Int32) (a1_rank : Int32) (a1_keyNoise : Int32) (a1_vectorBits : Int32) (a1_scalarBits : Int32) (f_a2 : Nat → Int32) (f_a3 : Nat → Int32) (m_this_vector : Nat → Nat → Int32) : va_W := ([(h_this, koX1 a_this), ((a_this 1), koX2 a_this_ring), ((a_this_ring 0), .inl (cI, 128, .inl f_this_ring_powers)), ((a_this 3), .inl (cII, 4, .inr (.inr (.inr (.inr (kb_rf r_this_vector 4)))))), ((a_this 4), .inl (cI, 256, .inl f_this_sum)), ((a_this 5), .inl (cI, 256, .inl f_this_term)), ((a_this 10), .inl (cB, 32, .inl f_this_message)), (h_a1, koX3  a1_rank a1_keyNoise a1_vectorBits a1_scalarBits), (h_a2, .inl (cB, n_a2, .inl f_a2)), (h_a3, .inl (cB, n_a3, .inl f_a3))] ++ (kb_gw r_this_vector 4 (fun i => .inl (cI, 256, .inl (m_this_vector i))) ++ []))
def krX1_recoverMessage : Room := { frames := 2, cells := 0, slots := 0, locals := 51 }
set_option maxHeartbeats 4000000 in
set_option maxRecDepth 100000 in
theorem klX1_recoverMessage_10 {p : Program} {l : Launch} {e : Env} {s : State} {m : MethodId} {args : Array Value} {below : List Frame} {meth : Method} {c : Code} {cells slots : Nat} {Q : State → Prop} {D : va_G} {cB cI cL cBB cII cSh : ClassId} {A : Nat → Prop} (C0 : CallFix p m c prog_3_method_7_code 5 s args kwA kRX1) (hlocks : meth.locks = false) (hK : va_K D kCl (kb_T cB cI cL cBB cII cSh) s) (hN : kb_N s) (hA : ∀ q, s.heap.size ≤ q → A q) (hcR : cells ≤ krX1_recoverMessage.cells) (hsR : slots ≤ krX1_recoverMessage.slots) (h_this h_a1 h_a2 h_a3 : Nat) (a_this a_this_ring r_this_vector : Nat → Nat) (n_a2 : Nat) (n_a3 : Nat) (f_this_ring_powers : Nat → Int32) (f_this_message : Nat → Int32) (a1_rank : Int32) (a1_keyNoise : Int32) (a1_vectorBits : Int32) (a1_scalarBits : Int32) (f_a2 : Nat → Int32) (f_a3 : Nat → Int32) :
    ∀ (fuel : Nat) (x4p10 : Int32) (f_this_sump10 : Nat → Int32) (f_this_termp10 : Nat → Int32) (m_this_vectorp10 : Nat → Nat → Int32) (r : Int32 × (Nat → Int32) × (Nat → Int32) × (Nat → Nat → Int32)), kb_w (fun u : Int32 × (Nat → Int32) × (Nat → Int32) × (Nat → Nat → Int32) => kSX1_recoverMessage_10 n_a2 n_a3 f_this_ring_powers a1_rank a1_vectorBits f_a2 f_a3 u.1 u.2.1 u.2.2.1 u.2.2.2) fuel (x4p10, f_this_sump10, f_this_termp10, m_this_vectorp10) = some r → ∀ (H : Heap) (locs : List Loc) (ls : Array Slot), va_P D kCl (kWX1_recoverMessage cB cI cL cBB cII cSh h_this a_this a_this_ring r_this_vector h_a1 h_a2 n_a2 h_a3 n_a3 f_this_ring_powers f_this_sump10 f_this_termp10 f_this_message a1_rank a1_keyNoise a1_vectorBits a1_scalarBits f_a2 f_a3 m_this_vectorp10) H → va_D A (kWX1_recoverMessage cB cI cL cBB cII cSh h_this a_this a_this_ring r_this_vector h_a1 h_a2 n_a2 h_a3 n_a3 f_this_ring_powers f_this_sump10 f_this_termp10 f_this_message a1_rank a1_keyNoise a1_vectorBits a1_scalarBits f_a2 f_a3 m_this_vectorp10) → va_S A s.heap H locs → lv_has ls 5 [(0, .ref h_this), (1, .ref h_a1), (2, .ref h_a2), (3, .ref h_a3), (4, .int x4p10)] → (∀ (x4p10' : Int32) (f_this_sump10' : Nat → Int32) (f_this_termp10' : Nat → Int32) (m_this_vectorp10' : Nat → Nat → Int32), r = (x4p10', f_this_sump10', f_this_termp10', m_this_vectorp10') → ∀ (H : Heap) (locs : List Loc) (ls : Array Slot), va_P D kCl (kWX1_recoverMessage cB cI cL cBB cII cSh h_this a_this a_this_ring r_this_vector h_a1 h_a2 n_a2 h_a3 n_a3 f_this_ring_powers f_this_sump10' f_this_termp10' f_this_message a1_rank a1_keyNoise a1_vectorBits a1_scalarBits f_a2 f_a3 m_this_vectorp10') H → va_D A (kWX1_recoverMessage cB cI cL cBB cII cSh h_this a_this a_this_ring r_this_vector h_a1 h_a2 n_a2 h_a3 n_a3 f_this_ring_powers f_this_sump10' f_this_termp10' f_this_message a1_rank a1_keyNoise a1_vectorBits a1_scalarBits f_a2 f_a3 m_this_vectorp10') → va_S A s.heap H locs → lv_has ls 5 [(0, .ref h_this), (1, .ref h_a1), (2, .ref h_a2), (3, .ref h_a3), (4, .int x4p10')] → W p l e krX1_recoverMessage s m args below meth c H locs cells slots Q (F0 m 97 ls [])) → W p l e krX1_recoverMessage s m args below meth c H locs cells slots Q (F0 m 10 ls []) := by
  obtain ⟨hx, hb, hml, hown, hts⟩ := id C0
  intro fuel
  induction fuel with
  | zero =>
    intro x4p10 f_this_sump10 f_this_termp10 m_this_vectorp10 r h
    exact absurd h (kb_w_z _ _ _)
  | succ fuel ih =>
    intro x4p10 f_this_sump10 f_this_termp10 m_this_vectorp10 r h H locs ls hP hD hS hl hk0
    obtain ⟨o, h, ho⟩ := kb_w_s h
    have h : kSX1_recoverMessage_10 n_a2 n_a3 f_this_ring_powers a1_rank a1_vectorBits f_a2 f_a3 x4p10 f_this_sump10 f_this_termp10 m_this_vectorp10 = some o := h
    unfold kSX1_recoverMessage_10 at h
    refine lv_iload hx hb kdX1_recoverMessage_10 (lv_at hl 4 rfl) ?_
    refine lv_aload_n hx hb kdX1_recoverMessage_12 rfl (lv_at hl 1 rfl) ?_
    refine va_get (ci := 3) (v := .int a1_rank) (C := kRX3) (T := kTX3) (N := 4) hx hb hts kinX3 hown hK hP 7 rfl rfl 0 (by decide) (hts _ km_36) (fun _ h9 => h9) rfl kdX1_recoverMessage_13 ?_
    refine lv_icmp_ge (tgt := 97) hx hb kdX1_recoverMessage_16 (by decide) (fun c_3 => ?_) (fun c_3 => ?_)
    · have h := kb_b_t c_3 h
      obtain rfl := Option.some.inj h
      exact hk0 x4p10 f_this_sump10 f_this_termp10 m_this_vectorp10 ho.symm _ _ _ hP hD hS (lv_sub hl [0, 1, 2, 3, 4] rfl)
    · have h := kb_b_f c_3 h
      refine lv_aload_n hx hb kdX1_recoverMessage_19 rfl (lv_at hl 3 rfl) ?_
      refine lv_aload_n hx hb kdX1_recoverMessage_20 rfl (lv_at hl 1 rfl) ?_
      obtain ⟨u_5, hu_5, h⟩ := kb_o_s h
      obtain ⟨r_4, rfl⟩ : ∃ z, z = u_5 := ⟨_, rfl⟩
      have hC := (show ([7] : List Nat).map (fun i : Nat => (kWX1_recoverMessage cB cI cL cBB cII cSh h_this a_this a_this_ring r_this_vector h_a1 h_a2 n_a2 h_a3 n_a3 f_this_ring_powers f_this_sump10 f_this_termp10 f_this_message a1_rank a1_keyNoise a1_vectorBits a1_scalarBits f_a2 f_a3 m_this_vectorp10)[i]?) = List.map some (kWX3_vectorPartSize cB cI cL cBB cII cSh h_a1 a1_rank a1_keyNoise a1_vectorBits a1_scalarBits) from rfl)
      have hPc := kb_Psub hP ([7] : List Nat) hC
      have hDc := kb_Dsub hD ([7] : List Nat) hC (by simp [kb_nd])
      refine kb_call0 (va_runV (As := []) (rest := [.ref h_a3]) C0 (kcX3_vectorPartSize l D cB cI cL cBB cII cSh h_a1 _ a1_rank a1_keyNoise a1_vectorBits a1_scalarBits r_4 hu_5) (cwV 0 hts (kb_gV km_543 km_544 km_545 km_2 km_546) rfl rfl rfl (by decide +kernel) ⟨Nat.le_of_ble_eq_true rfl, Nat.le_of_ble_eq_true rfl⟩) ⟨kb_P_bl, va_recv hK hP (ci := 3) (q0 := 7) rfl rfl, (fun U hU hW => ⟨rfl, by rw [hU], by rw [hU]; exact hPc, va_K.moved hW.alike hK, kb_N_to hW hN, hDc.weaken (fun _ _ _ _ => trivial)⟩)⟩ rfl rfl hl.1 rfl (lv_room (Nat.le_of_ble_eq_true rfl)) kdX1_recoverMessage_21 ⟨hcR, hsR⟩) hP hD hS hA ([7] : List Nat) hC rfl (fun H locs hP hD hS => ?_)
      have hP : va_P D kCl (kWX1_recoverMessage cB cI cL cBB cII cSh h_this a_this a_this_ring r_this_vector h_a1 h_a2 n_a2 h_a3 n_a3 f_this_ring_powers f_this_sump10 f_this_termp10 f_this_message a1_rank a1_keyNoise a1_vectorBits a1_scalarBits f_a2 f_a3 m_this_vectorp10) H := hP
      have hD : va_D A (kWX1_recoverMessage cB cI cL cBB cII cSh h_this a_this a_this_ring r_this_vector h_a1 h_a2 n_a2 h_a3 n_a3 f_this_ring_powers f_this_sump10 f_this_termp10 f_this_message a1_rank a1_keyNoise a1_vectorBits a1_scalarBits f_a2 f_a3 m_this_vectorp10) := hD
      refine lv_iload hx hb kdX1_recoverMessage_24 (lv_at hl 4 rfl) ?_
      refine lv_imul hx hb kdX1_recoverMessage_26 ?_
      refine lv_aload_n hx hb kdX1_recoverMessage_27 rfl (lv_at hl 1 rfl) ?_
      refine va_get (ci := 3) (v := .int a1_vectorBits) (C := kRX3) (T := kTX3) (N := 4) hx hb hts kinX3 hown hK hP 7 rfl rfl 2 (by decide) (hts _ km_40) (fun _ h9 => h9) rfl kdX1_recoverMessage_28 ?_
      refine lv_aload_n hx hb kdX1_recoverMessage_31 rfl (lv_at hl 0 rfl) ?_
      refine va_get (ci := 1) (v := .ref (a_this 3)) (C := kRX1) (T := kTX1) (N := 13) hx hb hts kinX1 hown hK hP 0 rfl rfl 3 (by decide) (hts _ km_122) (fun _ h9 => h9) rfl kdX1_recoverMessage_32 ?_
      refine lv_iload hx hb kdX1_recoverMessage_35 (lv_at hl 4 rfl) ?_
      obtain ⟨g_6, h⟩ := kb_g_s h
      refine kb_aald (j := x4p10.toNatClampNeg) hx hb hK hP 3 4 rfl rfl rfl rfl (kb_in_v g_6) kdX1_recoverMessage_37 ?_
      obtain ⟨u_8, hu_8, h⟩ := kb_o_s h
      obtain ⟨f_7, rfl⟩ : ∃ z, z = u_8 := ⟨_, rfl⟩
      have hC := (show ([9, (10 + x4p10.toNatClampNeg)] : List Nat).map (fun i : Nat => (kWX1_recoverMessage cB cI cL cBB cII cSh h_this a_this a_this_ring r_this_vector h_a1 h_a2 n_a2 h_a3 n_a3 f_this_ring_powers f_this_sump10 f_this_termp10 f_this_message a1_rank a1_keyNoise a1_vectorBits a1_scalarBits f_a2 f_a3 m_this_vectorp10)[i]?) = List.map some (kWX6_unpackCompressed cB cI cL cBB cII cSh h_a3 n_a3 (r_this_vector x4p10.toNatClampNeg) 256 f_a3 (m_this_vectorp10 x4p10.toNatClampNeg)) from (kb_c rfl (kb_c (kb_pl_r rfl (kb_pl_l (kb_gw_at (kb_in_lt g_6)))) rfl)))
      have hPc := kb_Psub hP ([9, (10 + x4p10.toNatClampNeg)] : List Nat) hC
      have hDc := kb_Dsub hD ([9, (10 + x4p10.toNatClampNeg)] : List Nat) hC (by simp [kb_nd] <;> omega)
      have hC2 : ([9, (10 + x4p10.toNatClampNeg)] : List Nat).map (fun i : Nat => (kWX1_recoverMessage cB cI cL cBB cII cSh h_this a_this a_this_ring r_this_vector h_a1 h_a2 n_a2 h_a3 n_a3 f_this_ring_powers f_this_sump10 f_this_termp10 f_this_message a1_rank a1_keyNoise a1_vectorBits a1_scalarBits f_a2 f_a3 m_this_vectorp10)[i]?) = (kb_pick [0, 1] (kWX6_unpackCompressed cB cI cL cBB cII cSh h_a3 n_a3 (r_this_vector x4p10.toNatClampNeg) 256 f_a3 (m_this_vectorp10 x4p10.toNatClampNeg))).map some := (kb_c rfl (kb_c (kb_pl_r rfl (kb_pl_l (kb_gw_at (kb_in_lt g_6)))) rfl))
      refine kb_callp (va_runS (As := [.ref h_a3, .int (r_4 * x4p10), .int a1_vectorBits, .ref (r_this_vector x4p10.toNatClampNeg)]) (rest := []) C0 (kcX6_unpackCompressed l D cB cI cL cBB cII cSh h_a3 (r_this_vector x4p10.toNatClampNeg) _ (r_4 * x4p10) a1_vectorBits n_a3 256 f_a3 (m_this_vectorp10 x4p10.toNatClampNeg) f_7 hu_8) (va_cwS 4 hts (kb_gS km_559 km_560 km_15 km_561) rfl rfl rfl (by decide +kernel) ⟨Nat.le_of_ble_eq_true rfl, Nat.le_of_ble_eq_true rfl⟩) ⟨kb_P_bl, (fun U hU hW => ⟨rfl, by rw [hU], by rw [hU]; exact hPc, va_K.moved hW.alike hK, kb_N_to hW hN, hDc.weaken (fun _ _ _ _ => trivial)⟩)⟩ rfl rfl hl.1 rfl (lv_room (Nat.le_of_ble_eq_true rfl)) kdX1_recoverMessage_38 ⟨hcR, hsR⟩) hP hD hS hA [9, (10 + x4p10.toNatClampNeg)] [0, 1] [0, 1] hC2 rfl rfl (by simp [kb_nd]) rfl (fun H locs hP hD hS => ?_)
      have hP : va_P D kCl (kb_put (kWX1_recoverMessage cB cI cL cBB cII cSh h_this a_this a_this_ring r_this_vector h_a1 h_a2 n_a2 h_a3 n_a3 f_this_ring_powers f_this_sump10 f_this_termp10 f_this_message a1_rank a1_keyNoise a1_vectorBits a1_scalarBits f_a2 f_a3 m_this_vectorp10) (9 :: [(10 + x4p10.toNatClampNeg)]) ((h_a3, .inl (cB, n_a3, .inl f_a3)) :: [(r_this_vector x4p10.toNatClampNeg, .inl (cI, 256, .inl f_7))])) H := hP
      have hD : va_D A (kb_put (kWX1_recoverMessage cB cI cL cBB cII cSh h_this a_this a_this_ring r_this_vector h_a1 h_a2 n_a2 h_a3 n_a3 f_this_ring_powers f_this_sump10 f_this_termp10 f_this_message a1_rank a1_keyNoise a1_vectorBits a1_scalarBits f_a2 f_a3 m_this_vectorp10) (9 :: [(10 + x4p10.toNatClampNeg)]) ((h_a3, .inl (cB, n_a3, .inl f_a3)) :: [(r_this_vector x4p10.toNatClampNeg, .inl (cI, 256, .inl f_7))])) := hD
      have eP_1 : kb_put (kWX1_recoverMessage cB cI cL cBB cII cSh h_this a_this a_this_ring r_this_vector h_a1 h_a2 n_a2 h_a3 n_a3 f_this_ring_powers f_this_sump10 f_this_termp10 f_this_message a1_rank a1_keyNoise a1_vectorBits a1_scalarBits f_a2 f_a3 m_this_vectorp10) (9 :: [(10 + x4p10.toNatClampNeg)]) ((h_a3, .inl (cB, n_a3, .inl f_a3)) :: [(r_this_vector x4p10.toNatClampNeg, .inl (cI, 256, .inl f_7))]) = kb_put (kWX1_recoverMessage cB cI cL cBB cII cSh h_this a_this a_this_ring r_this_vector h_a1 h_a2 n_a2 h_a3 n_a3 f_this_ring_powers f_this_sump10 f_this_termp10 f_this_message a1_rank a1_keyNoise a1_vectorBits a1_scalarBits f_a2 f_a3 m_this_vectorp10) [(10 + x4p10.toNatClampNeg)] [(r_this_vector x4p10.toNatClampNeg, .inl (cI, 256, .inl f_7))] := by rw [kb_put_s (by rfl)]
      rw [eP_1] at hP hD
      obtain ⟨m_10, em_10⟩ : ∃ y, y = va_up m_this_vectorp10 x4p10.toNatClampNeg f_7 := ⟨_, rfl⟩
      have h := kb_n_s em_10 h
      have eW_9 : (kWX1_recoverMessage cB cI cL cBB cII cSh h_this a_this a_this_ring r_this_vector h_a1 h_a2 n_a2 h_a3 n_a3 f_this_ring_powers f_this_sump10 f_this_termp10 f_this_message a1_rank a1_keyNoise a1_vectorBits a1_scalarBits f_a2 f_a3 m_this_vectorp10).set (10 + x4p10.toNatClampNeg) (r_this_vector x4p10.toNatClampNeg, .inl (cI, 256, .inl f_7)) = (kWX1_recoverMessage cB cI cL cBB cII cSh h_this a_this a_this_ring r_this_vector h_a1 h_a2 n_a2 h_a3 n_a3 f_this_ring_powers f_this_sump10 f_this_termp10 f_this_message a1_rank a1_keyNoise a1_vectorBits a1_scalarBits f_a2 f_a3 m_10) := by unfold kWX1_recoverMessage; rw [kb_set_r (n := 10) (by rfl), kb_set_l (by rw [kb_gw_len]; exact (kb_in_lt g_6)), kb_gw_st (kb_in_lt g_6), em_10, kb_up_c (fun z => .inl (cI, 256, .inl z))]
      have hP : va_P D kCl (kWX1_recoverMessage cB cI cL cBB cII cSh h_this a_this a_this_ring r_this_vector h_a1 h_a2 n_a2 h_a3 n_a3 f_this_ring_powers f_this_sump10 f_this_termp10 f_this_message a1_rank a1_keyNoise a1_vectorBits a1_scalarBits f_a2 f_a3 m_10) H := by rw [kb_put_c, eW_9, kb_put_n] at hP; exact hP
      have hD : va_D A (kWX1_recoverMessage cB cI cL cBB cII cSh h_this a_this a_this_ring r_this_vector h_a1 h_a2 n_a2 h_a3 n_a3 f_this_ring_powers f_this_sump10 f_this_termp10 f_this_message a1_rank a1_keyNoise a1_vectorBits a1_scalarBits f_a2 f_a3 m_10) := by rw [kb_put_c, eW_9, kb_put_n] at hD; exact hD
      refine lv_aload_n hx hb kdX1_recoverMessage_41 rfl (lv_at hl 0 rfl) ?_
      refine va_get (ci := 1) (v := .ref (a_this 1)) (C := kRX1) (T := kTX1) (N := 13) hx hb hts kinX1 hown hK hP 0 rfl rfl 1 (by decide) (hts _ km_120) (fun _ h9 => h9) rfl kdX1_recoverMessage_42 ?_
      refine lv_aload_n hx hb kdX1_recoverMessage_45 rfl (lv_at hl 0 rfl) ?_
      refine va_get (ci := 1) (v := .ref (a_this 3)) (C := kRX1) (T := kTX1) (N := 13) hx hb hts kinX1 hown hK hP 0 rfl rfl 3 (by decide) (hts _ km_122) (fun _ h9 => h9) rfl kdX1_recoverMessage_46 ?_
      refine lv_iload hx hb kdX1_recoverMessage_49 (lv_at hl 4 rfl) ?_
      obtain ⟨g_11, h⟩ := kb_g_s h
      refine kb_aald (j := x4p10.toNatClampNeg) hx hb hK hP 3 4 rfl rfl rfl rfl (kb_in_v g_11) kdX1_recoverMessage_51 ?_
      obtain ⟨u_13, hu_13, h⟩ := kb_o_s h
      obtain ⟨f_12, rfl⟩ : ∃ z, z = u_13 := ⟨_, rfl⟩
      have hC := (show ([1, 2, (10 + x4p10.toNatClampNeg)] : List Nat).map (fun i : Nat => (kWX1_recoverMessage cB cI cL cBB cII cSh h_this a_this a_this_ring r_this_vector h_a1 h_a2 n_a2 h_a3 n_a3 f_this_ring_powers f_this_sump10 f_this_termp10 f_this_message a1_rank a1_keyNoise a1_vectorBits a1_scalarBits f_a2 f_a3 m_10)[i]?) = List.map some (kWX2_transform cB cI cL cBB cII cSh (a_this 1) a_this_ring (r_this_vector x4p10.toNatClampNeg) 256 f_this_ring_powers (m_10 x4p10.toNatClampNeg)) from (kb_c rfl (kb_c rfl (kb_c (kb_pl_r rfl (kb_pl_l (kb_gw_at (kb_in_lt g_11)))) rfl))))
      have hPc := kb_Psub hP ([1, 2, (10 + x4p10.toNatClampNeg)] : List Nat) hC
      have hDc := kb_Dsub hD ([1, 2, (10 + x4p10.toNatClampNeg)] : List Nat) hC (by simp [kb_nd] <;> omega)
      have hC2 : ([1, 2, (10 + x4p10.toNatClampNeg)] : List Nat).map (fun i : Nat => (kWX1_recoverMessage cB cI cL cBB cII cSh h_this a_this a_this_ring r_this_vector h_a1 h_a2 n_a2 h_a3 n_a3 f_this_ring_powers f_this_sump10 f_this_termp10 f_this_message a1_rank a1_keyNoise a1_vectorBits a1_scalarBits f_a2 f_a3 m_10)[i]?) = (kb_pick [0, 1, 2] (kWX2_transform cB cI cL cBB cII cSh (a_this 1) a_this_ring (r_this_vector x4p10.toNatClampNeg) 256 f_this_ring_powers (m_10 x4p10.toNatClampNeg))).map some := (kb_c rfl (kb_c rfl (kb_c (kb_pl_r rfl (kb_pl_l (kb_gw_at (kb_in_lt g_11)))) rfl)))
      refine kb_callp (va_runV (As := [.ref (r_this_vector x4p10.toNatClampNeg)]) (rest := []) C0 (kcX2_transform l D cB cI cL cBB cII cSh (a_this 1) (r_this_vector x4p10.toNatClampNeg) a_this_ring _ 256 f_this_ring_powers (m_10 x4p10.toNatClampNeg) f_12 hu_13) (cwV 1 hts (kb_gV km_450 km_451 km_452 km_5 km_453) rfl rfl rfl (by decide +kernel) ⟨Nat.le_of_ble_eq_true rfl, Nat.le_of_ble_eq_true rfl⟩) ⟨kb_P_bl, va_recv hK hP (ci := 2) (q0 := 1) rfl rfl, (fun U hU hW => ⟨rfl, by rw [hU], by rw [hU]; exact hPc, va_K.moved hW.alike hK, kb_N_to hW hN, hDc.weaken (fun _ _ _ _ => trivial)⟩)⟩ rfl rfl hl.1 rfl (lv_room (Nat.le_of_ble_eq_true rfl)) kdX1_recoverMessage_52 ⟨hcR, hsR⟩) hP hD hS hA [1, 2, (10 + x4p10.toNatClampNeg)] [0, 1, 2] [0, 1, 2] hC2 rfl rfl (by simp [kb_nd]) rfl (fun H locs hP hD hS => ?_)
      have hP : va_P D kCl (kb_put (kWX1_recoverMessage cB cI cL cBB cII cSh h_this a_this a_this_ring r_this_vector h_a1 h_a2 n_a2 h_a3 n_a3 f_this_ring_powers f_this_sump10 f_this_termp10 f_this_message a1_rank a1_keyNoise a1_vectorBits a1_scalarBits f_a2 f_a3 m_10) (1 :: 2 :: [(10 + x4p10.toNatClampNeg)]) (((a_this 1), koX2 a_this_ring) :: ((a_this_ring 0), .inl (cI, 128, .inl f_this_ring_powers)) :: [(r_this_vector x4p10.toNatClampNeg, .inl (cI, 256, .inl f_12))])) H := hP
      have hD : va_D A (kb_put (kWX1_recoverMessage cB cI cL cBB cII cSh h_this a_this a_this_ring r_this_vector h_a1 h_a2 n_a2 h_a3 n_a3 f_this_ring_powers f_this_sump10 f_this_termp10 f_this_message a1_rank a1_keyNoise a1_vectorBits a1_scalarBits f_a2 f_a3 m_10) (1 :: 2 :: [(10 + x4p10.toNatClampNeg)]) (((a_this 1), koX2 a_this_ring) :: ((a_this_ring 0), .inl (cI, 128, .inl f_this_ring_powers)) :: [(r_this_vector x4p10.toNatClampNeg, .inl (cI, 256, .inl f_12))])) := hD
      have eP_2 : kb_put (kWX1_recoverMessage cB cI cL cBB cII cSh h_this a_this a_this_ring r_this_vector h_a1 h_a2 n_a2 h_a3 n_a3 f_this_ring_powers f_this_sump10 f_this_termp10 f_this_message a1_rank a1_keyNoise a1_vectorBits a1_scalarBits f_a2 f_a3 m_10) (1 :: 2 :: [(10 + x4p10.toNatClampNeg)]) (((a_this 1), koX2 a_this_ring) :: ((a_this_ring 0), .inl (cI, 128, .inl f_this_ring_powers)) :: [(r_this_vector x4p10.toNatClampNeg, .inl (cI, 256, .inl f_12))]) = kb_put (kWX1_recoverMessage cB cI cL cBB cII cSh h_this a_this a_this_ring r_this_vector h_a1 h_a2 n_a2 h_a3 n_a3 f_this_ring_powers f_this_sump10 f_this_termp10 f_this_message a1_rank a1_keyNoise a1_vectorBits a1_scalarBits f_a2 f_a3 m_10) [(10 + x4p10.toNatClampNeg)] [(r_this_vector x4p10.toNatClampNeg, .inl (cI, 256, .inl f_12))] := by rw [kb_put_s (by rfl), kb_put_s (by rfl)]
      rw [eP_2] at hP hD
      obtain ⟨m_15, em_15⟩ : ∃ y, y = va_up m_10 x4p10.toNatClampNeg f_12 := ⟨_, rfl⟩
      have h := kb_n_s em_15 h
      have eW_14 : (kWX1_recoverMessage cB cI cL cBB cII cSh h_this a_this a_this_ring r_this_vector h_a1 h_a2 n_a2 h_a3 n_a3 f_this_ring_powers f_this_sump10 f_this_termp10 f_this_message a1_rank a1_keyNoise a1_vectorBits a1_scalarBits f_a2 f_a3 m_10).set (10 + x4p10.toNatClampNeg) (r_this_vector x4p10.toNatClampNeg, .inl (cI, 256, .inl f_12)) = (kWX1_recoverMessage cB cI cL cBB cII cSh h_this a_this a_this_ring r_this_vector h_a1 h_a2 n_a2 h_a3 n_a3 f_this_ring_powers f_this_sump10 f_this_termp10 f_this_message a1_rank a1_keyNoise a1_vectorBits a1_scalarBits f_a2 f_a3 m_15) := by unfold kWX1_recoverMessage; rw [kb_set_r (n := 10) (by rfl), kb_set_l (by rw [kb_gw_len]; exact (kb_in_lt g_11)), kb_gw_st (kb_in_lt g_11), em_15, kb_up_c (fun z => .inl (cI, 256, .inl z))]
      have hP : va_P D kCl (kWX1_recoverMessage cB cI cL cBB cII cSh h_this a_this a_this_ring r_this_vector h_a1 h_a2 n_a2 h_a3 n_a3 f_this_ring_powers f_this_sump10 f_this_termp10 f_this_message a1_rank a1_keyNoise a1_vectorBits a1_scalarBits f_a2 f_a3 m_15) H := by rw [kb_put_c, eW_14, kb_put_n] at hP; exact hP
      have hD : va_D A (kWX1_recoverMessage cB cI cL cBB cII cSh h_this a_this a_this_ring r_this_vector h_a1 h_a2 n_a2 h_a3 n_a3 f_this_ring_powers f_this_sump10 f_this_termp10 f_this_message a1_rank a1_keyNoise a1_vectorBits a1_scalarBits f_a2 f_a3 m_15) := by rw [kb_put_c, eW_14, kb_put_n] at hD; exact hD
      refine lv_aload_n hx hb kdX1_recoverMessage_55 rfl (lv_at hl 2 rfl) ?_
      refine lv_sipush (v := 384) hx hb kdX1_recoverMessage_56 (by decide) ?_
      refine lv_iload hx hb kdX1_recoverMessage_59 (lv_at hl 4 rfl) ?_
      refine lv_imul hx hb kdX1_recoverMessage_61 ?_
      refine lv_aload_n hx hb kdX1_recoverMessage_62 rfl (lv_at hl 0 rfl) ?_
      refine va_get (ci := 1) (v := .ref (a_this 5)) (C := kRX1) (T := kTX1) (N := 13) hx hb hts kinX1 hown hK hP 0 rfl rfl 5 (by decide) (hts _ km_124) (fun _ h9 => h9) rfl kdX1_recoverMessage_63 ?_
      obtain ⟨u_17, hu_17, h⟩ := kb_o_s h
      obtain ⟨f_16, rfl⟩ : ∃ z, z = u_17 := ⟨_, rfl⟩
      have hC := (show ([8, 5] : List Nat).map (fun i : Nat => (kWX1_recoverMessage cB cI cL cBB cII cSh h_this a_this a_this_ring r_this_vector h_a1 h_a2 n_a2 h_a3 n_a3 f_this_ring_powers f_this_sump10 f_this_termp10 f_this_message a1_rank a1_keyNoise a1_vectorBits a1_scalarBits f_a2 f_a3 m_15)[i]?) = List.map some (kWX6_unpackNumbers cB cI cL cBB cII cSh h_a2 n_a2 (a_this 5) 256 f_a2 f_this_termp10) from rfl)
      have hPc := kb_Psub hP ([8, 5] : List Nat) hC
      have hDc := kb_Dsub hD ([8, 5] : List Nat) hC (by simp [kb_nd])
      refine kb_call0 (va_runS (As := [.ref h_a2, .int ((384 : Int32) * x4p10), .ref (a_this 5)]) (rest := []) C0 (kcX6_unpackNumbers l D cB cI cL cBB cII cSh h_a2 (a_this 5) _ ((384 : Int32) * x4p10) n_a2 256 f_a2 f_this_termp10 f_16 hu_17) (va_cwS 3 hts (kb_gS km_555 km_556 km_15 km_557) rfl rfl rfl (by decide +kernel) ⟨Nat.le_of_ble_eq_true rfl, Nat.le_of_ble_eq_true rfl⟩) ⟨kb_P_bl, (fun U hU hW => ⟨rfl, by rw [hU], by rw [hU]; exact hPc, va_K.moved hW.alike hK, kb_N_to hW hN, hDc.weaken (fun _ _ _ _ => trivial)⟩)⟩ rfl rfl hl.1 rfl (lv_room (Nat.le_of_ble_eq_true rfl)) kdX1_recoverMessage_66 ⟨hcR, hsR⟩) hP hD hS hA ([8, 5] : List Nat) hC rfl (fun H locs hP hD hS => ?_)
      have hP : va_P D kCl (kWX1_recoverMessage cB cI cL cBB cII cSh h_this a_this a_this_ring r_this_vector h_a1 h_a2 n_a2 h_a3 n_a3 f_this_ring_powers f_this_sump10 f_16 f_this_message a1_rank a1_keyNoise a1_vectorBits a1_scalarBits f_a2 f_a3 m_15) H := hP
      have hD : va_D A (kWX1_recoverMessage cB cI cL cBB cII cSh h_this a_this a_this_ring r_this_vector h_a1 h_a2 n_a2 h_a3 n_a3 f_this_ring_powers f_this_sump10 f_16 f_this_message a1_rank a1_keyNoise a1_vectorBits a1_scalarBits f_a2 f_a3 m_15) := hD
      refine lv_aload_n hx hb kdX1_recoverMessage_69 rfl (lv_at hl 0 rfl) ?_
      refine va_get (ci := 1) (v := .ref (a_this 1)) (C := kRX1) (T := kTX1) (N := 13) hx hb hts kinX1 hown hK hP 0 rfl rfl 1 (by decide) (hts _ km_120) (fun _ h9 => h9) rfl kdX1_recoverMessage_70 ?_
      refine lv_aload_n hx hb kdX1_recoverMessage_73 rfl (lv_at hl 0 rfl) ?_
      refine va_get (ci := 1) (v := .ref (a_this 4)) (C := kRX1) (T := kTX1) (N := 13) hx hb hts kinX1 hown hK hP 0 rfl rfl 4 (by decide) (hts _ km_123) (fun _ h9 => h9) rfl kdX1_recoverMessage_74 ?_
      refine lv_aload_n hx hb kdX1_recoverMessage_77 rfl (lv_at hl 0 rfl) ?_
      refine va_get (ci := 1) (v := .ref (a_this 5)) (C := kRX1) (T := kTX1) (N := 13) hx hb hts kinX1 hown hK hP 0 rfl rfl 5 (by decide) (hts _ km_124) (fun _ h9 => h9) rfl kdX1_recoverMessage_78 ?_
      refine lv_aload_n hx hb kdX1_recoverMessage_81 rfl (lv_at hl 0 rfl) ?_
      refine va_get (ci := 1) (v := .ref (a_this 3)) (C := kRX1) (T := kTX1) (N := 13) hx hb hts kinX1 hown hK hP 0 rfl rfl 3 (by decide) (hts _ km_122) (fun _ h9 => h9) rfl kdX1_recoverMessage_82 ?_
      refine lv_iload hx hb kdX1_recoverMessage_85 (lv_at hl 4 rfl) ?_
      obtain ⟨g_18, h⟩ := kb_g_s h
      refine kb_aald (j := x4p10.toNatClampNeg) hx hb hK hP 3 4 rfl rfl rfl rfl (kb_in_v g_18) kdX1_recoverMessage_87 ?_
      obtain ⟨u_20, hu_20, h⟩ := kb_o_s h
      obtain ⟨f_19, rfl⟩ : ∃ z, z = u_20 := ⟨_, rfl⟩
      have hC := (show ([1, 2, 4, 5, (10 + x4p10.toNatClampNeg)] : List Nat).map (fun i : Nat => (kWX1_recoverMessage cB cI cL cBB cII cSh h_this a_this a_this_ring r_this_vector h_a1 h_a2 n_a2 h_a3 n_a3 f_this_ring_powers f_this_sump10 f_16 f_this_message a1_rank a1_keyNoise a1_vectorBits a1_scalarBits f_a2 f_a3 m_15)[i]?) = List.map some (kWX2_addProduct cB cI cL cBB cII cSh (a_this 1) a_this_ring (a_this 4) 256 (a_this 5) 256 (r_this_vector x4p10.toNatClampNeg) 256 f_this_ring_powers f_this_sump10 f_16 (m_15 x4p10.toNatClampNeg)) from (kb_c rfl (kb_c rfl (kb_c rfl (kb_c rfl (kb_c (kb_pl_r rfl (kb_pl_l (kb_gw_at (kb_in_lt g_18)))) rfl))))))
      have hPc := kb_Psub hP ([1, 2, 4, 5, (10 + x4p10.toNatClampNeg)] : List Nat) hC
      have hDc := kb_Dsub hD ([1, 2, 4, 5, (10 + x4p10.toNatClampNeg)] : List Nat) hC (by simp [kb_nd] <;> omega)
      have hC2 : ([1, 2, 4, 5, (10 + x4p10.toNatClampNeg)] : List Nat).map (fun i : Nat => (kWX1_recoverMessage cB cI cL cBB cII cSh h_this a_this a_this_ring r_this_vector h_a1 h_a2 n_a2 h_a3 n_a3 f_this_ring_powers f_this_sump10 f_16 f_this_message a1_rank a1_keyNoise a1_vectorBits a1_scalarBits f_a2 f_a3 m_15)[i]?) = (kb_pick [0, 1, 2, 3, 4] (kWX2_addProduct cB cI cL cBB cII cSh (a_this 1) a_this_ring (a_this 4) 256 (a_this 5) 256 (r_this_vector x4p10.toNatClampNeg) 256 f_this_ring_powers f_this_sump10 f_16 (m_15 x4p10.toNatClampNeg))).map some := (kb_c rfl (kb_c rfl (kb_c rfl (kb_c rfl (kb_c (kb_pl_r rfl (kb_pl_l (kb_gw_at (kb_in_lt g_18)))) rfl)))))
      refine kb_callp (va_runV (As := [.ref (a_this 4), .ref (a_this 5), .ref (r_this_vector x4p10.toNatClampNeg)]) (rest := []) C0 (kcX2_addProduct l D cB cI cL cBB cII cSh (a_this 1) (a_this 4) (a_this 5) (r_this_vector x4p10.toNatClampNeg) a_this_ring _ 256 256 256 f_this_ring_powers f_this_sump10 f_16 (m_15 x4p10.toNatClampNeg) f_19 hu_20) (cwV 3 hts (kb_gV km_454 km_455 km_456 km_5 km_457) rfl rfl rfl (by decide +kernel) ⟨Nat.le_of_ble_eq_true rfl, Nat.le_of_ble_eq_true rfl⟩) ⟨kb_P_bl, va_recv hK hP (ci := 2) (q0 := 1) rfl rfl, (fun U hU hW => ⟨rfl, by rw [hU], by rw [hU]; exact hPc, va_K.moved hW.alike hK, kb_N_to hW hN, hDc.weaken (fun _ _ _ _ => trivial)⟩)⟩ rfl rfl hl.1 rfl (lv_room (Nat.le_of_ble_eq_true rfl)) kdX1_recoverMessage_88 ⟨hcR, hsR⟩) hP hD hS hA [1, 2, 4, 5, (10 + x4p10.toNatClampNeg)] [0, 1, 2, 3, 4] [0, 1, 2, 3, 4] hC2 rfl rfl (by simp [kb_nd]) rfl (fun H locs hP hD hS => ?_)
      have hP : va_P D kCl (kb_put (kWX1_recoverMessage cB cI cL cBB cII cSh h_this a_this a_this_ring r_this_vector h_a1 h_a2 n_a2 h_a3 n_a3 f_this_ring_powers f_this_sump10 f_16 f_this_message a1_rank a1_keyNoise a1_vectorBits a1_scalarBits f_a2 f_a3 m_15) (1 :: 2 :: 4 :: 5 :: [(10 + x4p10.toNatClampNeg)]) (((a_this 1), koX2 a_this_ring) :: ((a_this_ring 0), .inl (cI, 128, .inl f_this_ring_powers)) :: ((a_this 4), .inl (cI, 256, .inl f_19)) :: ((a_this 5), .inl (cI, 256, .inl f_16)) :: [(r_this_vector x4p10.toNatClampNeg, .inl (cI, 256, .inl (m_15 x4p10.toNatClampNeg)))])) H := hP
      have hD : va_D A (kb_put (kWX1_recoverMessage cB cI cL cBB cII cSh h_this a_this a_this_ring r_this_vector h_a1 h_a2 n_a2 h_a3 n_a3 f_this_ring_powers f_this_sump10 f_16 f_this_message a1_rank a1_keyNoise a1_vectorBits a1_scalarBits f_a2 f_a3 m_15) (1 :: 2 :: 4 :: 5 :: [(10 + x4p10.toNatClampNeg)]) (((a_this 1), koX2 a_this_ring) :: ((a_this_ring 0), .inl (cI, 128, .inl f_this_ring_powers)) :: ((a_this 4), .inl (cI, 256, .inl f_19)) :: ((a_this 5), .inl (cI, 256, .inl f_16)) :: [(r_this_vector x4p10.toNatClampNeg, .inl (cI, 256, .inl (m_15 x4p10.toNatClampNeg)))])) := hD
      have eP_3 : kb_put (kWX1_recoverMessage cB cI cL cBB cII cSh h_this a_this a_this_ring r_this_vector h_a1 h_a2 n_a2 h_a3 n_a3 f_this_ring_powers f_this_sump10 f_16 f_this_message a1_rank a1_keyNoise a1_vectorBits a1_scalarBits f_a2 f_a3 m_15) (1 :: 2 :: 4 :: 5 :: [(10 + x4p10.toNatClampNeg)]) (((a_this 1), koX2 a_this_ring) :: ((a_this_ring 0), .inl (cI, 128, .inl f_this_ring_powers)) :: ((a_this 4), .inl (cI, 256, .inl f_19)) :: ((a_this 5), .inl (cI, 256, .inl f_16)) :: [(r_this_vector x4p10.toNatClampNeg, .inl (cI, 256, .inl (m_15 x4p10.toNatClampNeg)))]) = kb_put (kWX1_recoverMessage cB cI cL cBB cII cSh h_this a_this a_this_ring r_this_vector h_a1 h_a2 n_a2 h_a3 n_a3 f_this_ring_powers f_19 f_16 f_this_message a1_rank a1_keyNoise a1_vectorBits a1_scalarBits f_a2 f_a3 m_15) [(10 + x4p10.toNatClampNeg)] [(r_this_vector x4p10.toNatClampNeg, .inl (cI, 256, .inl (m_15 x4p10.toNatClampNeg)))] := by rw [kb_put_s (by rfl), kb_put_s (by rfl), kb_put_c, (show List.set (kWX1_recoverMessage cB cI cL cBB cII cSh h_this a_this a_this_ring r_this_vector h_a1 h_a2 n_a2 h_a3 n_a3 f_this_ring_powers f_this_sump10 f_16 f_this_message a1_rank a1_keyNoise a1_vectorBits a1_scalarBits f_a2 f_a3 m_15) 4 ((a_this 4), .inl (cI, 256, .inl f_19)) = (kWX1_recoverMessage cB cI cL cBB cII cSh h_this a_this a_this_ring r_this_vector h_a1 h_a2 n_a2 h_a3 n_a3 f_this_ring_powers f_19 f_16 f_this_message a1_rank a1_keyNoise a1_vectorBits a1_scalarBits f_a2 f_a3 m_15) from rfl), kb_put_s (by rfl)]
      rw [eP_3] at hP hD
      have eW_21 : (kWX1_recoverMessage cB cI cL cBB cII cSh h_this a_this a_this_ring r_this_vector h_a1 h_a2 n_a2 h_a3 n_a3 f_this_ring_powers f_19 f_16 f_this_message a1_rank a1_keyNoise a1_vectorBits a1_scalarBits f_a2 f_a3 m_15).set (10 + x4p10.toNatClampNeg) (r_this_vector x4p10.toNatClampNeg, .inl (cI, 256, .inl (m_15 x4p10.toNatClampNeg))) = (kWX1_recoverMessage cB cI cL cBB cII cSh h_this a_this a_this_ring r_this_vector h_a1 h_a2 n_a2 h_a3 n_a3 f_this_ring_powers f_19 f_16 f_this_message a1_rank a1_keyNoise a1_vectorBits a1_scalarBits f_a2 f_a3 m_15) := kb_same (kb_pl_r rfl (kb_pl_l (kb_gw_at (kb_in_lt g_18))))
      have hP : va_P D kCl (kWX1_recoverMessage cB cI cL cBB cII cSh h_this a_this a_this_ring r_this_vector h_a1 h_a2 n_a2 h_a3 n_a3 f_this_ring_powers f_19 f_16 f_this_message a1_rank a1_keyNoise a1_vectorBits a1_scalarBits f_a2 f_a3 m_15) H := by rw [kb_put_c, eW_21, kb_put_n] at hP; exact hP
      have hD : va_D A (kWX1_recoverMessage cB cI cL cBB cII cSh h_this a_this a_this_ring r_this_vector h_a1 h_a2 n_a2 h_a3 n_a3 f_this_ring_powers f_19 f_16 f_this_message a1_rank a1_keyNoise a1_vectorBits a1_scalarBits f_a2 f_a3 m_15) := by rw [kb_put_c, eW_21, kb_put_n] at hD; exact hD
      obtain ⟨x4_22, ex4_22⟩ : ∃ y : Int32, y = x4p10 + Int32.ofInt 1 := ⟨_, rfl⟩
      have h := kb_n_s ex4_22 h
      refine lv_iinc (v := x4_22) (lv' := [(4, .int x4_22), (0, .ref h_this), (1, .ref h_a1), (2, .ref h_a2), (3, .ref h_a3)]) hx hb kdX1_recoverMessage_91 hl (k := 4) rfl ex4_22.symm (by decide) rfl (fun ls hl => ?_)
      refine lv_goto (tgt := 10) hx hb kdX1_recoverMessage_94 (by decide) ?_
      obtain rfl := Option.some.inj h
      exact ih x4_22 f_19 f_16 m_15 r ho _ _ _ hP hD hS (lv_sub hl [1, 2, 3, 4, 0] rfl) hk0
set_option maxHeartbeats 4000000 in
set_option maxRecDepth 100000 in
theorem kcX1_recoverMessage (l : Launch) (D : va_G) (cB cI cL cBB cII cSh : ClassId) (h_this h_a1 h_a2 h_a3 : Nat) (a_this a_this_ring r_this_vector : Nat → Nat) (sz : Nat) (n_a2 : Nat) (n_a3 : Nat) (f_this_ring_powers : Nat → Int32) (f_this_sum : Nat → Int32) (f_this_term : Nat → Int32) (f_this_message : Nat → Int32) (a1_rank : Int32) (a1_keyNoise : Int32) (a1_vectorBits : Int32) (a1_scalarBits : Int32) (f_a2 : Nat → Int32) (f_a3 : Nat → Int32) (m_this_vector : Nat → Nat → Int32) (out : (Nat → Int32) × (Nat → Int32) × (Nat → Int32) × (Nat → Nat → Int32)) (h : kFX1_recoverMessage n_a2 n_a3 f_this_ring_powers f_this_sum f_this_term f_this_message a1_rank a1_vectorBits a1_scalarBits f_a2 f_a3 m_this_vector = some out) : Met l kyX1_recoverMessage kwX1_recoverMessage krX1_recoverMessage (kb_P D kCl (kb_T cB cI cL cBB cII cSh) [.ref h_this, .ref h_a1, .ref h_a2, .ref h_a3] (kWX1_recoverMessage cB cI cL cBB cII cSh h_this a_this a_this_ring r_this_vector h_a1 h_a2 n_a2 h_a3 n_a3 f_this_ring_powers f_this_sum f_this_term f_this_message a1_rank a1_keyNoise a1_vectorBits a1_scalarBits f_a2 f_a3 m_this_vector) sz) (kb_Q D kCl (kb_T cB cI cL cBB cII cSh) (va_A (kWX1_recoverMessage cB cI cL cBB cII cSh h_this a_this a_this_ring r_this_vector h_a1 h_a2 n_a2 h_a3 n_a3 f_this_ring_powers f_this_sum f_this_term f_this_message a1_rank a1_keyNoise a1_vectorBits a1_scalarBits f_a2 f_a3 m_this_vector) sz) none (kWX1_recoverMessage cB cI cL cBB cII cSh h_this a_this a_this_ring r_this_vector h_a1 h_a2 n_a2 h_a3 n_a3 f_this_ring_powers out.1 out.2.1 out.2.2.1 a1_rank a1_keyNoise a1_vectorBits a1_scalarBits f_a2 f_a3 out.2.2.2)) 0 0 (va_A (kWX1_recoverMessage cB cI cL cBB cII cSh h_this a_this a_this_ring r_this_vector h_a1 h_a2 n_a2 h_a3 n_a3 f_this_ring_powers f_this_sum f_this_term f_this_message a1_rank a1_keyNoise a1_vectorBits a1_scalarBits f_a2 f_a3 m_this_vector) sz) := by
  refine Met.ofW (cc := prog_3_method_7_code) (maxL := 5) (ret := none) (by decide) rfl ?_
  intro p e s m args below meth c s₁ B hml hv
  obtain ⟨rfl, hsz, hP, hK, hN, hD0⟩ := hv
  have hx := B.exec
  have hb := B.bytes
  have hr := B.returns
  have hts0 := atoms_spec (ws := kwX1_recoverMessage) B.pre
  have hts : ∀ w ∈ kwA, w.before _ s = true := fun w h => hts0 w (List.mem_cons_of_mem _ h)
  have hown : s.vm.findClass kRX1 = some m.cls := findClass_of_methodNamed B.named
  have hlocks := B.notSynchronized
  subst hsz
  have hD := hD0.self (sz := s.heap.size)
  generalize hAe : va_A (kWX1_recoverMessage cB cI cL cBB cII cSh h_this a_this a_this_ring r_this_vector h_a1 h_a2 n_a2 h_a3 n_a3 f_this_ring_powers f_this_sum f_this_term f_this_message a1_rank a1_keyNoise a1_vectorBits a1_scalarBits f_a2 f_a3 m_this_vector) s.heap.size = A at hD ⊢
  have hA : ∀ q : Nat, s.heap.size ≤ q → A q := fun q h => by rw [← hAe]; exact Or.inr h
  have hS : va_S A s.heap s.heap [] := va_S.rf
  have C0 : CallFix p m c prog_3_method_7_code 5 s _ kwA kRX1 := ⟨hx, hb, hml, hown, hts⟩
  have hl := lv_entry ([.ref h_this, .ref h_a1, .ref h_a2, .ref h_a3]) (n := 5) (Nat.le_of_ble_eq_true rfl)
  rw [lg_entry_eq]
  generalize (lg_sl ([.ref h_this, .ref h_a1, .ref h_a2, .ref h_a3]) ++ List.replicate (5 - (lg_sl ([.ref h_this, .ref h_a1, .ref h_a2, .ref h_a3])).length) Slot.unset).toArray = ls at hl ⊢
  have hl : lv_has ls 5 [(0, .ref h_this), (1, .ref h_a1), (2, .ref h_a2), (3, .ref h_a3)] := hl
  unfold kFX1_recoverMessage at h
  refine lv_aload_n hx hb kdX1_recoverMessage_0 rfl (lv_at hl 0 rfl) ?_
  refine va_get (ci := 1) (v := .ref (a_this 4)) (C := kRX1) (T := kTX1) (N := 13) hx hb hts kinX1 hown hK hP 0 rfl rfl 4 (by decide) (hts _ km_123) (fun _ h9 => h9) rfl kdX1_recoverMessage_1 ?_
  obtain ⟨u_2, hu_2, h⟩ := kb_o_s h
  obtain ⟨f_1, rfl⟩ : ∃ z, z = u_2 := ⟨_, rfl⟩
  have hC := (show ([4] : List Nat).map (fun i : Nat => (kWX1_recoverMessage cB cI cL cBB cII cSh h_this a_this a_this_ring r_this_vector h_a1 h_a2 n_a2 h_a3 n_a3 f_this_ring_powers f_this_sum f_this_term f_this_message a1_rank a1_keyNoise a1_vectorBits a1_scalarBits f_a2 f_a3 m_this_vector)[i]?) = List.map some (kWX2_clear cB cI cL cBB cII cSh (a_this 4) 256 f_this_sum) from rfl)
  have hPc := kb_Psub hP ([4] : List Nat) hC
  have hDc := kb_Dsub hD ([4] : List Nat) hC (by simp [kb_nd])
  refine kb_call0 (va_runS (As := [.ref (a_this 4)]) (rest := []) C0 (kcX2_clear l D cB cI cL cBB cII cSh (a_this 4) _ 256 f_this_sum f_1 hu_2) (va_cwS 1 hts (kb_gS km_533 km_534 km_5 km_535) rfl rfl rfl (by decide +kernel) ⟨Nat.le_of_ble_eq_true rfl, Nat.le_of_ble_eq_true rfl⟩) ⟨kb_P_bl, (fun U hU hW => ⟨rfl, by rw [hU], by rw [hU]; exact hPc, va_K.moved hW.alike hK, kb_N_to hW hN, hDc.weaken (fun _ _ _ _ => trivial)⟩)⟩ rfl rfl hl.1 rfl (lv_room (Nat.le_of_ble_eq_true rfl)) kdX1_recoverMessage_4 ⟨Nat.le_of_ble_eq_true rfl, Nat.le_of_ble_eq_true rfl⟩) hP hD hS hA ([4] : List Nat) hC rfl (fun H locs hP hD hS => ?_)
  have hP : va_P D kCl (kWX1_recoverMessage cB cI cL cBB cII cSh h_this a_this a_this_ring r_this_vector h_a1 h_a2 n_a2 h_a3 n_a3 f_this_ring_powers f_1 f_this_term f_this_message a1_rank a1_keyNoise a1_vectorBits a1_scalarBits f_a2 f_a3 m_this_vector) H := hP
  have hD : va_D A (kWX1_recoverMessage cB cI cL cBB cII cSh h_this a_this a_this_ring r_this_vector h_a1 h_a2 n_a2 h_a3 n_a3 f_this_ring_powers f_1 f_this_term f_this_message a1_rank a1_keyNoise a1_vectorBits a1_scalarBits f_a2 f_a3 m_this_vector) := hD
  refine lv_iconst (v := 0) hx hb kdX1_recoverMessage_7 (by decide) ?_
  refine lv_istore (lv' := [(4, .int (0 : Int32)), (0, .ref h_this), (1, .ref h_a1), (2, .ref h_a2), (3, .ref h_a3)]) hx hb kdX1_recoverMessage_8 hl (by decide) rfl (fun ls hl => ?_)
  obtain ⟨r_38, hr_38, h⟩ := kb_o_s h
  refine klX1_recoverMessage_10 C0 hlocks hK hN hA (by decide) (by decide) h_this h_a1 h_a2 h_a3 a_this a_this_ring r_this_vector n_a2 n_a3 f_this_ring_powers f_this_message a1_rank a1_keyNoise a1_vectorBits a1_scalarBits f_a2 f_a3 100000 (0 : Int32) f_1 f_this_term m_this_vector r_38 hr_38 _ _ _ hP hD hS (lv_sub hl [1, 2, 3, 4, 0] rfl) (fun x4p10_23 f_this_sump10_24 f_this_termp10_25 m_this_vectorp10_26 er_38 H locs ls hP hD hS hl => ?_)
  subst er_38
  refine lv_aload_n hx hb kdX1_recoverMessage_97 rfl (lv_at hl 0 rfl) ?_
  refine va_get (ci := 1) (v := .ref (a_this 1)) (C := kRX1) (T := kTX1) (N := 13) hx hb hts kinX1 hown hK hP 0 rfl rfl 1 (by decide) (hts _ km_120) (fun _ h9 => h9) rfl kdX1_recoverMessage_98 ?_
  refine lv_aload_n hx hb kdX1_recoverMessage_101 rfl (lv_at hl 0 rfl) ?_
  refine va_get (ci := 1) (v := .ref (a_this 4)) (C := kRX1) (T := kTX1) (N := 13) hx hb hts kinX1 hown hK hP 0 rfl rfl 4 (by decide) (hts _ km_123) (fun _ h9 => h9) rfl kdX1_recoverMessage_102 ?_
  obtain ⟨u_28, hu_28, h⟩ := kb_o_s h
  obtain ⟨f_27, rfl⟩ : ∃ z, z = u_28 := ⟨_, rfl⟩
  have hC := (show ([1, 2, 4] : List Nat).map (fun i : Nat => (kWX1_recoverMessage cB cI cL cBB cII cSh h_this a_this a_this_ring r_this_vector h_a1 h_a2 n_a2 h_a3 n_a3 f_this_ring_powers f_this_sump10_24 f_this_termp10_25 f_this_message a1_rank a1_keyNoise a1_vectorBits a1_scalarBits f_a2 f_a3 m_this_vectorp10_26)[i]?) = List.map some (kWX2_transformBack cB cI cL cBB cII cSh (a_this 1) a_this_ring (a_this 4) 256 f_this_ring_powers f_this_sump10_24) from rfl)
  have hPc := kb_Psub hP ([1, 2, 4] : List Nat) hC
  have hDc := kb_Dsub hD ([1, 2, 4] : List Nat) hC (by simp [kb_nd])
  refine kb_call0 (va_runV (As := [.ref (a_this 4)]) (rest := []) C0 (kcX2_transformBack l D cB cI cL cBB cII cSh (a_this 1) (a_this 4) a_this_ring _ 256 f_this_ring_powers f_this_sump10_24 f_27 hu_28) (cwV 1 hts (kb_gV km_536 km_537 km_538 km_5 km_539) rfl rfl rfl (by decide +kernel) ⟨Nat.le_of_ble_eq_true rfl, Nat.le_of_ble_eq_true rfl⟩) ⟨kb_P_bl, va_recv hK hP (ci := 2) (q0 := 1) rfl rfl, (fun U hU hW => ⟨rfl, by rw [hU], by rw [hU]; exact hPc, va_K.moved hW.alike hK, kb_N_to hW hN, hDc.weaken (fun _ _ _ _ => trivial)⟩)⟩ rfl rfl hl.1 rfl (lv_room (Nat.le_of_ble_eq_true rfl)) kdX1_recoverMessage_105 ⟨Nat.le_of_ble_eq_true rfl, Nat.le_of_ble_eq_true rfl⟩) hP hD hS hA ([1, 2, 4] : List Nat) hC rfl (fun H locs hP hD hS => ?_)
  have hP : va_P D kCl (kWX1_recoverMessage cB cI cL cBB cII cSh h_this a_this a_this_ring r_this_vector h_a1 h_a2 n_a2 h_a3 n_a3 f_this_ring_powers f_27 f_this_termp10_25 f_this_message a1_rank a1_keyNoise a1_vectorBits a1_scalarBits f_a2 f_a3 m_this_vectorp10_26) H := hP
  have hD : va_D A (kWX1_recoverMessage cB cI cL cBB cII cSh h_this a_this a_this_ring r_this_vector h_a1 h_a2 n_a2 h_a3 n_a3 f_this_ring_powers f_27 f_this_termp10_25 f_this_message a1_rank a1_keyNoise a1_vectorBits a1_scalarBits f_a2 f_a3 m_this_vectorp10_26) := hD
  refine lv_aload_n hx hb kdX1_recoverMessage_108 rfl (lv_at hl 3 rfl) ?_
  refine lv_aload_n hx hb kdX1_recoverMessage_109 rfl (lv_at hl 1 rfl) ?_
  obtain ⟨u_30, hu_30, h⟩ := kb_o_s h
  obtain ⟨r_29, rfl⟩ : ∃ z, z = u_30 := ⟨_, rfl⟩
  have hC := (show ([7] : List Nat).map (fun i : Nat => (kWX1_recoverMessage cB cI cL cBB cII cSh h_this a_this a_this_ring r_this_vector h_a1 h_a2 n_a2 h_a3 n_a3 f_this_ring_powers f_27 f_this_termp10_25 f_this_message a1_rank a1_keyNoise a1_vectorBits a1_scalarBits f_a2 f_a3 m_this_vectorp10_26)[i]?) = List.map some (kWX3_scalarPlace cB cI cL cBB cII cSh h_a1 a1_rank a1_keyNoise a1_vectorBits a1_scalarBits) from rfl)
  have hPc := kb_Psub hP ([7] : List Nat) hC
  have hDc := kb_Dsub hD ([7] : List Nat) hC (by simp [kb_nd])
  refine kb_call0 (va_runV (As := []) (rest := [.ref h_a3]) C0 (kcX3_scalarPlace l D cB cI cL cBB cII cSh h_a1 _ a1_rank a1_keyNoise a1_vectorBits a1_scalarBits r_29 hu_30) (cwV 0 hts (kb_gV km_562 km_563 km_564 km_2 km_565) rfl rfl rfl (by decide +kernel) ⟨Nat.le_of_ble_eq_true rfl, Nat.le_of_ble_eq_true rfl⟩) ⟨kb_P_bl, va_recv hK hP (ci := 3) (q0 := 7) rfl rfl, (fun U hU hW => ⟨rfl, by rw [hU], by rw [hU]; exact hPc, va_K.moved hW.alike hK, kb_N_to hW hN, hDc.weaken (fun _ _ _ _ => trivial)⟩)⟩ rfl rfl hl.1 rfl (lv_room (Nat.le_of_ble_eq_true rfl)) kdX1_recoverMessage_110 ⟨Nat.le_of_ble_eq_true rfl, Nat.le_of_ble_eq_true rfl⟩) hP hD hS hA ([7] : List Nat) hC rfl (fun H locs hP hD hS => ?_)
  have hP : va_P D kCl (kWX1_recoverMessage cB cI cL cBB cII cSh h_this a_this a_this_ring r_this_vector h_a1 h_a2 n_a2 h_a3 n_a3 f_this_ring_powers f_27 f_this_termp10_25 f_this_message a1_rank a1_keyNoise a1_vectorBits a1_scalarBits f_a2 f_a3 m_this_vectorp10_26) H := hP
  have hD : va_D A (kWX1_recoverMessage cB cI cL cBB cII cSh h_this a_this a_this_ring r_this_vector h_a1 h_a2 n_a2 h_a3 n_a3 f_this_ring_powers f_27 f_this_termp10_25 f_this_message a1_rank a1_keyNoise a1_vectorBits a1_scalarBits f_a2 f_a3 m_this_vectorp10_26) := hD
  refine lv_aload_n hx hb kdX1_recoverMessage_113 rfl (lv_at hl 1 rfl) ?_
  refine va_get (ci := 3) (v := .int a1_scalarBits) (C := kRX3) (T := kTX3) (N := 4) hx hb hts kinX3 hown hK hP 7 rfl rfl 3 (by decide) (hts _ km_42) (fun _ h9 => h9) rfl kdX1_recoverMessage_114 ?_
  refine lv_aload_n hx hb kdX1_recoverMessage_117 rfl (lv_at hl 0 rfl) ?_
  refine va_get (ci := 1) (v := .ref (a_this 5)) (C := kRX1) (T := kTX1) (N := 13) hx hb hts kinX1 hown hK hP 0 rfl rfl 5 (by decide) (hts _ km_124) (fun _ h9 => h9) rfl kdX1_recoverMessage_118 ?_
  obtain ⟨u_32, hu_32, h⟩ := kb_o_s h
  obtain ⟨f_31, rfl⟩ : ∃ z, z = u_32 := ⟨_, rfl⟩
  have hC := (show ([9, 5] : List Nat).map (fun i : Nat => (kWX1_recoverMessage cB cI cL cBB cII cSh h_this a_this a_this_ring r_this_vector h_a1 h_a2 n_a2 h_a3 n_a3 f_this_ring_powers f_27 f_this_termp10_25 f_this_message a1_rank a1_keyNoise a1_vectorBits a1_scalarBits f_a2 f_a3 m_this_vectorp10_26)[i]?) = List.map some (kWX6_unpackCompressed cB cI cL cBB cII cSh h_a3 n_a3 (a_this 5) 256 f_a3 f_this_termp10_25) from rfl)
  have hPc := kb_Psub hP ([9, 5] : List Nat) hC
  have hDc := kb_Dsub hD ([9, 5] : List Nat) hC (by simp [kb_nd])
  refine kb_call0 (va_runS (As := [.ref h_a3, .int r_29, .int a1_scalarBits, .ref (a_this 5)]) (rest := []) C0 (kcX6_unpackCompressed l D cB cI cL cBB cII cSh h_a3 (a_this 5) _ r_29 a1_scalarBits n_a3 256 f_a3 f_this_termp10_25 f_31 hu_32) (va_cwS 4 hts (kb_gS km_559 km_560 km_15 km_561) rfl rfl rfl (by decide +kernel) ⟨Nat.le_of_ble_eq_true rfl, Nat.le_of_ble_eq_true rfl⟩) ⟨kb_P_bl, (fun U hU hW => ⟨rfl, by rw [hU], by rw [hU]; exact hPc, va_K.moved hW.alike hK, kb_N_to hW hN, hDc.weaken (fun _ _ _ _ => trivial)⟩)⟩ rfl rfl hl.1 rfl (lv_room (Nat.le_of_ble_eq_true rfl)) kdX1_recoverMessage_121 ⟨Nat.le_of_ble_eq_true rfl, Nat.le_of_ble_eq_true rfl⟩) hP hD hS hA ([9, 5] : List Nat) hC rfl (fun H locs hP hD hS => ?_)
  have hP : va_P D kCl (kWX1_recoverMessage cB cI cL cBB cII cSh h_this a_this a_this_ring r_this_vector h_a1 h_a2 n_a2 h_a3 n_a3 f_this_ring_powers f_27 f_31 f_this_message a1_rank a1_keyNoise a1_vectorBits a1_scalarBits f_a2 f_a3 m_this_vectorp10_26) H := hP
  have hD : va_D A (kWX1_recoverMessage cB cI cL cBB cII cSh h_this a_this a_this_ring r_this_vector h_a1 h_a2 n_a2 h_a3 n_a3 f_this_ring_powers f_27 f_31 f_this_message a1_rank a1_keyNoise a1_vectorBits a1_scalarBits f_a2 f_a3 m_this_vectorp10_26) := hD
  refine lv_aload_n hx hb kdX1_recoverMessage_124 rfl (lv_at hl 0 rfl) ?_
  refine va_get (ci := 1) (v := .ref (a_this 5)) (C := kRX1) (T := kTX1) (N := 13) hx hb hts kinX1 hown hK hP 0 rfl rfl 5 (by decide) (hts _ km_124) (fun _ h9 => h9) rfl kdX1_recoverMessage_125 ?_
  refine lv_aload_n hx hb kdX1_recoverMessage_128 rfl (lv_at hl 0 rfl) ?_
  refine va_get (ci := 1) (v := .ref (a_this 4)) (C := kRX1) (T := kTX1) (N := 13) hx hb hts kinX1 hown hK hP 0 rfl rfl 4 (by decide) (hts _ km_123) (fun _ h9 => h9) rfl kdX1_recoverMessage_129 ?_
  obtain ⟨u_34, hu_34, h⟩ := kb_o_s h
  obtain ⟨f_33, rfl⟩ : ∃ z, z = u_34 := ⟨_, rfl⟩
  have hC := (show ([5, 4] : List Nat).map (fun i : Nat => (kWX1_recoverMessage cB cI cL cBB cII cSh h_this a_this a_this_ring r_this_vector h_a1 h_a2 n_a2 h_a3 n_a3 f_this_ring_powers f_27 f_31 f_this_message a1_rank a1_keyNoise a1_vectorBits a1_scalarBits f_a2 f_a3 m_this_vectorp10_26)[i]?) = List.map some (kWX2_subtractFrom cB cI cL cBB cII cSh (a_this 5) 256 (a_this 4) 256 f_31 f_27) from rfl)
  have hPc := kb_Psub hP ([5, 4] : List Nat) hC
  have hDc := kb_Dsub hD ([5, 4] : List Nat) hC (by simp [kb_nd])
  refine kb_call0 (va_runS (As := [.ref (a_this 5), .ref (a_this 4)]) (rest := []) C0 (kcX2_subtractFrom l D cB cI cL cBB cII cSh (a_this 5) (a_this 4) _ 256 256 f_31 f_27 f_33 hu_34) (va_cwS 2 hts (kb_gS km_595 km_596 km_5 km_597) rfl rfl rfl (by decide +kernel) ⟨Nat.le_of_ble_eq_true rfl, Nat.le_of_ble_eq_true rfl⟩) ⟨kb_P_bl, (fun U hU hW => ⟨rfl, by rw [hU], by rw [hU]; exact hPc, va_K.moved hW.alike hK, kb_N_to hW hN, hDc.weaken (fun _ _ _ _ => trivial)⟩)⟩ rfl rfl hl.1 rfl (lv_room (Nat.le_of_ble_eq_true rfl)) kdX1_recoverMessage_132 ⟨Nat.le_of_ble_eq_true rfl, Nat.le_of_ble_eq_true rfl⟩) hP hD hS hA ([5, 4] : List Nat) hC rfl (fun H locs hP hD hS => ?_)
  have hP : va_P D kCl (kWX1_recoverMessage cB cI cL cBB cII cSh h_this a_this a_this_ring r_this_vector h_a1 h_a2 n_a2 h_a3 n_a3 f_this_ring_powers f_33 f_31 f_this_message a1_rank a1_keyNoise a1_vectorBits a1_scalarBits f_a2 f_a3 m_this_vectorp10_26) H := hP
  have hD : va_D A (kWX1_recoverMessage cB cI cL cBB cII cSh h_this a_this a_this_ring r_this_vector h_a1 h_a2 n_a2 h_a3 n_a3 f_this_ring_powers f_33 f_31 f_this_message a1_rank a1_keyNoise a1_vectorBits a1_scalarBits f_a2 f_a3 m_this_vectorp10_26) := hD
  refine lv_aload_n hx hb kdX1_recoverMessage_135 rfl (lv_at hl 0 rfl) ?_
  refine va_get (ci := 1) (v := .ref (a_this 4)) (C := kRX1) (T := kTX1) (N := 13) hx hb hts kinX1 hown hK hP 0 rfl rfl 4 (by decide) (hts _ km_123) (fun _ h9 => h9) rfl kdX1_recoverMessage_136 ?_
  refine lv_iconst (v := 1) hx hb kdX1_recoverMessage_139 (by decide) ?_
  refine lv_aload_n hx hb kdX1_recoverMessage_140 rfl (lv_at hl 0 rfl) ?_
  refine va_get (ci := 1) (v := .ref (a_this 10)) (C := kRX1) (T := kTX1) (N := 13) hx hb hts kinX1 hown hK hP 0 rfl rfl 10 (by decide) (hts _ km_129) (fun _ h9 => h9) rfl kdX1_recoverMessage_141 ?_
  refine lv_iconst (v := 0) hx hb kdX1_recoverMessage_144 (by decide) ?_
  obtain ⟨u_37, hu_37, h⟩ := kb_o_s h
  obtain ⟨f_35, f_36⟩ := u_37
  have hC := (show ([4, 6] : List Nat).map (fun i : Nat => (kWX1_recoverMessage cB cI cL cBB cII cSh h_this a_this a_this_ring r_this_vector h_a1 h_a2 n_a2 h_a3 n_a3 f_this_ring_powers f_33 f_31 f_this_message a1_rank a1_keyNoise a1_vectorBits a1_scalarBits f_a2 f_a3 m_this_vectorp10_26)[i]?) = List.map some (kWX6_packCompressed cB cI cL cBB cII cSh (a_this 4) 256 (a_this 10) 32 f_33 f_this_message) from rfl)
  have hPc := kb_Psub hP ([4, 6] : List Nat) hC
  have hDc := kb_Dsub hD ([4, 6] : List Nat) hC (by simp [kb_nd])
  refine kb_call0 (va_runS (As := [.ref (a_this 4), .int (1 : Int32), .ref (a_this 10), .int (0 : Int32)]) (rest := []) C0 (kcX6_packCompressed l D cB cI cL cBB cII cSh (a_this 4) (a_this 10) _ (1 : Int32) (0 : Int32) 256 32 f_33 f_this_message (f_35, f_36) hu_37) (va_cwS 4 hts (kb_gS km_547 km_548 km_15 km_549) rfl rfl rfl (by decide +kernel) ⟨Nat.le_of_ble_eq_true rfl, Nat.le_of_ble_eq_true rfl⟩) ⟨kb_P_bl, (fun U hU hW => ⟨rfl, by rw [hU], by rw [hU]; exact hPc, va_K.moved hW.alike hK, kb_N_to hW hN, hDc.weaken (fun _ _ _ _ => trivial)⟩)⟩ rfl rfl hl.1 rfl (lv_room (Nat.le_of_ble_eq_true rfl)) kdX1_recoverMessage_145 ⟨Nat.le_of_ble_eq_true rfl, Nat.le_of_ble_eq_true rfl⟩) hP hD hS hA ([4, 6] : List Nat) hC rfl (fun H locs hP hD hS => ?_)
  have hP : va_P D kCl (kWX1_recoverMessage cB cI cL cBB cII cSh h_this a_this a_this_ring r_this_vector h_a1 h_a2 n_a2 h_a3 n_a3 f_this_ring_powers f_35 f_31 f_36 a1_rank a1_keyNoise a1_vectorBits a1_scalarBits f_a2 f_a3 m_this_vectorp10_26) H := hP
  have hD : va_D A (kWX1_recoverMessage cB cI cL cBB cII cSh h_this a_this a_this_ring r_this_vector h_a1 h_a2 n_a2 h_a3 n_a3 f_this_ring_powers f_35 f_31 f_36 a1_rank a1_keyNoise a1_vectorBits a1_scalarBits f_a2 f_a3 m_this_vectorp10_26) := hD
  obtain rfl := Option.some.inj h
  exact W.vret hx hb hr (fun t ht hW => ⟨⟨rfl, by rw [ht]; exact hP, va_K.moved hW.alike hK, hD⟩, hS.F ht⟩) hS.2.2 kdX1_recoverMessage_148

-- 497.ModuleKem.Kem.sample.lean.txt
abbrev kWX1_sample (cB cI cL cBB cII cSh : ClassId) (h_this : Nat) (a_this : Nat → Nat) (a_this_sponge : Nat → Nat) (h_a1 : Nat) (n_a1 : Nat) (this_sponge_rate : Int32) (this_sponge_place : Int32) (f_this_sponge_lanes : Nat → Int64) (f_this_sponge_moved : Nat → Int64) (f_this_sponge_columns : Nat → Int64) (f_this_sponge_turns : Nat → Int32) (f_this_sponge_targets : Nat → Int32) (f_this_sponge_roundConstants : Nat → Int64) (f_this_three : Nat → Int32) (f_a1 : Nat → Int32) : va_W := [(h_this, koX1 a_this), ((a_this 0), koX4 a_this_sponge this_sponge_rate this_sponge_place), ((a_this_sponge 0), .inl (cL, 25, .inr (.inl f_this_sponge_lanes))), ((a_this_sponge 1), .inl (cL, 25, .inr (.inl f_this_sponge_moved))), ((a_this_sponge 2), .inl (cL, 5, .inr (.inl f_this_sponge_columns))), ((a_this_sponge 3), .inl (cI, 25, .inl f_this_sponge_turns)), ((a_this_sponge 4), .inl (cI, 25, .inl f_this_sponge_targets)), ((a_this_sponge 5), .inl (cL, 24, .inr (.inl f_this_sponge_roundConstants))), ((a_this 7), .inl (cB, 3, .inl f_this_three)), (h_a1, .inl (cI, n_a1, .inl f_a1))]
def krX1_sample : Room := { frames := 6, cells := 1, slots := 6, locals := 90 }
set_option maxHeartbeats 4000000 in
set_option maxRecDepth 100000 in
theorem klX1_sample_4 {p : Program} {l : Launch} {e : Env} {s : State} {m : MethodId} {args : Array Value} {below : List Frame} {meth : Method} {c : Code} {cells slots : Nat} {Q : State → Prop} {D : va_G} {cB cI cL cBB cII cSh : ClassId} {A : Nat → Prop} (C0 : CallFix p m c prog_3_method_12_code 9 s args kwA kRX1) (hlocks : meth.locks = false) (hK : va_K D kCl (kb_T cB cI cL cBB cII cSh) s) (hN : kb_N s) (hA : ∀ q, s.heap.size ≤ q → A q) (hcR : cells ≤ krX1_sample.cells) (hsR : slots ≤ krX1_sample.slots) (h_this h_a1 : Nat) (a_this a_this_sponge : Nat → Nat) (n_a1 : Nat) (this_sponge_rate : Int32) (f_this_sponge_turns : Nat → Int32) (f_this_sponge_targets : Nat → Int32) (f_this_sponge_roundConstants : Nat → Int64) :
    ∀ (fuel : Nat) (x2p4 : Int32) (x3p4 : Int32) (f_a1p4 : Nat → Int32) (this_sponge_placep4 : Int32) (f_this_sponge_columnsp4 : Nat → Int64) (f_this_sponge_lanesp4 : Nat → Int64) (f_this_sponge_movedp4 : Nat → Int64) (f_this_threep4 : Nat → Int32) (r : Int32 × Int32 × (Nat → Int32) × Int32 × (Nat → Int64) × (Nat → Int64) × (Nat → Int64) × (Nat → Int32)), kb_w (fun u : Int32 × Int32 × (Nat → Int32) × Int32 × (Nat → Int64) × (Nat → Int64) × (Nat → Int64) × (Nat → Int32) => kSX1_sample_4 n_a1 this_sponge_rate f_this_sponge_turns f_this_sponge_targets f_this_sponge_roundConstants u.1 u.2.1 u.2.2.1 u.2.2.2.1 u.2.2.2.2.1 u.2.2.2.2.2.1 u.2.2.2.2.2.2.1 u.2.2.2.2.2.2.2) fuel (x2p4, x3p4, f_a1p4, this_sponge_placep4, f_this_sponge_columnsp4, f_this_sponge_lanesp4, f_this_sponge_movedp4, f_this_threep4) = some r → ∀ (H : Heap) (locs : List Loc) (ls : Array Slot), va_P D kCl (kWX1_sample cB cI cL cBB cII cSh h_this a_this a_this_sponge h_a1 n_a1 this_sponge_rate this_sponge_placep4 f_this_sponge_lanesp4 f_this_sponge_movedp4 f_this_sponge_columnsp4 f_this_sponge_turns f_this_sponge_targets f_this_sponge_roundConstants f_this_threep4 f_a1p4) H → va_D A (kWX1_sample cB cI cL cBB cII cSh h_this a_this a_this_sponge h_a1 n_a1 this_sponge_rate this_sponge_placep4 f_this_sponge_lanesp4 f_this_sponge_movedp4 f_this_sponge_columnsp4 f_this_sponge_turns f_this_sponge_targets f_this_sponge_roundConstants f_this_threep4 f_a1p4) → va_S A s.heap H locs → lv_has ls 9 [(0, .ref h_this), (1, .ref h_a1), (2, .int x2p4), (3, .int x3p4)] → (∀ (x2p4' : Int32) (x3p4' : Int32) (f_a1p4' : Nat → Int32) (this_sponge_placep4' : Int32) (f_this_sponge_columnsp4' : Nat → Int64) (f_this_sponge_lanesp4' : Nat → Int64) (f_this_sponge_movedp4' : Nat → Int64) (f_this_threep4' : Nat → Int32), r = (x2p4', x3p4', f_a1p4', this_sponge_placep4', f_this_sponge_columnsp4', f_this_sponge_lanesp4', f_this_sponge_movedp4', f_this_threep4') → ∀ (H : Heap) (locs : List Loc) (ls : Array Slot), va_P D kCl (kWX1_sample cB cI cL cBB cII cSh h_this a_this a_this_sponge h_a1 n_a1 this_sponge_rate this_sponge_placep4' f_this_sponge_lanesp4' f_this_sponge_movedp4' f_this_sponge_columnsp4' f_this_sponge_turns f_this_sponge_targets f_this_sponge_roundConstants f_this_threep4' f_a1p4') H → va_D A (kWX1_sample cB cI cL cBB cII cSh h_this a_this a_this_sponge h_a1 n_a1 this_sponge_rate this_sponge_placep4' f_this_sponge_lanesp4' f_this_sponge_movedp4' f_this_sponge_columnsp4' f_this_sponge_turns f_this_sponge_targets f_this_sponge_roundConstants f_this_threep4' f_a1p4') → va_S A s.heap H locs → lv_has ls 9 [(0, .ref h_this), (1, .ref h_a1), (2, .int x2p4'), (3, .int x3p4')] → W p l e krX1_sample s m args below meth c H locs cells slots Q (F0 m 139 ls [])) → W p l e krX1_sample s m args below meth c H locs cells slots Q (F0 m 4 ls []) := by
  obtain ⟨hx, hb, hml, hown, hts⟩ := id C0
  intro fuel
  induction fuel with
  | zero =>
    intro x2p4 x3p4 f_a1p4 this_sponge_placep4 f_this_sponge_columnsp4 f_this_sponge_lanesp4 f_this_sponge_movedp4 f_this_threep4 r h
    exact absurd h (kb_w_z _ _ _)
  | succ fuel ih =>
    intro x2p4 x3p4 f_a1p4 this_sponge_placep4 f_this_sponge_columnsp4 f_this_sponge_lanesp4 f_this_sponge_movedp4 f_this_threep4 r h H locs ls hP hD hS hl hk0
    obtain ⟨o, h, ho⟩ := kb_w_s h
    have h : kSX1_sample_4 n_a1 this_sponge_rate f_this_sponge_turns f_this_sponge_targets f_this_sponge_roundConstants x2p4 x3p4 f_a1p4 this_sponge_placep4 f_this_sponge_columnsp4 f_this_sponge_lanesp4 f_this_sponge_movedp4 f_this_threep4 = some o := h
    unfold kSX1_sample_4 at h
    refine lv_iload_n hx hb kdX1_sample_4 rfl (lv_at hl 3 rfl) ?_
    refine lv_sipush (v := 280) hx hb kdX1_sample_5 (by decide) ?_
    refine lv_icmp_ge (tgt := 139) hx hb kdX1_sample_8 (by decide) (fun c_1 => ?_) (fun c_1 => ?_)
    · have h := kb_b_t c_1 h
      obtain rfl := Option.some.inj h
      exact hk0 x2p4 x3p4 f_a1p4 this_sponge_placep4 f_this_sponge_columnsp4 f_this_sponge_lanesp4 f_this_sponge_movedp4 f_this_threep4 ho.symm _ _ _ hP hD hS (lv_sub hl [0, 1, 2, 3] rfl)
    · have h := kb_b_f c_1 h
      refine lv_iload_n hx hb kdX1_sample_11 rfl (lv_at hl 2 rfl) ?_
      refine lv_sipush (v := 256) hx hb kdX1_sample_12 (by decide) ?_
      refine lv_icmp_ge (tgt := 139) hx hb kdX1_sample_15 (by decide) (fun c_2 => ?_) (fun c_2 => ?_)
      · have h := kb_b_t c_2 h
        obtain rfl := Option.some.inj h
        exact hk0 x2p4 x3p4 f_a1p4 this_sponge_placep4 f_this_sponge_columnsp4 f_this_sponge_lanesp4 f_this_sponge_movedp4 f_this_threep4 ho.symm _ _ _ hP hD hS (lv_sub hl [0, 1, 2, 3] rfl)
      · have h := kb_b_f c_2 h
        refine lv_aload_n hx hb kdX1_sample_18 rfl (lv_at hl 0 rfl) ?_
        refine va_get (ci := 1) (v := .ref (a_this 0)) (C := kRX1) (T := kTX1) (N := 13) hx hb hts kinX1 hown hK hP 0 rfl rfl 0 (by decide) (hts _ km_119) (fun _ h9 => h9) rfl kdX1_sample_19 ?_
        refine lv_aload_n hx hb kdX1_sample_22 rfl (lv_at hl 0 rfl) ?_
        refine va_get (ci := 1) (v := .ref (a_this 7)) (C := kRX1) (T := kTX1) (N := 13) hx hb hts kinX1 hown hK hP 0 rfl rfl 7 (by decide) (hts _ km_126) (fun _ h9 => h9) rfl kdX1_sample_23 ?_
        refine lv_iconst (v := 0) hx hb kdX1_sample_26 (by decide) ?_
        refine lv_iconst (v := 3) hx hb kdX1_sample_27 (by decide) ?_
        obtain ⟨u_8, hu_8, h⟩ := kb_o_s h
        obtain ⟨w_3, f_4, f_5, f_6, f_7⟩ := u_8
        have hC := (show ([1, 2, 3, 4, 5, 6, 7, 8] : List Nat).map (fun i : Nat => (kWX1_sample cB cI cL cBB cII cSh h_this a_this a_this_sponge h_a1 n_a1 this_sponge_rate this_sponge_placep4 f_this_sponge_lanesp4 f_this_sponge_movedp4 f_this_sponge_columnsp4 f_this_sponge_turns f_this_sponge_targets f_this_sponge_roundConstants f_this_threep4 f_a1p4)[i]?) = List.map some (kWX4_give cB cI cL cBB cII cSh (a_this 0) a_this_sponge (a_this 7) 3 this_sponge_rate this_sponge_placep4 f_this_sponge_lanesp4 f_this_sponge_movedp4 f_this_sponge_columnsp4 f_this_sponge_turns f_this_sponge_targets f_this_sponge_roundConstants f_this_threep4) from rfl)
        have hPc := kb_Psub hP ([1, 2, 3, 4, 5, 6, 7, 8] : List Nat) hC
        have hDc := kb_Dsub hD ([1, 2, 3, 4, 5, 6, 7, 8] : List Nat) hC (by simp [kb_nd])
        refine kb_call0 (va_runV (As := [.ref (a_this 7), .int (0 : Int32), .int (3 : Int32)]) (rest := []) C0 (kcX4_give l D cB cI cL cBB cII cSh (a_this 0) (a_this 7) a_this_sponge _ (0 : Int32) (3 : Int32) 3 this_sponge_rate this_sponge_placep4 f_this_sponge_lanesp4 f_this_sponge_movedp4 f_this_sponge_columnsp4 f_this_sponge_turns f_this_sponge_targets f_this_sponge_roundConstants f_this_threep4 (w_3, f_4, f_5, f_6, f_7) hu_8) (cwV 3 hts (kb_gV km_405 km_406 km_407 km_4 km_408) rfl rfl rfl (by decide +kernel) ⟨Nat.le_of_ble_eq_true rfl, Nat.le_of_ble_eq_true rfl⟩) ⟨kb_P_bl, va_recv hK hP (ci := 4) (q0 := 1) rfl rfl, (fun U hU hW => ⟨rfl, by rw [hU], by rw [hU]; exact hPc, va_K.moved hW.alike hK, kb_N_to hW hN, hDc.weaken (fun _ _ _ _ => trivial)⟩)⟩ rfl rfl hl.1 rfl (lv_room (Nat.le_of_ble_eq_true rfl)) kdX1_sample_28 ⟨hcR, hsR⟩) hP hD hS hA ([1, 2, 3, 4, 5, 6, 7, 8] : List Nat) hC rfl (fun H locs hP hD hS => ?_)
        have hP : va_P D kCl (kWX1_sample cB cI cL cBB cII cSh h_this a_this a_this_sponge h_a1 n_a1 this_sponge_rate w_3 f_4 f_5 f_6 f_this_sponge_turns f_this_sponge_targets f_this_sponge_roundConstants f_7 f_a1p4) H := hP
        have hD : va_D A (kWX1_sample cB cI cL cBB cII cSh h_this a_this a_this_sponge h_a1 n_a1 this_sponge_rate w_3 f_4 f_5 f_6 f_this_sponge_turns f_this_sponge_targets f_this_sponge_roundConstants f_7 f_a1p4) := hD
        refine lv_aload_n hx hb kdX1_sample_31 rfl (lv_at hl 0 rfl) ?_
        refine va_get (ci := 1) (v := .ref (a_this 7)) (C := kRX1) (T := kTX1) (N := 13) hx hb hts kinX1 hown hK hP 0 rfl rfl 7 (by decide) (hts _ km_126) (fun _ h9 => h9) rfl kdX1_sample_32 ?_
        refine lv_iconst (v := 0) hx hb kdX1_sample_35 (by decide) ?_
        refine va_bald hx hb hK hP 8 0 rfl rfl (kb_in_v (by decide)) kdX1_sample_36 ?_
        refine lv_sipush (v := 255) hx hb kdX1_sample_37 (by decide) ?_
        refine lv_iand hx hb kdX1_sample_40 ?_
        refine lv_topi (fun x4_9 ex4_9 => ?_)
        have h := kb_n_s ex4_9 h
        refine lv_istore (lv' := [(4, .int x4_9), (0, .ref h_this), (1, .ref h_a1), (2, .int x2p4), (3, .int x3p4)]) hx hb kdX1_sample_41 hl (by decide) rfl (fun ls hl => ?_)
        refine lv_aload_n hx hb kdX1_sample_43 rfl (lv_at hl 1 rfl) ?_
        refine va_get (ci := 1) (v := .ref (a_this 7)) (C := kRX1) (T := kTX1) (N := 13) hx hb hts kinX1 hown hK hP 0 rfl rfl 7 (by decide) (hts _ km_126) (fun _ h9 => h9) rfl kdX1_sample_44 ?_
        refine lv_iconst (v := 1) hx hb kdX1_sample_47 (by decide) ?_
        refine va_bald hx hb hK hP 8 0 rfl rfl (kb_in_v (by decide)) kdX1_sample_48 ?_
        refine lv_sipush (v := 255) hx hb kdX1_sample_49 (by decide) ?_
        refine lv_iand hx hb kdX1_sample_52 ?_
        refine lv_topi (fun x5_10 ex5_10 => ?_)
        have h := kb_n_s ex5_10 h
        refine lv_istore (lv' := [(5, .int x5_10), (4, .int x4_9), (0, .ref h_this), (1, .ref h_a1), (2, .int x2p4), (3, .int x3p4)]) hx hb kdX1_sample_53 hl (by decide) rfl (fun ls hl => ?_)
        refine lv_aload_n hx hb kdX1_sample_55 rfl (lv_at hl 2 rfl) ?_
        refine va_get (ci := 1) (v := .ref (a_this 7)) (C := kRX1) (T := kTX1) (N := 13) hx hb hts kinX1 hown hK hP 0 rfl rfl 7 (by decide) (hts _ km_126) (fun _ h9 => h9) rfl kdX1_sample_56 ?_
        refine lv_iconst (v := 2) hx hb kdX1_sample_59 (by decide) ?_
        refine va_bald hx hb hK hP 8 0 rfl rfl (kb_in_v (by decide)) kdX1_sample_60 ?_
        refine lv_sipush (v := 255) hx hb kdX1_sample_61 (by decide) ?_
        refine lv_iand hx hb kdX1_sample_64 ?_
        refine lv_topi (fun x6_11 ex6_11 => ?_)
        have h := kb_n_s ex6_11 h
        refine lv_istore (lv' := [(6, .int x6_11), (5, .int x5_10), (4, .int x4_9), (0, .ref h_this), (1, .ref h_a1), (2, .int x2p4), (3, .int x3p4)]) hx hb kdX1_sample_65 hl (by decide) rfl (fun ls hl => ?_)
        refine lv_iload hx hb kdX1_sample_67 (lv_at hl 2 rfl) ?_
        refine lv_sipush (v := 256) hx hb kdX1_sample_69 (by decide) ?_
        refine lv_iload hx hb kdX1_sample_72 (lv_at hl 1 rfl) ?_
        refine lv_bipush (v := 16) hx hb kdX1_sample_74 (by decide) ?_
        refine lv_irem hx hb kdX1_sample_76 (by decide) ?_
        refine lv_imul hx hb kdX1_sample_77 ?_
        refine lv_iadd hx hb kdX1_sample_78 ?_
        refine lv_topi (fun x7_12 ex7_12 => ?_)
        have h := kb_n_s ex7_12 h
        refine lv_istore (lv' := [(7, .int x7_12), (6, .int x6_11), (5, .int x5_10), (4, .int x4_9), (0, .ref h_this), (1, .ref h_a1), (2, .int x2p4), (3, .int x3p4)]) hx hb kdX1_sample_79 hl (by decide) rfl (fun ls hl => ?_)
        refine lv_iload hx hb kdX1_sample_81 (lv_at hl 2 rfl) ?_
        refine lv_bipush (v := 16) hx hb kdX1_sample_83 (by decide) ?_
        refine lv_idiv hx hb kdX1_sample_85 (by decide) ?_
        refine lv_bipush (v := 16) hx hb kdX1_sample_86 (by decide) ?_
        refine lv_iload hx hb kdX1_sample_88 (lv_at hl 1 rfl) ?_
        refine lv_imul hx hb kdX1_sample_90 ?_
        refine lv_iadd hx hb kdX1_sample_91 ?_
        refine lv_topi (fun x8_13 ex8_13 => ?_)
        have h := kb_n_s ex8_13 h
        refine lv_istore (lv' := [(8, .int x8_13), (7, .int x7_12), (6, .int x6_11), (5, .int x5_10), (4, .int x4_9), (0, .ref h_this), (1, .ref h_a1), (2, .int x2p4), (3, .int x3p4)]) hx hb kdX1_sample_92 hl (by decide) rfl (fun ls hl => ?_)
        refine lv_iload hx hb kdX1_sample_94 (lv_at hl 1 rfl) ?_
        refine lv_sipush (v := 3329) hx hb kdX1_sample_96 (by decide) ?_
        refine lv_icmp_ge (tgt := 110) hx hb kdX1_sample_99 (by decide) (fun c_14 => ?_) (fun c_14 => ?_)
        · have h := kb_b_t c_14 h
          refine lv_iload hx hb kdX1_sample_110 (lv_at hl 0 rfl) ?_
          refine lv_sipush (v := 3329) hx hb kdX1_sample_112 (by decide) ?_
          refine lv_icmp_ge (tgt := 133) hx hb kdX1_sample_115 (by decide) (fun c_15 => ?_) (fun c_15 => ?_)
          · have h := kb_b_t c_15 h
            obtain ⟨x3_16, ex3_16⟩ : ∃ y : Int32, y = x3p4 + Int32.ofInt 1 := ⟨_, rfl⟩
            have h := kb_n_s ex3_16 h
            refine lv_iinc (v := x3_16) (lv' := [(3, .int x3_16), (8, .int x8_13), (7, .int x7_12), (6, .int x6_11), (5, .int x5_10), (4, .int x4_9), (0, .ref h_this), (1, .ref h_a1), (2, .int x2p4)]) hx hb kdX1_sample_133 hl (k := 8) rfl ex3_16.symm (by decide) rfl (fun ls hl => ?_)
            refine lv_goto (tgt := 4) hx hb kdX1_sample_136 (by decide) ?_
            obtain rfl := Option.some.inj h
            exact ih x2p4 x3_16 f_a1p4 w_3 f_6 f_4 f_5 f_7 r ho _ _ _ hP hD hS (lv_sub hl [6, 7, 8, 0] rfl) hk0
          · have h := kb_b_f c_15 h
            refine lv_iload_n hx hb kdX1_sample_118 rfl (lv_at hl 7 rfl) ?_
            refine lv_sipush (v := 256) hx hb kdX1_sample_119 (by decide) ?_
            refine lv_icmp_ge (tgt := 133) hx hb kdX1_sample_122 (by decide) (fun c_17 => ?_) (fun c_17 => ?_)
            · have h := kb_b_t c_17 h
              obtain ⟨x3_18, ex3_18⟩ : ∃ y : Int32, y = x3p4 + Int32.ofInt 1 := ⟨_, rfl⟩
              have h := kb_n_s ex3_18 h
              refine lv_iinc (v := x3_18) (lv' := [(3, .int x3_18), (8, .int x8_13), (7, .int x7_12), (6, .int x6_11), (5, .int x5_10), (4, .int x4_9), (0, .ref h_this), (1, .ref h_a1), (2, .int x2p4)]) hx hb kdX1_sample_133 hl (k := 8) rfl ex3_18.symm (by decide) rfl (fun ls hl => ?_)
              refine lv_goto (tgt := 4) hx hb kdX1_sample_136 (by decide) ?_
              obtain rfl := Option.some.inj h
              exact ih x2p4 x3_18 f_a1p4 w_3 f_6 f_4 f_5 f_7 r ho _ _ _ hP hD hS (lv_sub hl [6, 7, 8, 0] rfl) hk0
            · have h := kb_b_f c_17 h
              refine lv_aload_n hx hb kdX1_sample_125 rfl (lv_at hl 6 rfl) ?_
              refine lv_iload_n hx hb kdX1_sample_126 rfl (lv_at hl 7 rfl) ?_
              refine lv_iload hx hb kdX1_sample_127 (lv_at hl 0 rfl) ?_
              obtain ⟨g_19, h⟩ := kb_g_s h
              refine va_iast hx hb hK hP hD hS 9 1 rfl rfl (kb_in_v g_19) kdX1_sample_129 (fun H locs hP hD hS => ?_)
              obtain ⟨f_20, ef_20⟩ : ∃ y, y = upd f_a1p4 x2p4.toNatClampNeg x8_13 := ⟨_, rfl⟩
              have h := kb_n_s ef_20 h
              have hP : va_P D kCl (kWX1_sample cB cI cL cBB cII cSh h_this a_this a_this_sponge h_a1 n_a1 this_sponge_rate w_3 f_4 f_5 f_6 f_this_sponge_turns f_this_sponge_targets f_this_sponge_roundConstants f_7 f_20) H := by rw [ef_20]; exact hP
              have hD : va_D A (kWX1_sample cB cI cL cBB cII cSh h_this a_this a_this_sponge h_a1 n_a1 this_sponge_rate w_3 f_4 f_5 f_6 f_this_sponge_turns f_this_sponge_targets f_this_sponge_roundConstants f_7 f_20) := by rw [ef_20]; exact hD
              obtain ⟨x2_21, ex2_21⟩ : ∃ y : Int32, y = x2p4 + Int32.ofInt 1 := ⟨_, rfl⟩
              have h := kb_n_s ex2_21 h
              refine lv_iinc (v := x2_21) (lv' := [(2, .int x2_21), (8, .int x8_13), (7, .int x7_12), (6, .int x6_11), (5, .int x5_10), (4, .int x4_9), (0, .ref h_this), (1, .ref h_a1), (3, .int x3p4)]) hx hb kdX1_sample_130 hl (k := 7) rfl ex2_21.symm (by decide) rfl (fun ls hl => ?_)
              obtain ⟨x3_22, ex3_22⟩ : ∃ y : Int32, y = x3p4 + Int32.ofInt 1 := ⟨_, rfl⟩
              have h := kb_n_s ex3_22 h
              refine lv_iinc (v := x3_22) (lv' := [(3, .int x3_22), (2, .int x2_21), (8, .int x8_13), (7, .int x7_12), (6, .int x6_11), (5, .int x5_10), (4, .int x4_9), (0, .ref h_this), (1, .ref h_a1)]) hx hb kdX1_sample_133 hl (k := 8) rfl ex3_22.symm (by decide) rfl (fun ls hl => ?_)
              refine lv_goto (tgt := 4) hx hb kdX1_sample_136 (by decide) ?_
              obtain rfl := Option.some.inj h
              exact ih x2_21 x3_22 f_20 w_3 f_6 f_4 f_5 f_7 r ho _ _ _ hP hD hS (lv_sub hl [7, 8, 1, 0] rfl) hk0
        · have h := kb_b_f c_14 h
          refine lv_aload_n hx hb kdX1_sample_102 rfl (lv_at hl 6 rfl) ?_
          refine lv_iload_n hx hb kdX1_sample_103 rfl (lv_at hl 7 rfl) ?_
          refine lv_iload hx hb kdX1_sample_104 (lv_at hl 1 rfl) ?_
          obtain ⟨g_23, h⟩ := kb_g_s h
          refine va_iast hx hb hK hP hD hS 9 1 rfl rfl (kb_in_v g_23) kdX1_sample_106 (fun H locs hP hD hS => ?_)
          obtain ⟨f_24, ef_24⟩ : ∃ y, y = upd f_a1p4 x2p4.toNatClampNeg x7_12 := ⟨_, rfl⟩
          have h := kb_n_s ef_24 h
          have hP : va_P D kCl (kWX1_sample cB cI cL cBB cII cSh h_this a_this a_this_sponge h_a1 n_a1 this_sponge_rate w_3 f_4 f_5 f_6 f_this_sponge_turns f_this_sponge_targets f_this_sponge_roundConstants f_7 f_24) H := by rw [ef_24]; exact hP
          have hD : va_D A (kWX1_sample cB cI cL cBB cII cSh h_this a_this a_this_sponge h_a1 n_a1 this_sponge_rate w_3 f_4 f_5 f_6 f_this_sponge_turns f_this_sponge_targets f_this_sponge_roundConstants f_7 f_24) := by rw [ef_24]; exact hD
          obtain ⟨x2_25, ex2_25⟩ : ∃ y : Int32, y = x2p4 + Int32.ofInt 1 := ⟨_, rfl⟩
          have h := kb_n_s ex2_25 h
          refine lv_iinc (v := x2_25) (lv' := [(2, .int x2_25), (8, .int x8_13), (7, .int x7_12), (6, .int x6_11), (5, .int x5_10), (4, .int x4_9), (0, .ref h_this), (1, .ref h_a1), (3, .int x3p4)]) hx hb kdX1_sample_107 hl (k := 7) rfl ex2_25.symm (by decide) rfl (fun ls hl => ?_)
          refine lv_iload hx hb kdX1_sample_110 (lv_at hl 1 rfl) ?_
          refine lv_sipush (v := 3329) hx hb kdX1_sample_112 (by decide) ?_
          refine lv_icmp_ge (tgt := 133) hx hb kdX1_sample_115 (by decide) (fun c_26 => ?_) (fun c_26 => ?_)
          · have h := kb_b_t c_26 h
            obtain ⟨x3_27, ex3_27⟩ : ∃ y : Int32, y = x3p4 + Int32.ofInt 1 := ⟨_, rfl⟩
            have h := kb_n_s ex3_27 h
            refine lv_iinc (v := x3_27) (lv' := [(3, .int x3_27), (2, .int x2_25), (8, .int x8_13), (7, .int x7_12), (6, .int x6_11), (5, .int x5_10), (4, .int x4_9), (0, .ref h_this), (1, .ref h_a1)]) hx hb kdX1_sample_133 hl (k := 8) rfl ex3_27.symm (by decide) rfl (fun ls hl => ?_)
            refine lv_goto (tgt := 4) hx hb kdX1_sample_136 (by decide) ?_
            obtain rfl := Option.some.inj h
            exact ih x2_25 x3_27 f_24 w_3 f_6 f_4 f_5 f_7 r ho _ _ _ hP hD hS (lv_sub hl [7, 8, 1, 0] rfl) hk0
          · have h := kb_b_f c_26 h
            refine lv_iload_n hx hb kdX1_sample_118 rfl (lv_at hl 0 rfl) ?_
            refine lv_sipush (v := 256) hx hb kdX1_sample_119 (by decide) ?_
            refine lv_icmp_ge (tgt := 133) hx hb kdX1_sample_122 (by decide) (fun c_28 => ?_) (fun c_28 => ?_)
            · have h := kb_b_t c_28 h
              obtain ⟨x3_29, ex3_29⟩ : ∃ y : Int32, y = x3p4 + Int32.ofInt 1 := ⟨_, rfl⟩
              have h := kb_n_s ex3_29 h
              refine lv_iinc (v := x3_29) (lv' := [(3, .int x3_29), (2, .int x2_25), (8, .int x8_13), (7, .int x7_12), (6, .int x6_11), (5, .int x5_10), (4, .int x4_9), (0, .ref h_this), (1, .ref h_a1)]) hx hb kdX1_sample_133 hl (k := 8) rfl ex3_29.symm (by decide) rfl (fun ls hl => ?_)
              refine lv_goto (tgt := 4) hx hb kdX1_sample_136 (by decide) ?_
              obtain rfl := Option.some.inj h
              exact ih x2_25 x3_29 f_24 w_3 f_6 f_4 f_5 f_7 r ho _ _ _ hP hD hS (lv_sub hl [7, 8, 1, 0] rfl) hk0
            · have h := kb_b_f c_28 h
              refine lv_aload_n hx hb kdX1_sample_125 rfl (lv_at hl 7 rfl) ?_
              refine lv_iload_n hx hb kdX1_sample_126 rfl (lv_at hl 0 rfl) ?_
              refine lv_iload hx hb kdX1_sample_127 (lv_at hl 1 rfl) ?_
              obtain ⟨g_30, h⟩ := kb_g_s h
              refine va_iast hx hb hK hP hD hS 9 1 rfl rfl (kb_in_v g_30) kdX1_sample_129 (fun H locs hP hD hS => ?_)
              obtain ⟨f_31, ef_31⟩ : ∃ y, y = upd f_24 x2_25.toNatClampNeg x8_13 := ⟨_, rfl⟩
              have h := kb_n_s ef_31 h
              have hP : va_P D kCl (kWX1_sample cB cI cL cBB cII cSh h_this a_this a_this_sponge h_a1 n_a1 this_sponge_rate w_3 f_4 f_5 f_6 f_this_sponge_turns f_this_sponge_targets f_this_sponge_roundConstants f_7 f_31) H := by rw [ef_31]; exact hP
              have hD : va_D A (kWX1_sample cB cI cL cBB cII cSh h_this a_this a_this_sponge h_a1 n_a1 this_sponge_rate w_3 f_4 f_5 f_6 f_this_sponge_turns f_this_sponge_targets f_this_sponge_roundConstants f_7 f_31) := by rw [ef_31]; exact hD
              obtain ⟨x2_32, ex2_32⟩ : ∃ y : Int32, y = x2_25 + Int32.ofInt 1 := ⟨_, rfl⟩
              have h := kb_n_s ex2_32 h
              refine lv_iinc (v := x2_32) (lv' := [(2, .int x2_32), (8, .int x8_13), (7, .int x7_12), (6, .int x6_11), (5, .int x5_10), (4, .int x4_9), (0, .ref h_this), (1, .ref h_a1), (3, .int x3p4)]) hx hb kdX1_sample_130 hl (k := 0) rfl ex2_32.symm (by decide) rfl (fun ls hl => ?_)
              obtain ⟨x3_33, ex3_33⟩ : ∃ y : Int32, y = x3p4 + Int32.ofInt 1 := ⟨_, rfl⟩
              have h := kb_n_s ex3_33 h
              refine lv_iinc (v := x3_33) (lv' := [(3, .int x3_33), (2, .int x2_32), (8, .int x8_13), (7, .int x7_12), (6, .int x6_11), (5, .int x5_10), (4, .int x4_9), (0, .ref h_this), (1, .ref h_a1)]) hx hb kdX1_sample_133 hl (k := 8) rfl ex3_33.symm (by decide) rfl (fun ls hl => ?_)
              refine lv_goto (tgt := 4) hx hb kdX1_sample_136 (by decide) ?_
              obtain rfl := Option.some.inj h
              exact ih x2_32 x3_33 f_31 w_3 f_6 f_4 f_5 f_7 r ho _ _ _ hP hD hS (lv_sub hl [7, 8, 1, 0] rfl) hk0
set_option maxHeartbeats 4000000 in
set_option maxRecDepth 100000 in
theorem kcX1_sample (l : Launch) (hl9 : l.stackTraces = false) (D : va_G) (cB cI cL cBB cII cSh : ClassId) (h_this h_a1 : Nat) (a_this a_this_sponge : Nat → Nat) (sz : Nat) (n_a1 : Nat) (this_sponge_rate : Int32) (this_sponge_place : Int32) (f_this_sponge_lanes : Nat → Int64) (f_this_sponge_moved : Nat → Int64) (f_this_sponge_columns : Nat → Int64) (f_this_sponge_turns : Nat → Int32) (f_this_sponge_targets : Nat → Int32) (f_this_sponge_roundConstants : Nat → Int64) (f_this_three : Nat → Int32) (f_a1 : Nat → Int32) (out : (Int32 × (Nat → Int64) × (Nat → Int64) × (Nat → Int64) × (Nat → Int32) × (Nat → Int32)) ⊕ (String × (Int32 × (Nat → Int64) × (Nat → Int64) × (Nat → Int64) × (Nat → Int32) × (Nat → Int32)))) (h : kFX1_sample n_a1 this_sponge_rate this_sponge_place f_this_sponge_lanes f_this_sponge_moved f_this_sponge_columns f_this_sponge_turns f_this_sponge_targets f_this_sponge_roundConstants f_this_three f_a1 = some out) : vx_Met l kyX1_sample kwX1_sample krX1_sample (kb_PX D kCl (kb_T cB cI cL cBB cII cSh) [.ref h_this, .ref h_a1] (kWX1_sample cB cI cL cBB cII cSh h_this a_this a_this_sponge h_a1 n_a1 this_sponge_rate this_sponge_place f_this_sponge_lanes f_this_sponge_moved f_this_sponge_columns f_this_sponge_turns f_this_sponge_targets f_this_sponge_roundConstants f_this_three f_a1) sz) (kb_QX D kCl (kb_T cB cI cL cBB cII cSh) (va_A (kWX1_sample cB cI cL cBB cII cSh h_this a_this a_this_sponge h_a1 n_a1 this_sponge_rate this_sponge_place f_this_sponge_lanes f_this_sponge_moved f_this_sponge_columns f_this_sponge_turns f_this_sponge_targets f_this_sponge_roundConstants f_this_three f_a1) sz) out (fun o => none) (fun o => (kWX1_sample cB cI cL cBB cII cSh h_this a_this a_this_sponge h_a1 n_a1 this_sponge_rate o.1 o.2.1 o.2.2.1 o.2.2.2.1 f_this_sponge_turns f_this_sponge_targets f_this_sponge_roundConstants o.2.2.2.2.1 o.2.2.2.2.2))) (kb_XX D kCl (kb_T cB cI cL cBB cII cSh) (va_A (kWX1_sample cB cI cL cBB cII cSh h_this a_this a_this_sponge h_a1 n_a1 this_sponge_rate this_sponge_place f_this_sponge_lanes f_this_sponge_moved f_this_sponge_columns f_this_sponge_turns f_this_sponge_targets f_this_sponge_roundConstants f_this_three f_a1) sz) out (fun x => (kWX1_sample cB cI cL cBB cII cSh h_this a_this a_this_sponge h_a1 n_a1 this_sponge_rate x.1 x.2.1 x.2.2.1 x.2.2.2.1 f_this_sponge_turns f_this_sponge_targets f_this_sponge_roundConstants x.2.2.2.2.1 x.2.2.2.2.2))) 1 6 (va_A (kWX1_sample cB cI cL cBB cII cSh h_this a_this a_this_sponge h_a1 n_a1 this_sponge_rate this_sponge_place f_this_sponge_lanes f_this_sponge_moved f_this_sponge_columns f_this_sponge_turns f_this_sponge_targets f_this_sponge_roundConstants f_this_three f_a1) sz) := by
  refine vx_ofW (cc := prog_3_method_12_code) (maxL := 9) (ret := none) (by decide) rfl ?_
  intro p e s m args below meth c s₁ B hml hno hv
  obtain ⟨⟨rfl, hsz, hP, hK, hN, hD0⟩, hZ⟩ := hv
  have hx := B.exec
  have hb := B.bytes
  have hr := B.returns
  have hts0 := atoms_spec (ws := kwX1_sample) B.pre
  have hts : ∀ w ∈ kwA, w.before _ s = true := fun w h => hts0 w (List.mem_cons_of_mem _ h)
  have hown : s.vm.findClass kRX1 = some m.cls := findClass_of_methodNamed B.named
  have hlocks := B.notSynchronized
  subst hsz
  have hD := hD0.self (sz := s.heap.size)
  generalize hAe : va_A (kWX1_sample cB cI cL cBB cII cSh h_this a_this a_this_sponge h_a1 n_a1 this_sponge_rate this_sponge_place f_this_sponge_lanes f_this_sponge_moved f_this_sponge_columns f_this_sponge_turns f_this_sponge_targets f_this_sponge_roundConstants f_this_three f_a1) s.heap.size = A at hD hZ ⊢
  have hA : ∀ q : Nat, s.heap.size ≤ q → A q := fun q h => by rw [← hAe]; exact Or.inr h
  have hS : va_S A s.heap s.heap [] := va_S.rf
  have C0 : CallFix p m c prog_3_method_12_code 9 s _ kwA kRX1 := ⟨hx, hb, hml, hown, hts⟩
  have hl := lv_entry ([.ref h_this, .ref h_a1]) (n := 9) (Nat.le_of_ble_eq_true rfl)
  rw [lg_entry_eq]
  generalize (lg_sl ([.ref h_this, .ref h_a1]) ++ List.replicate (9 - (lg_sl ([.ref h_this, .ref h_a1])).length) Slot.unset).toArray = ls at hl ⊢
  have hl : lv_has ls 9 [(0, .ref h_this), (1, .ref h_a1)] := hl
  unfold kFX1_sample at h
  refine lv_iconst (v := 0) hx hb kdX1_sample_0 (by decide) ?_
  refine lv_istore_n (lv' := [(2, .int (0 : Int32)), (0, .ref h_this), (1, .ref h_a1)]) hx hb kdX1_sample_1 rfl hl (by decide) rfl (fun ls hl => ?_)
  refine lv_iconst (v := 0) hx hb kdX1_sample_2 (by decide) ?_
  refine lv_istore_n (lv' := [(3, .int (0 : Int32)), (2, .int (0 : Int32)), (0, .ref h_this), (1, .ref h_a1)]) hx hb kdX1_sample_3 rfl hl (by decide) rfl (fun ls hl => ?_)
  obtain ⟨r_43, hr_43, h⟩ := kb_o_s h
  refine klX1_sample_4 C0 hlocks hK hN hA (by decide) (by decide) h_this h_a1 a_this a_this_sponge n_a1 this_sponge_rate f_this_sponge_turns f_this_sponge_targets f_this_sponge_roundConstants 100000 (0 : Int32) (0 : Int32) f_a1 this_sponge_place f_this_sponge_columns f_this_sponge_lanes f_this_sponge_moved f_this_three r_43 hr_43 _ _ _ hP hD hS (lv_sub hl [2, 3, 1, 0] rfl) (fun x2p4_34 x3p4_35 f_a1p4_36 this_sponge_placep4_37 f_this_sponge_columnsp4_38 f_this_sponge_lanesp4_39 f_this_sponge_movedp4_40 f_this_threep4_41 er_43 H locs ls hP hD hS hl => ?_)
  subst er_43
  refine lv_iload_n hx hb kdX1_sample_139 rfl (lv_at hl 2 rfl) ?_
  refine lv_sipush (v := 256) hx hb kdX1_sample_140 (by decide) ?_
  refine lv_icmp_ge (tgt := 156) hx hb kdX1_sample_143 (by decide) (fun c_42 => ?_) (fun c_42 => ?_)
  · have h := kb_b_t c_42 h
    obtain rfl := Option.some.inj h
    refine vx_ret ?_
    refine W.widen (k := 1) (n := 6) (by decide) (by decide) ?_
    exact W.vret hx hb hr (fun t ht hW => ⟨_, rfl, ⟨rfl, by rw [ht]; exact hP, va_K.moved hW.alike hK, hD⟩, hS.F ht⟩) hS.2.2 kdX1_sample_156
  · have h := kb_b_f c_42 h
    obtain rfl := Option.some.inj h
    obtain ⟨sa, hZs⟩ := hZ.2.2 (kRX1, 200, "280 times three bytes are not enough") (by simp [kb_STR])
    exact vx_throwS (own := kRX1) (cls := "java/lang/ArithmeticException") (names := ["java/lang/RuntimeException", "java/lang/Exception"]) hx hb hl9 hown (by decide +kernel) (by decide +kernel) (hts _ km_417) (hts _ km_14) hZs (kb_hat hts hN (by decide +kernel)) (by decide +kernel) hZ.1 hZ.2.1 hS (hl.1.trans hml.symm) kdX1_sample_146 kdX1_sample_149 kdX1_sample_150 kdX1_sample_152 kdX1_sample_155 (fun x hx9 => (hno x hx9).elim) (Nat.le_of_ble_eq_true rfl) (Nat.le_of_ble_eq_true rfl) (by decide) (by decide) hlocks (fun t ha hsz hk => ⟨_, rfl, hP.kept (fun k q hq => hk q.1 (hP k q hq).lt), va_K.moved ha hK, hD, Nat.le_trans hS.1 hsz, fun q h1 h2 => (hk q (Nat.lt_of_lt_of_le h1 hS.1)).trans (hS.2.1 q h1 h2)⟩) hS.2.2 (by decide) (by decide)

-- 498.ModuleKem.Kem.fillWithNoise.lean.txt
abbrev kWX1_fillWithNoise (cB cI cL cBB cII cSh : ClassId) (h_this : Nat) (a_this : Nat → Nat) (a_this_sponge : Nat → Nat) (h_a1 : Nat) (n_a1 : Nat) (this_sponge_rate : Int32) (this_sponge_place : Int32) (f_this_sponge_lanes : Nat → Int64) (f_this_sponge_moved : Nat → Int64) (f_this_sponge_columns : Nat → Int64) (f_this_sponge_turns : Nat → Int32) (f_this_sponge_targets : Nat → Int32) (f_this_sponge_roundConstants : Nat → Int64) (f_this_counters : Nat → Int32) (f_this_noiseBytes : Nat → Int32) (f_this_seeds : Nat → Int32) (f_a1 : Nat → Int32) : va_W := [(h_this, koX1 a_this), ((a_this 0), koX4 a_this_sponge this_sponge_rate this_sponge_place), ((a_this_sponge 0), .inl (cL, 25, .inr (.inl f_this_sponge_lanes))), ((a_this_sponge 1), .inl (cL, 25, .inr (.inl f_this_sponge_moved))), ((a_this_sponge 2), .inl (cL, 5, .inr (.inl f_this_sponge_columns))), ((a_this_sponge 3), .inl (cI, 25, .inl f_this_sponge_turns)), ((a_this_sponge 4), .inl (cI, 25, .inl f_this_sponge_targets)), ((a_this_sponge 5), .inl (cL, 24, .inr (.inl f_this_sponge_roundConstants))), ((a_this 6), .inl (cB, 2, .inl f_this_counters)), ((a_this 8), .inl (cB, 192, .inl f_this_noiseBytes)), ((a_this 12), .inl (cB, 64, .inl f_this_seeds)), (h_a1, .inl (cI, n_a1, .inl f_a1))]
def krX1_fillWithNoise : Room := { frames := 2, cells := 0, slots := 0, locals := 56 }
set_option maxHeartbeats 4000000 in
set_option maxRecDepth 100000 in
theorem klX1_fillWithNoise_86 {p : Program} {l : Launch} {e : Env} {s : State} {m : MethodId} {args : Array Value} {below : List Frame} {meth : Method} {c : Code} {cells slots : Nat} {Q : State → Prop} {D : va_G} {cB cI cL cBB cII cSh : ClassId} {A : Nat → Prop} (C0 : CallFix p m c prog_3_method_14_code 7 s args kwA kRX1) (hlocks : meth.locks = false) (hK : va_K D kCl (kb_T cB cI cL cBB cII cSh) s) (hN : kb_N s) (hA : ∀ q, s.heap.size ≤ q → A q) (hcR : cells ≤ krX1_fillWithNoise.cells) (hsR : slots ≤ krX1_fillWithNoise.slots) (h_a1 h_this : Nat) (a_this a_this_sponge : Nat → Nat) (p2 : Int32) (n_a1 : Nat) (w_2 : Int32) (w_21 : Int32) (f_22 : Nat → Int64) (f_23 : Nat → Int64) (f_24 : Nat → Int64) (f_this_sponge_turns : Nat → Int32) (f_this_sponge_targets : Nat → Int32) (f_this_sponge_roundConstants : Nat → Int64) (f_10 : Nat → Int32) (f_25 : Nat → Int32) (f_this_seeds : Nat → Int32) :
    ∀ (fuel : Nat) (x4p86 : Int32) (f_a1p86 : Nat → Int32) (r : Int32 × (Nat → Int32)), kb_w (fun u : Int32 × (Nat → Int32) => kSX1_fillWithNoise_86 p2 n_a1 u.1 u.2) fuel (x4p86, f_a1p86) = some r → ∀ (H : Heap) (locs : List Loc) (ls : Array Slot), va_P D kCl (kWX1_fillWithNoise cB cI cL cBB cII cSh h_this a_this a_this_sponge h_a1 n_a1 w_2 w_21 f_22 f_23 f_24 f_this_sponge_turns f_this_sponge_targets f_this_sponge_roundConstants f_10 f_25 f_this_seeds f_a1p86) H → va_D A (kWX1_fillWithNoise cB cI cL cBB cII cSh h_this a_this a_this_sponge h_a1 n_a1 w_2 w_21 f_22 f_23 f_24 f_this_sponge_turns f_this_sponge_targets f_this_sponge_roundConstants f_10 f_25 f_this_seeds f_a1p86) → va_S A s.heap H locs → lv_has ls 7 [(1, .ref h_a1), (2, .int p2), (4, .int x4p86)] → (∀ (x4p86' : Int32) (f_a1p86' : Nat → Int32), r = (x4p86', f_a1p86') → ∀ (H : Heap) (locs : List Loc) (ls : Array Slot), va_P D kCl (kWX1_fillWithNoise cB cI cL cBB cII cSh h_this a_this a_this_sponge h_a1 n_a1 w_2 w_21 f_22 f_23 f_24 f_this_sponge_turns f_this_sponge_targets f_this_sponge_roundConstants f_10 f_25 f_this_seeds f_a1p86') H → va_D A (kWX1_fillWithNoise cB cI cL cBB cII cSh h_this a_this a_this_sponge h_a1 n_a1 w_2 w_21 f_22 f_23 f_24 f_this_sponge_turns f_this_sponge_targets f_this_sponge_roundConstants f_10 f_25 f_this_seeds f_a1p86') → va_S A s.heap H locs → lv_has ls 7 [(1, .ref h_a1), (2, .int p2), (4, .int x4p86')] → W p l e krX1_fillWithNoise s m args below meth c H locs cells slots Q (F0 m 143 ls [])) → W p l e krX1_fillWithNoise s m args below meth c H locs cells slots Q (F0 m 86 ls []) := by
  obtain ⟨hx, hb, hml, hown, hts⟩ := id C0
  intro fuel
  induction fuel with
  | zero =>
    intro x4p86 f_a1p86 r h
    exact absurd h (kb_w_z _ _ _)
  | succ fuel ih =>
    intro x4p86 f_a1p86 r h H locs ls hP hD hS hl hk0
    obtain ⟨o, h, ho⟩ := kb_w_s h
    have h : kSX1_fillWithNoise_86 p2 n_a1 x4p86 f_a1p86 = some o := h
    unfold kSX1_fillWithNoise_86 at h
    refine lv_iload hx hb kdX1_fillWithNoise_86 (lv_at hl 2 rfl) ?_
    refine lv_sipush (v := 256) hx hb kdX1_fillWithNoise_88 (by decide) ?_
    refine lv_icmp_ge (tgt := 143) hx hb kdX1_fillWithNoise_91 (by decide) (fun c_29 => ?_) (fun c_29 => ?_)
    · have h := kb_b_t c_29 h
      obtain rfl := Option.some.inj h
      exact hk0 x4p86 f_a1p86 ho.symm _ _ _ hP hD hS (lv_sub hl [0, 1, 2] rfl)
    · have h := kb_b_f c_29 h
      refine lv_aload_n hx hb kdX1_fillWithNoise_94 rfl (lv_at hl 0 rfl) ?_
      refine lv_iload hx hb kdX1_fillWithNoise_95 (lv_at hl 2 rfl) ?_
      obtain ⟨g_30, h⟩ := kb_g_s h
      refine va_iald hx hb hK hP 11 1 rfl rfl (kb_in_v g_30) kdX1_fillWithNoise_97 ?_
      refine lv_iconst (v := 1) hx hb kdX1_fillWithNoise_98 (by decide) ?_
      refine lv_iload_n hx hb kdX1_fillWithNoise_99 rfl (lv_at hl 1 rfl) ?_
      refine lv_ishl hx hb kdX1_fillWithNoise_100 ?_
      refine lv_iconst (v := 1) hx hb kdX1_fillWithNoise_101 (by decide) ?_
      refine lv_isub hx hb kdX1_fillWithNoise_102 ?_
      refine lv_iand hx hb kdX1_fillWithNoise_103 ?_
      obtain ⟨u_32, hu_32, h⟩ := kb_o_s h
      obtain ⟨r_31, rfl⟩ : ∃ z, z = u_32 := ⟨_, rfl⟩
      have hC := (show ([] : List Nat).map (fun i : Nat => (kWX1_fillWithNoise cB cI cL cBB cII cSh h_this a_this a_this_sponge h_a1 n_a1 w_2 w_21 f_22 f_23 f_24 f_this_sponge_turns f_this_sponge_targets f_this_sponge_roundConstants f_10 f_25 f_this_seeds f_a1p86)[i]?) = List.map some (kWX8_bitCount cB cI cL cBB cII cSh) from rfl)
      have hPc := kb_Psub hP ([] : List Nat) hC
      have hDc := kb_Dsub hD ([] : List Nat) hC (by simp [kb_nd])
      refine kb_call0 (va_runS (As := [.int ((f_a1p86 x4p86.toNatClampNeg) &&& (((1 : Int32) <<< (p2 &&& 31)) - (1 : Int32)))]) (rest := []) C0 (kcX8_bitCount l D cB cI cL cBB cII cSh  _ ((f_a1p86 x4p86.toNatClampNeg) &&& (((1 : Int32) <<< (p2 &&& 31)) - (1 : Int32))) r_31 hu_32) (va_cwS 1 hts (kb_gS km_444 km_445 km_16 km_446) rfl rfl rfl (by decide +kernel) ⟨Nat.le_of_ble_eq_true rfl, Nat.le_of_ble_eq_true rfl⟩) ⟨kb_P_bl, (fun U hU hW => ⟨rfl, by rw [hU], by rw [hU]; exact hPc, va_K.moved hW.alike hK, kb_N_to hW hN, hDc.weaken (fun _ _ _ _ => trivial)⟩)⟩ rfl rfl hl.1 rfl (lv_room (Nat.le_of_ble_eq_true rfl)) kdX1_fillWithNoise_104 ⟨hcR, hsR⟩) hP hD hS hA ([] : List Nat) hC rfl (fun H locs hP hD hS => ?_)
      have hP : va_P D kCl (kWX1_fillWithNoise cB cI cL cBB cII cSh h_this a_this a_this_sponge h_a1 n_a1 w_2 w_21 f_22 f_23 f_24 f_this_sponge_turns f_this_sponge_targets f_this_sponge_roundConstants f_10 f_25 f_this_seeds f_a1p86) H := hP
      have hD : va_D A (kWX1_fillWithNoise cB cI cL cBB cII cSh h_this a_this a_this_sponge h_a1 n_a1 w_2 w_21 f_22 f_23 f_24 f_this_sponge_turns f_this_sponge_targets f_this_sponge_roundConstants f_10 f_25 f_this_seeds f_a1p86) := hD
      refine lv_istore (lv' := [(5, .int r_31), (1, .ref h_a1), (2, .int p2), (4, .int x4p86)]) hx hb kdX1_fillWithNoise_107 hl (by decide) rfl (fun ls hl => ?_)
      refine lv_aload_n hx hb kdX1_fillWithNoise_109 rfl (lv_at hl 1 rfl) ?_
      refine lv_iload hx hb kdX1_fillWithNoise_110 (lv_at hl 3 rfl) ?_
      obtain ⟨g_33, h⟩ := kb_g_s h
      refine va_iald hx hb hK hP 11 1 rfl rfl (kb_in_v g_33) kdX1_fillWithNoise_112 ?_
      refine lv_iload_n hx hb kdX1_fillWithNoise_113 rfl (lv_at hl 2 rfl) ?_
      refine lv_ishr hx hb kdX1_fillWithNoise_114 ?_
      obtain ⟨u_35, hu_35, h⟩ := kb_o_s h
      obtain ⟨r_34, rfl⟩ : ∃ z, z = u_35 := ⟨_, rfl⟩
      have hC := (show ([] : List Nat).map (fun i : Nat => (kWX1_fillWithNoise cB cI cL cBB cII cSh h_this a_this a_this_sponge h_a1 n_a1 w_2 w_21 f_22 f_23 f_24 f_this_sponge_turns f_this_sponge_targets f_this_sponge_roundConstants f_10 f_25 f_this_seeds f_a1p86)[i]?) = List.map some (kWX8_bitCount cB cI cL cBB cII cSh) from rfl)
      have hPc := kb_Psub hP ([] : List Nat) hC
      have hDc := kb_Dsub hD ([] : List Nat) hC (by simp [kb_nd])
      refine kb_call0 (va_runS (As := [.int ((f_a1p86 x4p86.toNatClampNeg) >>> (p2 &&& 31))]) (rest := []) C0 (kcX8_bitCount l D cB cI cL cBB cII cSh  _ ((f_a1p86 x4p86.toNatClampNeg) >>> (p2 &&& 31)) r_34 hu_35) (va_cwS 1 hts (kb_gS km_444 km_445 km_16 km_446) rfl rfl rfl (by decide +kernel) ⟨Nat.le_of_ble_eq_true rfl, Nat.le_of_ble_eq_true rfl⟩) ⟨kb_P_bl, (fun U hU hW => ⟨rfl, by rw [hU], by rw [hU]; exact hPc, va_K.moved hW.alike hK, kb_N_to hW hN, hDc.weaken (fun _ _ _ _ => trivial)⟩)⟩ rfl rfl hl.1 rfl (lv_room (Nat.le_of_ble_eq_true rfl)) kdX1_fillWithNoise_115 ⟨hcR, hsR⟩) hP hD hS hA ([] : List Nat) hC rfl (fun H locs hP hD hS => ?_)
      have hP : va_P D kCl (kWX1_fillWithNoise cB cI cL cBB cII cSh h_this a_this a_this_sponge h_a1 n_a1 w_2 w_21 f_22 f_23 f_24 f_this_sponge_turns f_this_sponge_targets f_this_sponge_roundConstants f_10 f_25 f_this_seeds f_a1p86) H := hP
      have hD : va_D A (kWX1_fillWithNoise cB cI cL cBB cII cSh h_this a_this a_this_sponge h_a1 n_a1 w_2 w_21 f_22 f_23 f_24 f_this_sponge_turns f_this_sponge_targets f_this_sponge_roundConstants f_10 f_25 f_this_seeds f_a1p86) := hD
      refine lv_istore (lv' := [(6, .int r_34), (5, .int r_31), (1, .ref h_a1), (2, .int p2), (4, .int x4p86)]) hx hb kdX1_fillWithNoise_118 hl (by decide) rfl (fun ls hl => ?_)
      refine lv_aload_n hx hb kdX1_fillWithNoise_120 rfl (lv_at hl 2 rfl) ?_
      refine lv_iload hx hb kdX1_fillWithNoise_121 (lv_at hl 4 rfl) ?_
      refine lv_iload hx hb kdX1_fillWithNoise_123 (lv_at hl 1 rfl) ?_
      refine lv_sipush (v := 3329) hx hb kdX1_fillWithNoise_125 (by decide) ?_
      refine lv_iadd hx hb kdX1_fillWithNoise_128 ?_
      refine lv_iload hx hb kdX1_fillWithNoise_129 (lv_at hl 0 rfl) ?_
      refine lv_isub hx hb kdX1_fillWithNoise_131 ?_
      refine lv_sipush (v := 3329) hx hb kdX1_fillWithNoise_132 (by decide) ?_
      refine lv_irem hx hb kdX1_fillWithNoise_135 (by decide) ?_
      refine lv_topi (fun q_36 eq_36 => ?_)
      have h := kb_n_s eq_36 h
      obtain ⟨g_37, h⟩ := kb_g_s h
      refine va_iast hx hb hK hP hD hS 11 1 rfl rfl (kb_in_v g_37) kdX1_fillWithNoise_136 (fun H locs hP hD hS => ?_)
      obtain ⟨f_38, ef_38⟩ : ∃ y, y = upd f_a1p86 x4p86.toNatClampNeg q_36 := ⟨_, rfl⟩
      have h := kb_n_s ef_38 h
      have hP : va_P D kCl (kWX1_fillWithNoise cB cI cL cBB cII cSh h_this a_this a_this_sponge h_a1 n_a1 w_2 w_21 f_22 f_23 f_24 f_this_sponge_turns f_this_sponge_targets f_this_sponge_roundConstants f_10 f_25 f_this_seeds f_38) H := by rw [ef_38]; exact hP
      have hD : va_D A (kWX1_fillWithNoise cB cI cL cBB cII cSh h_this a_this a_this_sponge h_a1 n_a1 w_2 w_21 f_22 f_23 f_24 f_this_sponge_turns f_this_sponge_targets f_this_sponge_roundConstants f_10 f_25 f_this_seeds f_38) := by rw [ef_38]; exact hD
      obtain ⟨x4_39, ex4_39⟩ : ∃ y : Int32, y = x4p86 + Int32.ofInt 1 := ⟨_, rfl⟩
      have h := kb_n_s ex4_39 h
      refine lv_iinc (v := x4_39) (lv' := [(4, .int x4_39), (6, .int r_34), (5, .int r_31), (1, .ref h_a1), (2, .int p2)]) hx hb kdX1_fillWithNoise_137 hl (k := 4) rfl ex4_39.symm (by decide) rfl (fun ls hl => ?_)
      refine lv_goto (tgt := 86) hx hb kdX1_fillWithNoise_140 (by decide) ?_
      obtain rfl := Option.some.inj h
      exact ih x4_39 f_38 r ho _ _ _ hP hD hS (lv_sub hl [3, 4, 0] rfl) hk0
set_option maxHeartbeats 4000000 in
set_option maxRecDepth 100000 in
theorem kcX1_fillWithNoise (l : Launch) (D : va_G) (cB cI cL cBB cII cSh : ClassId) (h_this h_a1 : Nat) (a_this a_this_sponge : Nat → Nat) (sz : Nat) (p2 : Int32) (p3 : Int32) (n_a1 : Nat) (this_sponge_rate : Int32) (this_sponge_place : Int32) (f_this_sponge_lanes : Nat → Int64) (f_this_sponge_moved : Nat → Int64) (f_this_sponge_columns : Nat → Int64) (f_this_sponge_turns : Nat → Int32) (f_this_sponge_targets : Nat → Int32) (f_this_sponge_roundConstants : Nat → Int64) (f_this_counters : Nat → Int32) (f_this_noiseBytes : Nat → Int32) (f_this_seeds : Nat → Int32) (f_a1 : Nat → Int32) (out : Int32 × Int32 × (Nat → Int64) × (Nat → Int64) × (Nat → Int64) × (Nat → Int32) × (Nat → Int32) × (Nat → Int32)) (h : kFX1_fillWithNoise p2 p3 n_a1 f_this_sponge_lanes f_this_sponge_moved f_this_sponge_columns f_this_sponge_turns f_this_sponge_targets f_this_sponge_roundConstants f_this_counters f_this_noiseBytes f_this_seeds f_a1 = some out) : Met l kyX1_fillWithNoise kwX1_fillWithNoise krX1_fillWithNoise (kb_P D kCl (kb_T cB cI cL cBB cII cSh) [.ref h_this, .ref h_a1, .int p2, .int p3] (kWX1_fillWithNoise cB cI cL cBB cII cSh h_this a_this a_this_sponge h_a1 n_a1 this_sponge_rate this_sponge_place f_this_sponge_lanes f_this_sponge_moved f_this_sponge_columns f_this_sponge_turns f_this_sponge_targets f_this_sponge_roundConstants f_this_counters f_this_noiseBytes f_this_seeds f_a1) sz) (kb_Q D kCl (kb_T cB cI cL cBB cII cSh) (va_A (kWX1_fillWithNoise cB cI cL cBB cII cSh h_this a_this a_this_sponge h_a1 n_a1 this_sponge_rate this_sponge_place f_this_sponge_lanes f_this_sponge_moved f_this_sponge_columns f_this_sponge_turns f_this_sponge_targets f_this_sponge_roundConstants f_this_counters f_this_noiseBytes f_this_seeds f_a1) sz) none (kWX1_fillWithNoise cB cI cL cBB cII cSh h_this a_this a_this_sponge h_a1 n_a1 out.2.1 out.1 out.2.2.1 out.2.2.2.1 out.2.2.2.2.1 f_this_sponge_turns f_this_sponge_targets f_this_sponge_roundConstants out.2.2.2.2.2.1 out.2.2.2.2.2.2.1 f_this_seeds out.2.2.2.2.2.2.2)) 0 0 (va_A (kWX1_fillWithNoise cB cI cL cBB cII cSh h_this a_this a_this_sponge h_a1 n_a1 this_sponge_rate this_sponge_place f_this_sponge_lanes f_this_sponge_moved f_this_sponge_columns f_this_sponge_turns f_this_sponge_targets f_this_sponge_roundConstants f_this_counters f_this_noiseBytes f_this_seeds f_a1) sz) := by
  refine Met.ofW (cc := prog_3_method_14_code) (maxL := 7) (ret := none) (by decide) rfl ?_
  intro p e s m args below meth c s₁ B hml hv
  obtain ⟨rfl, hsz, hP, hK, hN, hD0⟩ := hv
  have hx := B.exec
  have hb := B.bytes
  have hr := B.returns
  have hts0 := atoms_spec (ws := kwX1_fillWithNoise) B.pre
  have hts : ∀ w ∈ kwA, w.before _ s = true := fun w h => hts0 w (List.mem_cons_of_mem _ h)
  have hown : s.vm.findClass kRX1 = some m.cls := findClass_of_methodNamed B.named
  have hlocks := B.notSynchronized
  subst hsz
  have hD := hD0.self (sz := s.heap.size)
  generalize hAe : va_A (kWX1_fillWithNoise cB cI cL cBB cII cSh h_this a_this a_this_sponge h_a1 n_a1 this_sponge_rate this_sponge_place f_this_sponge_lanes f_this_sponge_moved f_this_sponge_columns f_this_sponge_turns f_this_sponge_targets f_this_sponge_roundConstants f_this_counters f_this_noiseBytes f_this_seeds f_a1) s.heap.size = A at hD ⊢
  have hA : ∀ q : Nat, s.heap.size ≤ q → A q := fun q h => by rw [← hAe]; exact Or.inr h
  have hS : va_S A s.heap s.heap [] := va_S.rf
  have C0 : CallFix p m c prog_3_method_14_code 7 s _ kwA kRX1 := ⟨hx, hb, hml, hown, hts⟩
  have hl := lv_entry ([.ref h_this, .ref h_a1, .int p2, .int p3]) (n := 7) (Nat.le_of_ble_eq_true rfl)
  rw [lg_entry_eq]
  generalize (lg_sl ([.ref h_this, .ref h_a1, .int p2, .int p3]) ++ List.replicate (7 - (lg_sl ([.ref h_this, .ref h_a1, .int p2, .int p3])).length) Slot.unset).toArray = ls at hl ⊢
  have hl : lv_has ls 7 [(0, .ref h_this), (1, .ref h_a1), (2, .int p2), (3, .int p3)] := hl
  unfold kFX1_fillWithNoise at h
  refine lv_aload_n hx hb kdX1_fillWithNoise_0 rfl (lv_at hl 0 rfl) ?_
  refine va_get (ci := 1) (v := .ref (a_this 0)) (C := kRX1) (T := kTX1) (N := 13) hx hb hts kinX1 hown hK hP 0 rfl rfl 0 (by decide) (hts _ km_119) (fun _ h9 => h9) rfl kdX1_fillWithNoise_1 ?_
  refine lv_sipush (v := 136) hx hb kdX1_fillWithNoise_4 (by decide) ?_
  obtain ⟨u_4, hu_4, h⟩ := kb_o_s h
  obtain ⟨w_1, w_2, f_3⟩ := u_4
  have hC := (show ([1, 2] : List Nat).map (fun i : Nat => (kWX1_fillWithNoise cB cI cL cBB cII cSh h_this a_this a_this_sponge h_a1 n_a1 this_sponge_rate this_sponge_place f_this_sponge_lanes f_this_sponge_moved f_this_sponge_columns f_this_sponge_turns f_this_sponge_targets f_this_sponge_roundConstants f_this_counters f_this_noiseBytes f_this_seeds f_a1)[i]?) = List.map some (kWX4_start cB cI cL cBB cII cSh (a_this 0) a_this_sponge this_sponge_rate this_sponge_place f_this_sponge_lanes) from rfl)
  have hPc := kb_Psub hP ([1, 2] : List Nat) hC
  have hDc := kb_Dsub hD ([1, 2] : List Nat) hC (by simp [kb_nd])
  refine kb_call0 (va_runV (As := [.int (136 : Int32)]) (rest := []) C0 (kcX4_start l D cB cI cL cBB cII cSh (a_this 0) a_this_sponge _ (136 : Int32) this_sponge_rate this_sponge_place f_this_sponge_lanes (w_1, w_2, f_3) hu_4) (cwV 1 hts (kb_gV km_383 km_384 km_385 km_4 km_386) rfl rfl rfl (by decide +kernel) ⟨Nat.le_of_ble_eq_true rfl, Nat.le_of_ble_eq_true rfl⟩) ⟨kb_P_bl, va_recv hK hP (ci := 4) (q0 := 1) rfl rfl, (fun U hU hW => ⟨rfl, by rw [hU], by rw [hU]; exact hPc, va_K.moved hW.alike hK, kb_N_to hW hN, hDc.weaken (fun _ _ _ _ => trivial)⟩)⟩ rfl rfl hl.1 rfl (lv_room (Nat.le_of_ble_eq_true rfl)) kdX1_fillWithNoise_7 ⟨Nat.le_of_ble_eq_true rfl, Nat.le_of_ble_eq_true rfl⟩) hP hD hS hA ([1, 2] : List Nat) hC rfl (fun H locs hP hD hS => ?_)
  have hP : va_P D kCl (kWX1_fillWithNoise cB cI cL cBB cII cSh h_this a_this a_this_sponge h_a1 n_a1 w_2 w_1 f_3 f_this_sponge_moved f_this_sponge_columns f_this_sponge_turns f_this_sponge_targets f_this_sponge_roundConstants f_this_counters f_this_noiseBytes f_this_seeds f_a1) H := hP
  have hD : va_D A (kWX1_fillWithNoise cB cI cL cBB cII cSh h_this a_this a_this_sponge h_a1 n_a1 w_2 w_1 f_3 f_this_sponge_moved f_this_sponge_columns f_this_sponge_turns f_this_sponge_targets f_this_sponge_roundConstants f_this_counters f_this_noiseBytes f_this_seeds f_a1) := hD
  refine lv_aload_n hx hb kdX1_fillWithNoise_10 rfl (lv_at hl 0 rfl) ?_
  refine va_get (ci := 1) (v := .ref (a_this 0)) (C := kRX1) (T := kTX1) (N := 13) hx hb hts kinX1 hown hK hP 0 rfl rfl 0 (by decide) (hts _ km_119) (fun _ h9 => h9) rfl kdX1_fillWithNoise_11 ?_
  refine lv_aload_n hx hb kdX1_fillWithNoise_14 rfl (lv_at hl 0 rfl) ?_
  refine va_get (ci := 1) (v := .ref (a_this 12)) (C := kRX1) (T := kTX1) (N := 13) hx hb hts kinX1 hown hK hP 0 rfl rfl 12 (by decide) (hts _ km_131) (fun _ h9 => h9) rfl kdX1_fillWithNoise_15 ?_
  refine lv_bipush (v := 32) hx hb kdX1_fillWithNoise_18 (by decide) ?_
  refine lv_bipush (v := 32) hx hb kdX1_fillWithNoise_20 (by decide) ?_
  obtain ⟨u_9, hu_9, h⟩ := kb_o_s h
  obtain ⟨w_5, f_6, f_7, f_8⟩ := u_9
  have hC := (show ([1, 2, 3, 4, 5, 6, 7, 10] : List Nat).map (fun i : Nat => (kWX1_fillWithNoise cB cI cL cBB cII cSh h_this a_this a_this_sponge h_a1 n_a1 w_2 w_1 f_3 f_this_sponge_moved f_this_sponge_columns f_this_sponge_turns f_this_sponge_targets f_this_sponge_roundConstants f_this_counters f_this_noiseBytes f_this_seeds f_a1)[i]?) = List.map some (kWX4_take cB cI cL cBB cII cSh (a_this 0) a_this_sponge (a_this 12) 64 w_2 w_1 f_3 f_this_sponge_moved f_this_sponge_columns f_this_sponge_turns f_this_sponge_targets f_this_sponge_roundConstants f_this_seeds) from rfl)
  have hPc := kb_Psub hP ([1, 2, 3, 4, 5, 6, 7, 10] : List Nat) hC
  have hDc := kb_Dsub hD ([1, 2, 3, 4, 5, 6, 7, 10] : List Nat) hC (by simp [kb_nd])
  refine kb_call0 (va_runV (As := [.ref (a_this 12), .int (32 : Int32), .int (32 : Int32)]) (rest := []) C0 (kcX4_take l D cB cI cL cBB cII cSh (a_this 0) (a_this 12) a_this_sponge _ (32 : Int32) (32 : Int32) 64 w_2 w_1 f_3 f_this_sponge_moved f_this_sponge_columns f_this_sponge_turns f_this_sponge_targets f_this_sponge_roundConstants f_this_seeds (w_5, f_6, f_7, f_8) hu_9) (cwV 3 hts (kb_gV km_387 km_388 km_389 km_4 km_390) rfl rfl rfl (by decide +kernel) ⟨Nat.le_of_ble_eq_true rfl, Nat.le_of_ble_eq_true rfl⟩) ⟨kb_P_bl, va_recv hK hP (ci := 4) (q0 := 1) rfl rfl, (fun U hU hW => ⟨rfl, by rw [hU], by rw [hU]; exact hPc, va_K.moved hW.alike hK, kb_N_to hW hN, hDc.weaken (fun _ _ _ _ => trivial)⟩)⟩ rfl rfl hl.1 rfl (lv_room (Nat.le_of_ble_eq_true rfl)) kdX1_fillWithNoise_22 ⟨Nat.le_of_ble_eq_true rfl, Nat.le_of_ble_eq_true rfl⟩) hP hD hS hA ([1, 2, 3, 4, 5, 6, 7, 10] : List Nat) hC rfl (fun H locs hP hD hS => ?_)
  have hP : va_P D kCl (kWX1_fillWithNoise cB cI cL cBB cII cSh h_this a_this a_this_sponge h_a1 n_a1 w_2 w_5 f_6 f_7 f_8 f_this_sponge_turns f_this_sponge_targets f_this_sponge_roundConstants f_this_counters f_this_noiseBytes f_this_seeds f_a1) H := hP
  have hD : va_D A (kWX1_fillWithNoise cB cI cL cBB cII cSh h_this a_this a_this_sponge h_a1 n_a1 w_2 w_5 f_6 f_7 f_8 f_this_sponge_turns f_this_sponge_targets f_this_sponge_roundConstants f_this_counters f_this_noiseBytes f_this_seeds f_a1) := hD
  refine lv_aload_n hx hb kdX1_fillWithNoise_25 rfl (lv_at hl 0 rfl) ?_
  refine va_get (ci := 1) (v := .ref (a_this 6)) (C := kRX1) (T := kTX1) (N := 13) hx hb hts kinX1 hown hK hP 0 rfl rfl 6 (by decide) (hts _ km_125) (fun _ h9 => h9) rfl kdX1_fillWithNoise_26 ?_
  refine lv_iconst (v := 0) hx hb kdX1_fillWithNoise_29 (by decide) ?_
  refine lv_iload_n hx hb kdX1_fillWithNoise_30 rfl (lv_at hl 3 rfl) ?_
  refine lv_i2b (v := (p3.toInt8.toInt32)) hx hb kdX1_fillWithNoise_31 rfl ?_
  refine va_bast hx hb hK hP hD hS 8 0 rfl rfl (kb_in_v (by decide)) kdX1_fillWithNoise_32 (fun H locs hP hD hS => ?_)
  obtain ⟨f_10, ef_10⟩ : ∃ y, y = upd f_this_counters (0 : Int32).toNatClampNeg (vp_nar .byte (p3.toInt8.toInt32)) := ⟨_, rfl⟩
  have h := kb_n_s ef_10 h
  have hP : va_P D kCl (kWX1_fillWithNoise cB cI cL cBB cII cSh h_this a_this a_this_sponge h_a1 n_a1 w_2 w_5 f_6 f_7 f_8 f_this_sponge_turns f_this_sponge_targets f_this_sponge_roundConstants f_10 f_this_noiseBytes f_this_seeds f_a1) H := by rw [ef_10]; exact hP
  have hD : va_D A (kWX1_fillWithNoise cB cI cL cBB cII cSh h_this a_this a_this_sponge h_a1 n_a1 w_2 w_5 f_6 f_7 f_8 f_this_sponge_turns f_this_sponge_targets f_this_sponge_roundConstants f_10 f_this_noiseBytes f_this_seeds f_a1) := by rw [ef_10]; exact hD
  refine lv_aload_n hx hb kdX1_fillWithNoise_33 rfl (lv_at hl 0 rfl) ?_
  refine va_get (ci := 1) (v := .ref (a_this 0)) (C := kRX1) (T := kTX1) (N := 13) hx hb hts kinX1 hown hK hP 0 rfl rfl 0 (by decide) (hts _ km_119) (fun _ h9 => h9) rfl kdX1_fillWithNoise_34 ?_
  refine lv_aload_n hx hb kdX1_fillWithNoise_37 rfl (lv_at hl 0 rfl) ?_
  refine va_get (ci := 1) (v := .ref (a_this 6)) (C := kRX1) (T := kTX1) (N := 13) hx hb hts kinX1 hown hK hP 0 rfl rfl 6 (by decide) (hts _ km_125) (fun _ h9 => h9) rfl kdX1_fillWithNoise_38 ?_
  refine lv_iconst (v := 0) hx hb kdX1_fillWithNoise_41 (by decide) ?_
  refine lv_iconst (v := 1) hx hb kdX1_fillWithNoise_42 (by decide) ?_
  obtain ⟨u_15, hu_15, h⟩ := kb_o_s h
  obtain ⟨w_11, f_12, f_13, f_14⟩ := u_15
  have hC := (show ([1, 2, 3, 4, 5, 6, 7, 8] : List Nat).map (fun i : Nat => (kWX1_fillWithNoise cB cI cL cBB cII cSh h_this a_this a_this_sponge h_a1 n_a1 w_2 w_5 f_6 f_7 f_8 f_this_sponge_turns f_this_sponge_targets f_this_sponge_roundConstants f_10 f_this_noiseBytes f_this_seeds f_a1)[i]?) = List.map some (kWX4_take cB cI cL cBB cII cSh (a_this 0) a_this_sponge (a_this 6) 2 w_2 w_5 f_6 f_7 f_8 f_this_sponge_turns f_this_sponge_targets f_this_sponge_roundConstants f_10) from rfl)
  have hPc := kb_Psub hP ([1, 2, 3, 4, 5, 6, 7, 8] : List Nat) hC
  have hDc := kb_Dsub hD ([1, 2, 3, 4, 5, 6, 7, 8] : List Nat) hC (by simp [kb_nd])
  refine kb_call0 (va_runV (As := [.ref (a_this 6), .int (0 : Int32), .int (1 : Int32)]) (rest := []) C0 (kcX4_take l D cB cI cL cBB cII cSh (a_this 0) (a_this 6) a_this_sponge _ (0 : Int32) (1 : Int32) 2 w_2 w_5 f_6 f_7 f_8 f_this_sponge_turns f_this_sponge_targets f_this_sponge_roundConstants f_10 (w_11, f_12, f_13, f_14) hu_15) (cwV 3 hts (kb_gV km_387 km_388 km_389 km_4 km_390) rfl rfl rfl (by decide +kernel) ⟨Nat.le_of_ble_eq_true rfl, Nat.le_of_ble_eq_true rfl⟩) ⟨kb_P_bl, va_recv hK hP (ci := 4) (q0 := 1) rfl rfl, (fun U hU hW => ⟨rfl, by rw [hU], by rw [hU]; exact hPc, va_K.moved hW.alike hK, kb_N_to hW hN, hDc.weaken (fun _ _ _ _ => trivial)⟩)⟩ rfl rfl hl.1 rfl (lv_room (Nat.le_of_ble_eq_true rfl)) kdX1_fillWithNoise_43 ⟨Nat.le_of_ble_eq_true rfl, Nat.le_of_ble_eq_true rfl⟩) hP hD hS hA ([1, 2, 3, 4, 5, 6, 7, 8] : List Nat) hC rfl (fun H locs hP hD hS => ?_)
  have hP : va_P D kCl (kWX1_fillWithNoise cB cI cL cBB cII cSh h_this a_this a_this_sponge h_a1 n_a1 w_2 w_11 f_12 f_13 f_14 f_this_sponge_turns f_this_sponge_targets f_this_sponge_roundConstants f_10 f_this_noiseBytes f_this_seeds f_a1) H := hP
  have hD : va_D A (kWX1_fillWithNoise cB cI cL cBB cII cSh h_this a_this a_this_sponge h_a1 n_a1 w_2 w_11 f_12 f_13 f_14 f_this_sponge_turns f_this_sponge_targets f_this_sponge_roundConstants f_10 f_this_noiseBytes f_this_seeds f_a1) := hD
  refine lv_aload_n hx hb kdX1_fillWithNoise_46 rfl (lv_at hl 0 rfl) ?_
  refine va_get (ci := 1) (v := .ref (a_this 0)) (C := kRX1) (T := kTX1) (N := 13) hx hb hts kinX1 hown hK hP 0 rfl rfl 0 (by decide) (hts _ km_119) (fun _ h9 => h9) rfl kdX1_fillWithNoise_47 ?_
  refine lv_bipush (v := 31) hx hb kdX1_fillWithNoise_50 (by decide) ?_
  obtain ⟨u_20, hu_20, h⟩ := kb_o_s h
  obtain ⟨w_16, f_17, f_18, f_19⟩ := u_20
  have hC := (show ([1, 2, 3, 4, 5, 6, 7] : List Nat).map (fun i : Nat => (kWX1_fillWithNoise cB cI cL cBB cII cSh h_this a_this a_this_sponge h_a1 n_a1 w_2 w_11 f_12 f_13 f_14 f_this_sponge_turns f_this_sponge_targets f_this_sponge_roundConstants f_10 f_this_noiseBytes f_this_seeds f_a1)[i]?) = List.map some (kWX4_finish cB cI cL cBB cII cSh (a_this 0) a_this_sponge w_2 w_11 f_12 f_13 f_14 f_this_sponge_turns f_this_sponge_targets f_this_sponge_roundConstants) from rfl)
  have hPc := kb_Psub hP ([1, 2, 3, 4, 5, 6, 7] : List Nat) hC
  have hDc := kb_Dsub hD ([1, 2, 3, 4, 5, 6, 7] : List Nat) hC (by simp [kb_nd])
  refine kb_call0 (va_runV (As := [.int (31 : Int32)]) (rest := []) C0 (kcX4_finish l D cB cI cL cBB cII cSh (a_this 0) a_this_sponge _ (31 : Int32) w_2 w_11 f_12 f_13 f_14 f_this_sponge_turns f_this_sponge_targets f_this_sponge_roundConstants (w_16, f_17, f_18, f_19) hu_20) (cwV 1 hts (kb_gV km_401 km_402 km_403 km_4 km_404) rfl rfl rfl (by decide +kernel) ⟨Nat.le_of_ble_eq_true rfl, Nat.le_of_ble_eq_true rfl⟩) ⟨kb_P_bl, va_recv hK hP (ci := 4) (q0 := 1) rfl rfl, (fun U hU hW => ⟨rfl, by rw [hU], by rw [hU]; exact hPc, va_K.moved hW.alike hK, kb_N_to hW hN, hDc.weaken (fun _ _ _ _ => trivial)⟩)⟩ rfl rfl hl.1 rfl (lv_room (Nat.le_of_ble_eq_true rfl)) kdX1_fillWithNoise_52 ⟨Nat.le_of_ble_eq_true rfl, Nat.le_of_ble_eq_true rfl⟩) hP hD hS hA ([1, 2, 3, 4, 5, 6, 7] : List Nat) hC rfl (fun H locs hP hD hS => ?_)
  have hP : va_P D kCl (kWX1_fillWithNoise cB cI cL cBB cII cSh h_this a_this a_this_sponge h_a1 n_a1 w_2 w_16 f_17 f_18 f_19 f_this_sponge_turns f_this_sponge_targets f_this_sponge_roundConstants f_10 f_this_noiseBytes f_this_seeds f_a1) H := hP
  have hD : va_D A (kWX1_fillWithNoise cB cI cL cBB cII cSh h_this a_this a_this_sponge h_a1 n_a1 w_2 w_16 f_17 f_18 f_19 f_this_sponge_turns f_this_sponge_targets f_this_sponge_roundConstants f_10 f_this_noiseBytes f_this_seeds f_a1) := hD
  refine lv_aload_n hx hb kdX1_fillWithNoise_55 rfl (lv_at hl 0 rfl) ?_
  refine va_get (ci := 1) (v := .ref (a_this 0)) (C := kRX1) (T := kTX1) (N := 13) hx hb hts kinX1 hown hK hP 0 rfl rfl 0 (by decide) (hts _ km_119) (fun _ h9 => h9) rfl kdX1_fillWithNoise_56 ?_
  refine lv_aload_n hx hb kdX1_fillWithNoise_59 rfl (lv_at hl 0 rfl) ?_
  refine va_get (ci := 1) (v := .ref (a_this 8)) (C := kRX1) (T := kTX1) (N := 13) hx hb hts kinX1 hown hK hP 0 rfl rfl 8 (by decide) (hts _ km_127) (fun _ h9 => h9) rfl kdX1_fillWithNoise_60 ?_
  refine lv_iconst (v := 0) hx hb kdX1_fillWithNoise_63 (by decide) ?_
  refine lv_bipush (v := 64) hx hb kdX1_fillWithNoise_64 (by decide) ?_
  refine lv_iload_n hx hb kdX1_fillWithNoise_66 rfl (lv_at hl 2 rfl) ?_
  refine lv_imul hx hb kdX1_fillWithNoise_67 ?_
  obtain ⟨u_26, hu_26, h⟩ := kb_o_s h
  obtain ⟨w_21, f_22, f_23, f_24, f_25⟩ := u_26
  have hC := (show ([1, 2, 3, 4, 5, 6, 7, 9] : List Nat).map (fun i : Nat => (kWX1_fillWithNoise cB cI cL cBB cII cSh h_this a_this a_this_sponge h_a1 n_a1 w_2 w_16 f_17 f_18 f_19 f_this_sponge_turns f_this_sponge_targets f_this_sponge_roundConstants f_10 f_this_noiseBytes f_this_seeds f_a1)[i]?) = List.map some (kWX4_give cB cI cL cBB cII cSh (a_this 0) a_this_sponge (a_this 8) 192 w_2 w_16 f_17 f_18 f_19 f_this_sponge_turns f_this_sponge_targets f_this_sponge_roundConstants f_this_noiseBytes) from rfl)
  have hPc := kb_Psub hP ([1, 2, 3, 4, 5, 6, 7, 9] : List Nat) hC
  have hDc := kb_Dsub hD ([1, 2, 3, 4, 5, 6, 7, 9] : List Nat) hC (by simp [kb_nd])
  refine kb_call0 (va_runV (As := [.ref (a_this 8), .int (0 : Int32), .int ((64 : Int32) * p2)]) (rest := []) C0 (kcX4_give l D cB cI cL cBB cII cSh (a_this 0) (a_this 8) a_this_sponge _ (0 : Int32) ((64 : Int32) * p2) 192 w_2 w_16 f_17 f_18 f_19 f_this_sponge_turns f_this_sponge_targets f_this_sponge_roundConstants f_this_noiseBytes (w_21, f_22, f_23, f_24, f_25) hu_26) (cwV 3 hts (kb_gV km_405 km_406 km_407 km_4 km_408) rfl rfl rfl (by decide +kernel) ⟨Nat.le_of_ble_eq_true rfl, Nat.le_of_ble_eq_true rfl⟩) ⟨kb_P_bl, va_recv hK hP (ci := 4) (q0 := 1) rfl rfl, (fun U hU hW => ⟨rfl, by rw [hU], by rw [hU]; exact hPc, va_K.moved hW.alike hK, kb_N_to hW hN, hDc.weaken (fun _ _ _ _ => trivial)⟩)⟩ rfl rfl hl.1 rfl (lv_room (Nat.le_of_ble_eq_true rfl)) kdX1_fillWithNoise_68 ⟨Nat.le_of_ble_eq_true rfl, Nat.le_of_ble_eq_true rfl⟩) hP hD hS hA ([1, 2, 3, 4, 5, 6, 7, 9] : List Nat) hC rfl (fun H locs hP hD hS => ?_)
  have hP : va_P D kCl (kWX1_fillWithNoise cB cI cL cBB cII cSh h_this a_this a_this_sponge h_a1 n_a1 w_2 w_21 f_22 f_23 f_24 f_this_sponge_turns f_this_sponge_targets f_this_sponge_roundConstants f_10 f_25 f_this_seeds f_a1) H := hP
  have hD : va_D A (kWX1_fillWithNoise cB cI cL cBB cII cSh h_this a_this a_this_sponge h_a1 n_a1 w_2 w_21 f_22 f_23 f_24 f_this_sponge_turns f_this_sponge_targets f_this_sponge_roundConstants f_10 f_25 f_this_seeds f_a1) := hD
  refine lv_aload_n hx hb kdX1_fillWithNoise_71 rfl (lv_at hl 0 rfl) ?_
  refine va_get (ci := 1) (v := .ref (a_this 8)) (C := kRX1) (T := kTX1) (N := 13) hx hb hts kinX1 hown hK hP 0 rfl rfl 8 (by decide) (hts _ km_127) (fun _ h9 => h9) rfl kdX1_fillWithNoise_72 ?_
  refine lv_iconst (v := 0) hx hb kdX1_fillWithNoise_75 (by decide) ?_
  refine lv_iconst (v := 2) hx hb kdX1_fillWithNoise_76 (by decide) ?_
  refine lv_iload_n hx hb kdX1_fillWithNoise_77 rfl (lv_at hl 2 rfl) ?_
  refine lv_imul hx hb kdX1_fillWithNoise_78 ?_
  refine lv_aload_n hx hb kdX1_fillWithNoise_79 rfl (lv_at hl 1 rfl) ?_
  obtain ⟨u_28, hu_28, h⟩ := kb_o_s h
  obtain ⟨f_27, rfl⟩ : ∃ z, z = u_28 := ⟨_, rfl⟩
  have hC := (show ([9, 11] : List Nat).map (fun i : Nat => (kWX1_fillWithNoise cB cI cL cBB cII cSh h_this a_this a_this_sponge h_a1 n_a1 w_2 w_21 f_22 f_23 f_24 f_this_sponge_turns f_this_sponge_targets f_this_sponge_roundConstants f_10 f_25 f_this_seeds f_a1)[i]?) = List.map some (kWX6_unpack cB cI cL cBB cII cSh (a_this 8) 192 h_a1 n_a1 f_25 f_a1) from rfl)
  have hPc := kb_Psub hP ([9, 11] : List Nat) hC
  have hDc := kb_Dsub hD ([9, 11] : List Nat) hC (by simp [kb_nd])
  refine kb_call0 (va_runS (As := [.ref (a_this 8), .int (0 : Int32), .int ((2 : Int32) * p2), .ref h_a1]) (rest := []) C0 (kcX6_unpack l D cB cI cL cBB cII cSh (a_this 8) h_a1 _ (0 : Int32) ((2 : Int32) * p2) 192 n_a1 f_25 f_a1 f_27 hu_28) (va_cwS 4 hts (kb_gS km_441 km_442 km_15 km_443) rfl rfl rfl (by decide +kernel) ⟨Nat.le_of_ble_eq_true rfl, Nat.le_of_ble_eq_true rfl⟩) ⟨kb_P_bl, (fun U hU hW => ⟨rfl, by rw [hU], by rw [hU]; exact hPc, va_K.moved hW.alike hK, kb_N_to hW hN, hDc.weaken (fun _ _ _ _ => trivial)⟩)⟩ rfl rfl hl.1 rfl (lv_room (Nat.le_of_ble_eq_true rfl)) kdX1_fillWithNoise_80 ⟨Nat.le_of_ble_eq_true rfl, Nat.le_of_ble_eq_true rfl⟩) hP hD hS hA ([9, 11] : List Nat) hC rfl (fun H locs hP hD hS => ?_)
  have hP : va_P D kCl (kWX1_fillWithNoise cB cI cL cBB cII cSh h_this a_this a_this_sponge h_a1 n_a1 w_2 w_21 f_22 f_23 f_24 f_this_sponge_turns f_this_sponge_targets f_this_sponge_roundConstants f_10 f_25 f_this_seeds f_27) H := hP
  have hD : va_D A (kWX1_fillWithNoise cB cI cL cBB cII cSh h_this a_this a_this_sponge h_a1 n_a1 w_2 w_21 f_22 f_23 f_24 f_this_sponge_turns f_this_sponge_targets f_this_sponge_roundConstants f_10 f_25 f_this_seeds f_27) := hD
  refine lv_iconst (v := 0) hx hb kdX1_fillWithNoise_83 (by decide) ?_
  refine lv_istore (lv' := [(4, .int (0 : Int32)), (0, .ref h_this), (1, .ref h_a1), (2, .int p2), (3, .int p3)]) hx hb kdX1_fillWithNoise_84 hl (by decide) rfl (fun ls hl => ?_)
  obtain ⟨r_42, hr_42, h⟩ := kb_o_s h
  refine klX1_fillWithNoise_86 C0 hlocks hK hN hA (by decide) (by decide) h_a1 h_this a_this a_this_sponge p2 n_a1 w_2 w_21 f_22 f_23 f_24 f_this_sponge_turns f_this_sponge_targets f_this_sponge_roundConstants f_10 f_25 f_this_seeds 100000 (0 : Int32) f_27 r_42 hr_42 _ _ _ hP hD hS (lv_sub hl [2, 3, 0] rfl) (fun x4p86_40 f_a1p86_41 er_42 H locs ls hP hD hS hl => ?_)
  subst er_42
  obtain rfl := Option.some.inj h
  exact W.vret hx hb hr (fun t ht hW => ⟨⟨rfl, by rw [ht]; exact hP, va_K.moved hW.alike hK, hD⟩, hS.F ht⟩) hS.2.2 kdX1_fillWithNoise_143

-- 499.ModuleKem.Kem.fillHash.lean.txt
abbrev kWX1_fillHash (cB cI cL cBB cII cSh : ClassId) (h_this : Nat) (a_this : Nat → Nat) (a_this_sponge : Nat → Nat) (h_a1 : Nat) (n_a1 : Nat) (this_sponge_rate : Int32) (this_sponge_place : Int32) (f_this_sponge_lanes : Nat → Int64) (f_this_sponge_moved : Nat → Int64) (f_this_sponge_columns : Nat → Int64) (f_this_sponge_turns : Nat → Int32) (f_this_sponge_targets : Nat → Int32) (f_this_sponge_roundConstants : Nat → Int64) (f_this_hash : Nat → Int32) (f_a1 : Nat → Int32) : va_W := [(h_this, koX1 a_this), ((a_this 0), koX4 a_this_sponge this_sponge_rate this_sponge_place), ((a_this_sponge 0), .inl (cL, 25, .inr (.inl f_this_sponge_lanes))), ((a_this_sponge 1), .inl (cL, 25, .inr (.inl f_this_sponge_moved))), ((a_this_sponge 2), .inl (cL, 5, .inr (.inl f_this_sponge_columns))), ((a_this_sponge 3), .inl (cI, 25, .inl f_this_sponge_turns)), ((a_this_sponge 4), .inl (cI, 25, .inl f_this_sponge_targets)), ((a_this_sponge 5), .inl (cL, 24, .inr (.inl f_this_sponge_roundConstants))), ((a_this 9), .inl (cB, 32, .inl f_this_hash)), (h_a1, .inl (cB, n_a1, .inl f_a1))]
def krX1_fillHash : Room := { frames := 2, cells := 0, slots := 0, locals := 56 }
set_option maxHeartbeats 4000000 in
set_option maxRecDepth 100000 in
theorem kcX1_fillHash (l : Launch) (D : va_G) (cB cI cL cBB cII cSh : ClassId) (h_this h_a1 : Nat) (a_this a_this_sponge : Nat → Nat) (sz : Nat) (p2 : Int32) (p3 : Int32) (n_a1 : Nat) (this_sponge_rate : Int32) (this_sponge_place : Int32) (f_this_sponge_lanes : Nat → Int64) (f_this_sponge_moved : Nat → Int64) (f_this_sponge_columns : Nat → Int64) (f_this_sponge_turns : Nat → Int32) (f_this_sponge_targets : Nat → Int32) (f_this_sponge_roundConstants : Nat → Int64) (f_this_hash : Nat → Int32) (f_a1 : Nat → Int32) (out : Int32 × Int32 × (Nat → Int64) × (Nat → Int64) × (Nat → Int64) × (Nat → Int32)) (h : kFX1_fillHash p2 p3 n_a1 f_this_sponge_lanes f_this_sponge_moved f_this_sponge_columns f_this_sponge_turns f_this_sponge_targets f_this_sponge_roundConstants f_this_hash f_a1 = some out) : Met l kyX1_fillHash kwX1_fillHash krX1_fillHash (kb_P D kCl (kb_T cB cI cL cBB cII cSh) [.ref h_this, .ref h_a1, .int p2, .int p3] (kWX1_fillHash cB cI cL cBB cII cSh h_this a_this a_this_sponge h_a1 n_a1 this_sponge_rate this_sponge_place f_this_sponge_lanes f_this_sponge_moved f_this_sponge_columns f_this_sponge_turns f_this_sponge_targets f_this_sponge_roundConstants f_this_hash f_a1) sz) (kb_Q D kCl (kb_T cB cI cL cBB cII cSh) (va_A (kWX1_fillHash cB cI cL cBB cII cSh h_this a_this a_this_sponge h_a1 n_a1 this_sponge_rate this_sponge_place f_this_sponge_lanes f_this_sponge_moved f_this_sponge_columns f_this_sponge_turns f_this_sponge_targets f_this_sponge_roundConstants f_this_hash f_a1) sz) none (kWX1_fillHash cB cI cL cBB cII cSh h_this a_this a_this_sponge h_a1 n_a1 out.2.1 out.1 out.2.2.1 out.2.2.2.1 out.2.2.2.2.1 f_this_sponge_turns f_this_sponge_targets f_this_sponge_roundConstants out.2.2.2.2.2 f_a1)) 0 0 (va_A (kWX1_fillHash cB cI cL cBB cII cSh h_this a_this a_this_sponge h_a1 n_a1 this_sponge_rate this_sponge_place f_this_sponge_lanes f_this_sponge_moved f_this_sponge_columns f_this_sponge_turns f_this_sponge_targets f_this_sponge_roundConstants f_this_hash f_a1) sz) := by
  refine Met.ofW (cc := prog_3_method_15_code) (maxL := 4) (ret := none) (by decide) rfl ?_
  intro p e s m args below meth c s₁ B hml hv
  obtain ⟨rfl, hsz, hP, hK, hN, hD0⟩ := hv
  have hx := B.exec
  have hb := B.bytes
  have hr := B.returns
  have hts0 := atoms_spec (ws := kwX1_fillHash) B.pre
  have hts : ∀ w ∈ kwA, w.before _ s = true := fun w h => hts0 w (List.mem_cons_of_mem _ h)
  have hown : s.vm.findClass kRX1 = some m.cls := findClass_of_methodNamed B.named
  have hlocks := B.notSynchronized
  subst hsz
  have hD := hD0.self (sz := s.heap.size)
  generalize hAe : va_A (kWX1_fillHash cB cI cL cBB cII cSh h_this a_this a_this_sponge h_a1 n_a1 this_sponge_rate this_sponge_place f_this_sponge_lanes f_this_sponge_moved f_this_sponge_columns f_this_sponge_turns f_this_sponge_targets f_this_sponge_roundConstants f_this_hash f_a1) s.heap.size = A at hD ⊢
  have hA : ∀ q : Nat, s.heap.size ≤ q → A q := fun q h => by rw [← hAe]; exact Or.inr h
  have hS : va_S A s.heap s.heap [] := va_S.rf
  have C0 : CallFix p m c prog_3_method_15_code 4 s _ kwA kRX1 := ⟨hx, hb, hml, hown, hts⟩
  have hl := lv_entry ([.ref h_this, .ref h_a1, .int p2, .int p3]) (n := 4) (Nat.le_of_ble_eq_true rfl)
  rw [lg_entry_eq]
  generalize (lg_sl ([.ref h_this, .ref h_a1, .int p2, .int p3]) ++ List.replicate (4 - (lg_sl ([.ref h_this, .ref h_a1, .int p2, .int p3])).length) Slot.unset).toArray = ls at hl ⊢
  have hl : lv_has ls 4 [(0, .ref h_this), (1, .ref h_a1), (2, .int p2), (3, .int p3)] := hl
  unfold kFX1_fillHash at h
  refine lv_aload_n hx hb kdX1_fillHash_0 rfl (lv_at hl 0 rfl) ?_
  refine va_get (ci := 1) (v := .ref (a_this 0)) (C := kRX1) (T := kTX1) (N := 13) hx hb hts kinX1 hown hK hP 0 rfl rfl 0 (by decide) (hts _ km_119) (fun _ h9 => h9) rfl kdX1_fillHash_1 ?_
  refine lv_sipush (v := 136) hx hb kdX1_fillHash_4 (by decide) ?_
  obtain ⟨u_4, hu_4, h⟩ := kb_o_s h
  obtain ⟨w_1, w_2, f_3⟩ := u_4
  have hC := (show ([1, 2] : List Nat).map (fun i : Nat => (kWX1_fillHash cB cI cL cBB cII cSh h_this a_this a_this_sponge h_a1 n_a1 this_sponge_rate this_sponge_place f_this_sponge_lanes f_this_sponge_moved f_this_sponge_columns f_this_sponge_turns f_this_sponge_targets f_this_sponge_roundConstants f_this_hash f_a1)[i]?) = List.map some (kWX4_start cB cI cL cBB cII cSh (a_this 0) a_this_sponge this_sponge_rate this_sponge_place f_this_sponge_lanes) from rfl)
  have hPc := kb_Psub hP ([1, 2] : List Nat) hC
  have hDc := kb_Dsub hD ([1, 2] : List Nat) hC (by simp [kb_nd])
  refine kb_call0 (va_runV (As := [.int (136 : Int32)]) (rest := []) C0 (kcX4_start l D cB cI cL cBB cII cSh (a_this 0) a_this_sponge _ (136 : Int32) this_sponge_rate this_sponge_place f_this_sponge_lanes (w_1, w_2, f_3) hu_4) (cwV 1 hts (kb_gV km_383 km_384 km_385 km_4 km_386) rfl rfl rfl (by decide +kernel) ⟨Nat.le_of_ble_eq_true rfl, Nat.le_of_ble_eq_true rfl⟩) ⟨kb_P_bl, va_recv hK hP (ci := 4) (q0 := 1) rfl rfl, (fun U hU hW => ⟨rfl, by rw [hU], by rw [hU]; exact hPc, va_K.moved hW.alike hK, kb_N_to hW hN, hDc.weaken (fun _ _ _ _ => trivial)⟩)⟩ rfl rfl hl.1 rfl (lv_room (Nat.le_of_ble_eq_true rfl)) kdX1_fillHash_7 ⟨Nat.le_of_ble_eq_true rfl, Nat.le_of_ble_eq_true rfl⟩) hP hD hS hA ([1, 2] : List Nat) hC rfl (fun H locs hP hD hS => ?_)
  have hP : va_P D kCl (kWX1_fillHash cB cI cL cBB cII cSh h_this a_this a_this_sponge h_a1 n_a1 w_2 w_1 f_3 f_this_sponge_moved f_this_sponge_columns f_this_sponge_turns f_this_sponge_targets f_this_sponge_roundConstants f_this_hash f_a1) H := hP
  have hD : va_D A (kWX1_fillHash cB cI cL cBB cII cSh h_this a_this a_this_sponge h_a1 n_a1 w_2 w_1 f_3 f_this_sponge_moved f_this_sponge_columns f_this_sponge_turns f_this_sponge_targets f_this_sponge_roundConstants f_this_hash f_a1) := hD
  refine lv_aload_n hx hb kdX1_fillHash_10 rfl (lv_at hl 0 rfl) ?_
  refine va_get (ci := 1) (v := .ref (a_this 0)) (C := kRX1) (T := kTX1) (N := 13) hx hb hts kinX1 hown hK hP 0 rfl rfl 0 (by decide) (hts _ km_119) (fun _ h9 => h9) rfl kdX1_fillHash_11 ?_
  refine lv_aload_n hx hb kdX1_fillHash_14 rfl (lv_at hl 1 rfl) ?_
  refine lv_iload_n hx hb kdX1_fillHash_15 rfl (lv_at hl 2 rfl) ?_
  refine lv_iload_n hx hb kdX1_fillHash_16 rfl (lv_at hl 3 rfl) ?_
  obtain ⟨u_9, hu_9, h⟩ := kb_o_s h
  obtain ⟨w_5, f_6, f_7, f_8⟩ := u_9
  have hC := (show ([1, 2, 3, 4, 5, 6, 7, 9] : List Nat).map (fun i : Nat => (kWX1_fillHash cB cI cL cBB cII cSh h_this a_this a_this_sponge h_a1 n_a1 w_2 w_1 f_3 f_this_sponge_moved f_this_sponge_columns f_this_sponge_turns f_this_sponge_targets f_this_sponge_roundConstants f_this_hash f_a1)[i]?) = List.map some (kWX4_take cB cI cL cBB cII cSh (a_this 0) a_this_sponge h_a1 n_a1 w_2 w_1 f_3 f_this_sponge_moved f_this_sponge_columns f_this_sponge_turns f_this_sponge_targets f_this_sponge_roundConstants f_a1) from rfl)
  have hPc := kb_Psub hP ([1, 2, 3, 4, 5, 6, 7, 9] : List Nat) hC
  have hDc := kb_Dsub hD ([1, 2, 3, 4, 5, 6, 7, 9] : List Nat) hC (by simp [kb_nd])
  refine kb_call0 (va_runV (As := [.ref h_a1, .int p2, .int p3]) (rest := []) C0 (kcX4_take l D cB cI cL cBB cII cSh (a_this 0) h_a1 a_this_sponge _ p2 p3 n_a1 w_2 w_1 f_3 f_this_sponge_moved f_this_sponge_columns f_this_sponge_turns f_this_sponge_targets f_this_sponge_roundConstants f_a1 (w_5, f_6, f_7, f_8) hu_9) (cwV 3 hts (kb_gV km_387 km_388 km_389 km_4 km_390) rfl rfl rfl (by decide +kernel) ⟨Nat.le_of_ble_eq_true rfl, Nat.le_of_ble_eq_true rfl⟩) ⟨kb_P_bl, va_recv hK hP (ci := 4) (q0 := 1) rfl rfl, (fun U hU hW => ⟨rfl, by rw [hU], by rw [hU]; exact hPc, va_K.moved hW.alike hK, kb_N_to hW hN, hDc.weaken (fun _ _ _ _ => trivial)⟩)⟩ rfl rfl hl.1 rfl (lv_room (Nat.le_of_ble_eq_true rfl)) kdX1_fillHash_17 ⟨Nat.le_of_ble_eq_true rfl, Nat.le_of_ble_eq_true rfl⟩) hP hD hS hA ([1, 2, 3, 4, 5, 6, 7, 9] : List Nat) hC rfl (fun H locs hP hD hS => ?_)
  have hP : va_P D kCl (kWX1_fillHash cB cI cL cBB cII cSh h_this a_this a_this_sponge h_a1 n_a1 w_2 w_5 f_6 f_7 f_8 f_this_sponge_turns f_this_sponge_targets f_this_sponge_roundConstants f_this_hash f_a1) H := hP
  have hD : va_D A (kWX1_fillHash cB cI cL cBB cII cSh h_this a_this a_this_sponge h_a1 n_a1 w_2 w_5 f_6 f_7 f_8 f_this_sponge_turns f_this_sponge_targets f_this_sponge_roundConstants f_this_hash f_a1) := hD
  refine lv_aload_n hx hb kdX1_fillHash_20 rfl (lv_at hl 0 rfl) ?_
  refine va_get (ci := 1) (v := .ref (a_this 0)) (C := kRX1) (T := kTX1) (N := 13) hx hb hts kinX1 hown hK hP 0 rfl rfl 0 (by decide) (hts _ km_119) (fun _ h9 => h9) rfl kdX1_fillHash_21 ?_
  refine lv_bipush (v := 6) hx hb kdX1_fillHash_24 (by decide) ?_
  obtain ⟨u_14, hu_14, h⟩ := kb_o_s h
  obtain ⟨w_10, f_11, f_12, f_13⟩ := u_14
  have hC := (show ([1, 2, 3, 4, 5, 6, 7] : List Nat).map (fun i : Nat => (kWX1_fillHash cB cI cL cBB cII cSh h_this a_this a_this_sponge h_a1 n_a1 w_2 w_5 f_6 f_7 f_8 f_this_sponge_turns f_this_sponge_targets f_this_sponge_roundConstants f_this_hash f_a1)[i]?) = List.map some (kWX4_finish cB cI cL cBB cII cSh (a_this 0) a_this_sponge w_2 w_5 f_6 f_7 f_8 f_this_sponge_turns f_this_sponge_targets f_this_sponge_roundConstants) from rfl)
  have hPc := kb_Psub hP ([1, 2, 3, 4, 5, 6, 7] : List Nat) hC
  have hDc := kb_Dsub hD ([1, 2, 3, 4, 5, 6, 7] : List Nat) hC (by simp [kb_nd])
  refine kb_call0 (va_runV (As := [.int (6 : Int32)]) (rest := []) C0 (kcX4_finish l D cB cI cL cBB cII cSh (a_this 0) a_this_sponge _ (6 : Int32) w_2 w_5 f_6 f_7 f_8 f_this_sponge_turns f_this_sponge_targets f_this_sponge_roundConstants (w_10, f_11, f_12, f_13) hu_14) (cwV 1 hts (kb_gV km_401 km_402 km_403 km_4 km_404) rfl rfl rfl (by decide +kernel) ⟨Nat.le_of_ble_eq_true rfl, Nat.le_of_ble_eq_true rfl⟩) ⟨kb_P_bl, va_recv hK hP (ci := 4) (q0 := 1) rfl rfl, (fun U hU hW => ⟨rfl, by rw [hU], by rw [hU]; exact hPc, va_K.moved hW.alike hK, kb_N_to hW hN, hDc.weaken (fun _ _ _ _ => trivial)⟩)⟩ rfl rfl hl.1 rfl (lv_room (Nat.le_of_ble_eq_true rfl)) kdX1_fillHash_26 ⟨Nat.le_of_ble_eq_true rfl, Nat.le_of_ble_eq_true rfl⟩) hP hD hS hA ([1, 2, 3, 4, 5, 6, 7] : List Nat) hC rfl (fun H locs hP hD hS => ?_)
  have hP : va_P D kCl (kWX1_fillHash cB cI cL cBB cII cSh h_this a_this a_this_sponge h_a1 n_a1 w_2 w_10 f_11 f_12 f_13 f_this_sponge_turns f_this_sponge_targets f_this_sponge_roundConstants f_this_hash f_a1) H := hP
  have hD : va_D A (kWX1_fillHash cB cI cL cBB cII cSh h_this a_this a_this_sponge h_a1 n_a1 w_2 w_10 f_11 f_12 f_13 f_this_sponge_turns f_this_sponge_targets f_this_sponge_roundConstants f_this_hash f_a1) := hD
  refine lv_aload_n hx hb kdX1_fillHash_29 rfl (lv_at hl 0 rfl) ?_
  refine va_get (ci := 1) (v := .ref (a_this 0)) (C := kRX1) (T := kTX1) (N := 13) hx hb hts kinX1 hown hK hP 0 rfl rfl 0 (by decide) (hts _ km_119) (fun _ h9 => h9) rfl kdX1_fillHash_30 ?_
  refine lv_aload_n hx hb kdX1_fillHash_33 rfl (lv_at hl 0 rfl) ?_
  refine va_get (ci := 1) (v := .ref (a_this 9)) (C := kRX1) (T := kTX1) (N := 13) hx hb hts kinX1 hown hK hP 0 rfl rfl 9 (by decide) (hts _ km_128) (fun _ h9 => h9) rfl kdX1_fillHash_34 ?_
  refine lv_iconst (v := 0) hx hb kdX1_fillHash_37 (by decide) ?_
  refine lv_bipush (v := 32) hx hb kdX1_fillHash_38 (by decide) ?_
  obtain ⟨u_20, hu_20, h⟩ := kb_o_s h
  obtain ⟨w_15, f_16, f_17, f_18, f_19⟩ := u_20
  have hC := (show ([1, 2, 3, 4, 5, 6, 7, 8] : List Nat).map (fun i : Nat => (kWX1_fillHash cB cI cL cBB cII cSh h_this a_this a_this_sponge h_a1 n_a1 w_2 w_10 f_11 f_12 f_13 f_this_sponge_turns f_this_sponge_targets f_this_sponge_roundConstants f_this_hash f_a1)[i]?) = List.map some (kWX4_give cB cI cL cBB cII cSh (a_this 0) a_this_sponge (a_this 9) 32 w_2 w_10 f_11 f_12 f_13 f_this_sponge_turns f_this_sponge_targets f_this_sponge_roundConstants f_this_hash) from rfl)
  have hPc := kb_Psub hP ([1, 2, 3, 4, 5, 6, 7, 8] : List Nat) hC
  have hDc := kb_Dsub hD ([1, 2, 3, 4, 5, 6, 7, 8] : List Nat) hC (by simp [kb_nd])
  refine kb_call0 (va_runV (As := [.ref (a_this 9), .int (0 : Int32), .int (32 : Int32)]) (rest := []) C0 (kcX4_give l D cB cI cL cBB cII cSh (a_this 0) (a_this 9) a_this_sponge _ (0 : Int32) (32 : Int32) 32 w_2 w_10 f_11 f_12 f_13 f_this_sponge_turns f_this_sponge_targets f_this_sponge_roundConstants f_this_hash (w_15, f_16, f_17, f_18, f_19) hu_20) (cwV 3 hts (kb_gV km_405 km_406 km_407 km_4 km_408) rfl rfl rfl (by decide +kernel) ⟨Nat.le_of_ble_eq_true rfl, Nat.le_of_ble_eq_true rfl⟩) ⟨kb_P_bl, va_recv hK hP (ci := 4) (q0 := 1) rfl rfl, (fun U hU hW => ⟨rfl, by rw [hU], by rw [hU]; exact hPc, va_K.moved hW.alike hK, kb_N_to hW hN, hDc.weaken (fun _ _ _ _ => trivial)⟩)⟩ rfl rfl hl.1 rfl (lv_room (Nat.le_of_ble_eq_true rfl)) kdX1_fillHash_40 ⟨Nat.le_of_ble_eq_true rfl, Nat.le_of_ble_eq_true rfl⟩) hP hD hS hA ([1, 2, 3, 4, 5, 6, 7, 8] : List Nat) hC rfl (fun H locs hP hD hS => ?_)
  have hP : va_P D kCl (kWX1_fillHash cB cI cL cBB cII cSh h_this a_this a_this_sponge h_a1 n_a1 w_2 w_15 f_16 f_17 f_18 f_this_sponge_turns f_this_sponge_targets f_this_sponge_roundConstants f_19 f_a1) H := hP
  have hD : va_D A (kWX1_fillHash cB cI cL cBB cII cSh h_this a_this a_this_sponge h_a1 n_a1 w_2 w_15 f_16 f_17 f_18 f_this_sponge_turns f_this_sponge_targets f_this_sponge_roundConstants f_19 f_a1) := hD
  obtain rfl := Option.some.inj h
  exact W.vret hx hb hr (fun t ht hW => ⟨⟨rfl, by rw [ht]; exact hP, va_K.moved hW.alike hK, hD⟩, hS.F ht⟩) hS.2.2 kdX1_fillHash_43

-- 500.ModuleKem.Kem.deriveSeeds.lean.txt
abbrev kWX1_deriveSeeds (cB cI cL cBB cII cSh : ClassId) (h_this : Nat) (a_this : Nat → Nat) (a_this_sponge : Nat → Nat) (h_a1 : Nat) (n_a1 : Nat) (h_a2 : Nat) (n_a2 : Nat) (this_sponge_rate : Int32) (this_sponge_place : Int32) (f_this_sponge_lanes : Nat → Int64) (f_this_sponge_moved : Nat → Int64) (f_this_sponge_columns : Nat → Int64) (f_this_sponge_turns : Nat → Int32) (f_this_sponge_targets : Nat → Int32) (f_this_sponge_roundConstants : Nat → Int64) (f_this_seeds : Nat → Int32) (f_a1 : Nat → Int32) (f_a2 : Nat → Int32) : va_W := [(h_this, koX1 a_this), ((a_this 0), koX4 a_this_sponge this_sponge_rate this_sponge_place), ((a_this_sponge 0), .inl (cL, 25, .inr (.inl f_this_sponge_lanes))), ((a_this_sponge 1), .inl (cL, 25, .inr (.inl f_this_sponge_moved))), ((a_this_sponge 2), .inl (cL, 5, .inr (.inl f_this_sponge_columns))), ((a_this_sponge 3), .inl (cI, 25, .inl f_this_sponge_turns)), ((a_this_sponge 4), .inl (cI, 25, .inl f_this_sponge_targets)), ((a_this_sponge 5), .inl (cL, 24, .inr (.inl f_this_sponge_roundConstants))), ((a_this 12), .inl (cB, 64, .inl f_this_seeds)), (h_a1, .inl (cB, n_a1, .inl f_a1)), (h_a2, .inl (cB, n_a2, .inl f_a2))]
def krX1_deriveSeeds : Room := { frames := 2, cells := 0, slots := 0, locals := 56 }
set_option maxHeartbeats 4000000 in
set_option maxRecDepth 100000 in
theorem kcX1_deriveSeeds (l : Launch) (D : va_G) (cB cI cL cBB cII cSh : ClassId) (h_this h_a1 h_a2 : Nat) (a_this a_this_sponge : Nat → Nat) (sz : Nat) (p3 : Int32) (n_a1 : Nat) (n_a2 : Nat) (this_sponge_rate : Int32) (this_sponge_place : Int32) (f_this_sponge_lanes : Nat → Int64) (f_this_sponge_moved : Nat → Int64) (f_this_sponge_columns : Nat → Int64) (f_this_sponge_turns : Nat → Int32) (f_this_sponge_targets : Nat → Int32) (f_this_sponge_roundConstants : Nat → Int64) (f_this_seeds : Nat → Int32) (f_a1 : Nat → Int32) (f_a2 : Nat → Int32) (out : Int32 × Int32 × (Nat → Int64) × (Nat → Int64) × (Nat → Int64) × (Nat → Int32)) (h : kFX1_deriveSeeds p3 n_a1 n_a2 f_this_sponge_lanes f_this_sponge_moved f_this_sponge_columns f_this_sponge_turns f_this_sponge_targets f_this_sponge_roundConstants f_this_seeds f_a1 f_a2 = some out) : Met l kyX1_deriveSeeds kwX1_deriveSeeds krX1_deriveSeeds (kb_P D kCl (kb_T cB cI cL cBB cII cSh) [.ref h_this, .ref h_a1, .ref h_a2, .int p3] (kWX1_deriveSeeds cB cI cL cBB cII cSh h_this a_this a_this_sponge h_a1 n_a1 h_a2 n_a2 this_sponge_rate this_sponge_place f_this_sponge_lanes f_this_sponge_moved f_this_sponge_columns f_this_sponge_turns f_this_sponge_targets f_this_sponge_roundConstants f_this_seeds f_a1 f_a2) sz) (kb_Q D kCl (kb_T cB cI cL cBB cII cSh) (va_A (kWX1_deriveSeeds cB cI cL cBB cII cSh h_this a_this a_this_sponge h_a1 n_a1 h_a2 n_a2 this_sponge_rate this_sponge_place f_this_sponge_lanes f_this_sponge_moved f_this_sponge_columns f_this_sponge_turns f_this_sponge_targets f_this_sponge_roundConstants f_this_seeds f_a1 f_a2) sz) none (kWX1_deriveSeeds cB cI cL cBB cII cSh h_this a_this a_this_sponge h_a1 n_a1 h_a2 n_a2 out.2.1 out.1 out.2.2.1 out.2.2.2.1 out.2.2.2.2.1 f_this_sponge_turns f_this_sponge_targets f_this_sponge_roundConstants out.2.2.2.2.2 f_a1 f_a2)) 0 0 (va_A (kWX1_deriveSeeds cB cI cL cBB cII cSh h_this a_this a_this_sponge h_a1 n_a1 h_a2 n_a2 this_sponge_rate this_sponge_place f_this_sponge_lanes f_this_sponge_moved f_this_sponge_columns f_this_sponge_turns f_this_sponge_targets f_this_sponge_roundConstants f_this_seeds f_a1 f_a2) sz) := by
  refine Met.ofW (cc := prog_3_method_16_code) (maxL := 4) (ret := none) (by decide) rfl ?_
  intro p e s m args below meth c s₁ B hml hv
  obtain ⟨rfl, hsz, hP, hK, hN, hD0⟩ := hv
  have hx := B.exec
  have hb := B.bytes
  have hr := B.returns
  have hts0 := atoms_spec (ws := kwX1_deriveSeeds) B.pre
  have hts : ∀ w ∈ kwA, w.before _ s = true := fun w h => hts0 w (List.mem_cons_of_mem _ h)
  have hown : s.vm.findClass kRX1 = some m.cls := findClass_of_methodNamed B.named
  have hlocks := B.notSynchronized
  subst hsz
  have hD := hD0.self (sz := s.heap.size)
  generalize hAe : va_A (kWX1_deriveSeeds cB cI cL cBB cII cSh h_this a_this a_this_sponge h_a1 n_a1 h_a2 n_a2 this_sponge_rate this_sponge_place f_this_sponge_lanes f_this_sponge_moved f_this_sponge_columns f_this_sponge_turns f_this_sponge_targets f_this_sponge_roundConstants f_this_seeds f_a1 f_a2) s.heap.size = A at hD ⊢
  have hA : ∀ q : Nat, s.heap.size ≤ q → A q := fun q h => by rw [← hAe]; exact Or.inr h
  have hS : va_S A s.heap s.heap [] := va_S.rf
  have C0 : CallFix p m c prog_3_method_16_code 4 s _ kwA kRX1 := ⟨hx, hb, hml, hown, hts⟩
  have hl := lv_entry ([.ref h_this, .ref h_a1, .ref h_a2, .int p3]) (n := 4) (Nat.le_of_ble_eq_true rfl)
  rw [lg_entry_eq]
  generalize (lg_sl ([.ref h_this, .ref h_a1, .ref h_a2, .int p3]) ++ List.replicate (4 - (lg_sl ([.ref h_this, .ref h_a1, .ref h_a2, .int p3])).length) Slot.unset).toArray = ls at hl ⊢
  have hl : lv_has ls 4 [(0, .ref h_this), (1, .ref h_a1), (2, .ref h_a2), (3, .int p3)] := hl
  unfold kFX1_deriveSeeds at h
  refine lv_aload_n hx hb kdX1_deriveSeeds_0 rfl (lv_at hl 0 rfl) ?_
  refine va_get (ci := 1) (v := .ref (a_this 0)) (C := kRX1) (T := kTX1) (N := 13) hx hb hts kinX1 hown hK hP 0 rfl rfl 0 (by decide) (hts _ km_119) (fun _ h9 => h9) rfl kdX1_deriveSeeds_1 ?_
  refine lv_bipush (v := 72) hx hb kdX1_deriveSeeds_4 (by decide) ?_
  obtain ⟨u_4, hu_4, h⟩ := kb_o_s h
  obtain ⟨w_1, w_2, f_3⟩ := u_4
  have hC := (show ([1, 2] : List Nat).map (fun i : Nat => (kWX1_deriveSeeds cB cI cL cBB cII cSh h_this a_this a_this_sponge h_a1 n_a1 h_a2 n_a2 this_sponge_rate this_sponge_place f_this_sponge_lanes f_this_sponge_moved f_this_sponge_columns f_this_sponge_turns f_this_sponge_targets f_this_sponge_roundConstants f_this_seeds f_a1 f_a2)[i]?) = List.map some (kWX4_start cB cI cL cBB cII cSh (a_this 0) a_this_sponge this_sponge_rate this_sponge_place f_this_sponge_lanes) from rfl)
  have hPc := kb_Psub hP ([1, 2] : List Nat) hC
  have hDc := kb_Dsub hD ([1, 2] : List Nat) hC (by simp [kb_nd])
  refine kb_call0 (va_runV (As := [.int (72 : Int32)]) (rest := []) C0 (kcX4_start l D cB cI cL cBB cII cSh (a_this 0) a_this_sponge _ (72 : Int32) this_sponge_rate this_sponge_place f_this_sponge_lanes (w_1, w_2, f_3) hu_4) (cwV 1 hts (kb_gV km_383 km_384 km_385 km_4 km_386) rfl rfl rfl (by decide +kernel) ⟨Nat.le_of_ble_eq_true rfl, Nat.le_of_ble_eq_true rfl⟩) ⟨kb_P_bl, va_recv hK hP (ci := 4) (q0 := 1) rfl rfl, (fun U hU hW => ⟨rfl, by rw [hU], by rw [hU]; exact hPc, va_K.moved hW.alike hK, kb_N_to hW hN, hDc.weaken (fun _ _ _ _ => trivial)⟩)⟩ rfl rfl hl.1 rfl (lv_room (Nat.le_of_ble_eq_true rfl)) kdX1_deriveSeeds_6 ⟨Nat.le_of_ble_eq_true rfl, Nat.le_of_ble_eq_true rfl⟩) hP hD hS hA ([1, 2] : List Nat) hC rfl (fun H locs hP hD hS => ?_)
  have hP : va_P D kCl (kWX1_deriveSeeds cB cI cL cBB cII cSh h_this a_this a_this_sponge h_a1 n_a1 h_a2 n_a2 w_2 w_1 f_3 f_this_sponge_moved f_this_sponge_columns f_this_sponge_turns f_this_sponge_targets f_this_sponge_roundConstants f_this_seeds f_a1 f_a2) H := hP
  have hD : va_D A (kWX1_deriveSeeds cB cI cL cBB cII cSh h_this a_this a_this_sponge h_a1 n_a1 h_a2 n_a2 w_2 w_1 f_3 f_this_sponge_moved f_this_sponge_columns f_this_sponge_turns f_this_sponge_targets f_this_sponge_roundConstants f_this_seeds f_a1 f_a2) := hD
  refine lv_aload_n hx hb kdX1_deriveSeeds_9 rfl (lv_at hl 0 rfl) ?_
  refine va_get (ci := 1) (v := .ref (a_this 0)) (C := kRX1) (T := kTX1) (N := 13) hx hb hts kinX1 hown hK hP 0 rfl rfl 0 (by decide) (hts _ km_119) (fun _ h9 => h9) rfl kdX1_deriveSeeds_10 ?_
  refine lv_aload_n hx hb kdX1_deriveSeeds_13 rfl (lv_at hl 1 rfl) ?_
  refine lv_iconst (v := 0) hx hb kdX1_deriveSeeds_14 (by decide) ?_
  refine lv_bipush (v := 32) hx hb kdX1_deriveSeeds_15 (by decide) ?_
  obtain ⟨u_9, hu_9, h⟩ := kb_o_s h
  obtain ⟨w_5, f_6, f_7, f_8⟩ := u_9
  have hC := (show ([1, 2, 3, 4, 5, 6, 7, 9] : List Nat).map (fun i : Nat => (kWX1_deriveSeeds cB cI cL cBB cII cSh h_this a_this a_this_sponge h_a1 n_a1 h_a2 n_a2 w_2 w_1 f_3 f_this_sponge_moved f_this_sponge_columns f_this_sponge_turns f_this_sponge_targets f_this_sponge_roundConstants f_this_seeds f_a1 f_a2)[i]?) = List.map some (kWX4_take cB cI cL cBB cII cSh (a_this 0) a_this_sponge h_a1 n_a1 w_2 w_1 f_3 f_this_sponge_moved f_this_sponge_columns f_this_sponge_turns f_this_sponge_targets f_this_sponge_roundConstants f_a1) from rfl)
  have hPc := kb_Psub hP ([1, 2, 3, 4, 5, 6, 7, 9] : List Nat) hC
  have hDc := kb_Dsub hD ([1, 2, 3, 4, 5, 6, 7, 9] : List Nat) hC (by simp [kb_nd])
  refine kb_call0 (va_runV (As := [.ref h_a1, .int (0 : Int32), .int (32 : Int32)]) (rest := []) C0 (kcX4_take l D cB cI cL cBB cII cSh (a_this 0) h_a1 a_this_sponge _ (0 : Int32) (32 : Int32) n_a1 w_2 w_1 f_3 f_this_sponge_moved f_this_sponge_columns f_this_sponge_turns f_this_sponge_targets f_this_sponge_roundConstants f_a1 (w_5, f_6, f_7, f_8) hu_9) (cwV 3 hts (kb_gV km_387 km_388 km_389 km_4 km_390) rfl rfl rfl (by decide +kernel) ⟨Nat.le_of_ble_eq_true rfl, Nat.le_of_ble_eq_true rfl⟩) ⟨kb_P_bl, va_recv hK hP (ci := 4) (q0 := 1) rfl rfl, (fun U hU hW => ⟨rfl, by rw [hU], by rw [hU]; exact hPc, va_K.moved hW.alike hK, kb_N_to hW hN, hDc.weaken (fun _ _ _ _ => trivial)⟩)⟩ rfl rfl hl.1 rfl (lv_room (Nat.le_of_ble_eq_true rfl)) kdX1_deriveSeeds_17 ⟨Nat.le_of_ble_eq_true rfl, Nat.le_of_ble_eq_true rfl⟩) hP hD hS hA ([1, 2, 3, 4, 5, 6, 7, 9] : List Nat) hC rfl (fun H locs hP hD hS => ?_)
  have hP : va_P D kCl (kWX1_deriveSeeds cB cI cL cBB cII cSh h_this a_this a_this_sponge h_a1 n_a1 h_a2 n_a2 w_2 w_5 f_6 f_7 f_8 f_this_sponge_turns f_this_sponge_targets f_this_sponge_roundConstants f_this_seeds f_a1 f_a2) H := hP
  have hD : va_D A (kWX1_deriveSeeds cB cI cL cBB cII cSh h_this a_this a_this_sponge h_a1 n_a1 h_a2 n_a2 w_2 w_5 f_6 f_7 f_8 f_this_sponge_turns f_this_sponge_targets f_this_sponge_roundConstants f_this_seeds f_a1 f_a2) := hD
  refine lv_aload_n hx hb kdX1_deriveSeeds_20 rfl (lv_at hl 0 rfl) ?_
  refine va_get (ci := 1) (v := .ref (a_this 0)) (C := kRX1) (T := kTX1) (N := 13) hx hb hts kinX1 hown hK hP 0 rfl rfl 0 (by decide) (hts _ km_119) (fun _ h9 => h9) rfl kdX1_deriveSeeds_21 ?_
  refine lv_aload_n hx hb kdX1_deriveSeeds_24 rfl (lv_at hl 2 rfl) ?_
  refine lv_iload_n hx hb kdX1_deriveSeeds_25 rfl (lv_at hl 3 rfl) ?_
  refine lv_bipush (v := 32) hx hb kdX1_deriveSeeds_26 (by decide) ?_
  obtain ⟨u_14, hu_14, h⟩ := kb_o_s h
  obtain ⟨w_10, f_11, f_12, f_13⟩ := u_14
  have hC := (show ([1, 2, 3, 4, 5, 6, 7, 10] : List Nat).map (fun i : Nat => (kWX1_deriveSeeds cB cI cL cBB cII cSh h_this a_this a_this_sponge h_a1 n_a1 h_a2 n_a2 w_2 w_5 f_6 f_7 f_8 f_this_sponge_turns f_this_sponge_targets f_this_sponge_roundConstants f_this_seeds f_a1 f_a2)[i]?) = List.map some (kWX4_take cB cI cL cBB cII cSh (a_this 0) a_this_sponge h_a2 n_a2 w_2 w_5 f_6 f_7 f_8 f_this_sponge_turns f_this_sponge_targets f_this_sponge_roundConstants f_a2) from rfl)
  have hPc := kb_Psub hP ([1, 2, 3, 4, 5, 6, 7, 10] : List Nat) hC
  have hDc := kb_Dsub hD ([1, 2, 3, 4, 5, 6, 7, 10] : List Nat) hC (by simp [kb_nd])
  refine kb_call0 (va_runV (As := [.ref h_a2, .int p3, .int (32 : Int32)]) (rest := []) C0 (kcX4_take l D cB cI cL cBB cII cSh (a_this 0) h_a2 a_this_sponge _ p3 (32 : Int32) n_a2 w_2 w_5 f_6 f_7 f_8 f_this_sponge_turns f_this_sponge_targets f_this_sponge_roundConstants f_a2 (w_10, f_11, f_12, f_13) hu_14) (cwV 3 hts (kb_gV km_387 km_388 km_389 km_4 km_390) rfl rfl rfl (by decide +kernel) ⟨Nat.le_of_ble_eq_true rfl, Nat.le_of_ble_eq_true rfl⟩) ⟨kb_P_bl, va_recv hK hP (ci := 4) (q0 := 1) rfl rfl, (fun U hU hW => ⟨rfl, by rw [hU], by rw [hU]; exact hPc, va_K.moved hW.alike hK, kb_N_to hW hN, hDc.weaken (fun _ _ _ _ => trivial)⟩)⟩ rfl rfl hl.1 rfl (lv_room (Nat.le_of_ble_eq_true rfl)) kdX1_deriveSeeds_28 ⟨Nat.le_of_ble_eq_true rfl, Nat.le_of_ble_eq_true rfl⟩) hP hD hS hA ([1, 2, 3, 4, 5, 6, 7, 10] : List Nat) hC rfl (fun H locs hP hD hS => ?_)
  have hP : va_P D kCl (kWX1_deriveSeeds cB cI cL cBB cII cSh h_this a_this a_this_sponge h_a1 n_a1 h_a2 n_a2 w_2 w_10 f_11 f_12 f_13 f_this_sponge_turns f_this_sponge_targets f_this_sponge_roundConstants f_this_seeds f_a1 f_a2) H := hP
  have hD : va_D A (kWX1_deriveSeeds cB cI cL cBB cII cSh h_this a_this a_this_sponge h_a1 n_a1 h_a2 n_a2 w_2 w_10 f_11 f_12 f_13 f_this_sponge_turns f_this_sponge_targets f_this_sponge_roundConstants f_this_seeds f_a1 f_a2) := hD
  refine lv_aload_n hx hb kdX1_deriveSeeds_31 rfl (lv_at hl 0 rfl) ?_
  refine va_get (ci := 1) (v := .ref (a_this 0)) (C := kRX1) (T := kTX1) (N := 13) hx hb hts kinX1 hown hK hP 0 rfl rfl 0 (by decide) (hts _ km_119) (fun _ h9 => h9) rfl kdX1_deriveSeeds_32 ?_
  refine lv_bipush (v := 6) hx hb kdX1_deriveSeeds_35 (by decide) ?_
  obtain ⟨u_19, hu_19, h⟩ := kb_o_s h
  obtain ⟨w_15, f_16, f_17, f_18⟩ := u_19
  have hC := (show ([1, 2, 3, 4, 5, 6, 7] : List Nat).map (fun i : Nat => (kWX1_deriveSeeds cB cI cL cBB cII cSh h_this a_this a_this_sponge h_a1 n_a1 h_a2 n_a2 w_2 w_10 f_11 f_12 f_13 f_this_sponge_turns f_this_sponge_targets f_this_sponge_roundConstants f_this_seeds f_a1 f_a2)[i]?) = List.map some (kWX4_finish cB cI cL cBB cII cSh (a_this 0) a_this_sponge w_2 w_10 f_11 f_12 f_13 f_this_sponge_turns f_this_sponge_targets f_this_sponge_roundConstants) from rfl)
  have hPc := kb_Psub hP ([1, 2, 3, 4, 5, 6, 7] : List Nat) hC
  have hDc := kb_Dsub hD ([1, 2, 3, 4, 5, 6, 7] : List Nat) hC (by simp [kb_nd])
  refine kb_call0 (va_runV (As := [.int (6 : Int32)]) (rest := []) C0 (kcX4_finish l D cB cI cL cBB cII cSh (a_this 0) a_this_sponge _ (6 : Int32) w_2 w_10 f_11 f_12 f_13 f_this_sponge_turns f_this_sponge_targets f_this_sponge_roundConstants (w_15, f_16, f_17, f_18) hu_19) (cwV 1 hts (kb_gV km_401 km_402 km_403 km_4 km_404) rfl rfl rfl (by decide +kernel) ⟨Nat.le_of_ble_eq_true rfl, Nat.le_of_ble_eq_true rfl⟩) ⟨kb_P_bl, va_recv hK hP (ci := 4) (q0 := 1) rfl rfl, (fun U hU hW => ⟨rfl, by rw [hU], by rw [hU]; exact hPc, va_K.moved hW.alike hK, kb_N_to hW hN, hDc.weaken (fun _ _ _ _ => trivial)⟩)⟩ rfl rfl hl.1 rfl (lv_room (Nat.le_of_ble_eq_true rfl)) kdX1_deriveSeeds_37 ⟨Nat.le_of_ble_eq_true rfl, Nat.le_of_ble_eq_true rfl⟩) hP hD hS hA ([1, 2, 3, 4, 5, 6, 7] : List Nat) hC rfl (fun H locs hP hD hS => ?_)
  have hP : va_P D kCl (kWX1_deriveSeeds cB cI cL cBB cII cSh h_this a_this a_this_sponge h_a1 n_a1 h_a2 n_a2 w_2 w_15 f_16 f_17 f_18 f_this_sponge_turns f_this_sponge_targets f_this_sponge_roundConstants f_this_seeds f_a1 f_a2) H := hP
  have hD : va_D A (kWX1_deriveSeeds cB cI cL cBB cII cSh h_this a_this a_this_sponge h_a1 n_a1 h_a2 n_a2 w_2 w_15 f_16 f_17 f_18 f_this_sponge_turns f_this_sponge_targets f_this_sponge_roundConstants f_this_seeds f_a1 f_a2) := hD
  refine lv_aload_n hx hb kdX1_deriveSeeds_40 rfl (lv_at hl 0 rfl) ?_
  refine va_get (ci := 1) (v := .ref (a_this 0)) (C := kRX1) (T := kTX1) (N := 13) hx hb hts kinX1 hown hK hP 0 rfl rfl 0 (by decide) (hts _ km_119) (fun _ h9 => h9) rfl kdX1_deriveSeeds_41 ?_
  refine lv_aload_n hx hb kdX1_deriveSeeds_44 rfl (lv_at hl 0 rfl) ?_
  refine va_get (ci := 1) (v := .ref (a_this 12)) (C := kRX1) (T := kTX1) (N := 13) hx hb hts kinX1 hown hK hP 0 rfl rfl 12 (by decide) (hts _ km_131) (fun _ h9 => h9) rfl kdX1_deriveSeeds_45 ?_
  refine lv_iconst (v := 0) hx hb kdX1_deriveSeeds_48 (by decide) ?_
  refine lv_bipush (v := 64) hx hb kdX1_deriveSeeds_49 (by decide) ?_
  obtain ⟨u_25, hu_25, h⟩ := kb_o_s h
  obtain ⟨w_20, f_21, f_22, f_23, f_24⟩ := u_25
  have hC := (show ([1, 2, 3, 4, 5, 6, 7, 8] : List Nat).map (fun i : Nat => (kWX1_deriveSeeds cB cI cL cBB cII cSh h_this a_this a_this_sponge h_a1 n_a1 h_a2 n_a2 w_2 w_15 f_16 f_17 f_18 f_this_sponge_turns f_this_sponge_targets f_this_sponge_roundConstants f_this_seeds f_a1 f_a2)[i]?) = List.map some (kWX4_give cB cI cL cBB cII cSh (a_this 0) a_this_sponge (a_this 12) 64 w_2 w_15 f_16 f_17 f_18 f_this_sponge_turns f_this_sponge_targets f_this_sponge_roundConstants f_this_seeds) from rfl)
  have hPc := kb_Psub hP ([1, 2, 3, 4, 5, 6, 7, 8] : List Nat) hC
  have hDc := kb_Dsub hD ([1, 2, 3, 4, 5, 6, 7, 8] : List Nat) hC (by simp [kb_nd])
  refine kb_call0 (va_runV (As := [.ref (a_this 12), .int (0 : Int32), .int (64 : Int32)]) (rest := []) C0 (kcX4_give l D cB cI cL cBB cII cSh (a_this 0) (a_this 12) a_this_sponge _ (0 : Int32) (64 : Int32) 64 w_2 w_15 f_16 f_17 f_18 f_this_sponge_turns f_this_sponge_targets f_this_sponge_roundConstants f_this_seeds (w_20, f_21, f_22, f_23, f_24) hu_25) (cwV 3 hts (kb_gV km_405 km_406 km_407 km_4 km_408) rfl rfl rfl (by decide +kernel) ⟨Nat.le_of_ble_eq_true rfl, Nat.le_of_ble_eq_true rfl⟩) ⟨kb_P_bl, va_recv hK hP (ci := 4) (q0 := 1) rfl rfl, (fun U hU hW => ⟨rfl, by rw [hU], by rw [hU]; exact hPc, va_K.moved hW.alike hK, kb_N_to hW hN, hDc.weaken (fun _ _ _ _ => trivial)⟩)⟩ rfl rfl hl.1 rfl (lv_room (Nat.le_of_ble_eq_true rfl)) kdX1_deriveSeeds_51 ⟨Nat.le_of_ble_eq_true rfl, Nat.le_of_ble_eq_true rfl⟩) hP hD hS hA ([1, 2, 3, 4, 5, 6, 7, 8] : List Nat) hC rfl (fun H locs hP hD hS => ?_)
  have hP : va_P D kCl (kWX1_deriveSeeds cB cI cL cBB cII cSh h_this a_this a_this_sponge h_a1 n_a1 h_a2 n_a2 w_2 w_20 f_21 f_22 f_23 f_this_sponge_turns f_this_sponge_targets f_this_sponge_roundConstants f_24 f_a1 f_a2) H := hP
  have hD : va_D A (kWX1_deriveSeeds cB cI cL cBB cII cSh h_this a_this a_this_sponge h_a1 n_a1 h_a2 n_a2 w_2 w_20 f_21 f_22 f_23 f_this_sponge_turns f_this_sponge_targets f_this_sponge_roundConstants f_24 f_a1 f_a2) := hD
  obtain rfl := Option.some.inj h
  exact W.vret hx hb hr (fun t ht hW => ⟨⟨rfl, by rw [ht]; exact hP, va_K.moved hW.alike hK, hD⟩, hS.F ht⟩) hS.2.2 kdX1_deriveSeeds_54

-- 501.ModuleKemModel.named.lean.txt
abbrev kWX5_named (cB cI cL cBB cII cSh : ClassId) (h_this : Nat) (a_this : Nat → Nat) (h_a1 : Nat) (n_a1 : Nat) (this_taped : Int32) (this_code : Int32) (this_kind : Int32) (this_rate : Int32) (this_filled : Int32) (this_total : Int64) (this_bitAt : Int32) (this_k : Int32) (this_e1 : Int32) (this_du : Int32) (this_dv : Int32) (f_this_roots : Nat → Int64) (f_this_cubes : Nat → Int64) (f_this_start224 : Nat → Int64) (f_this_start256 : Nat → Int64) (f_this_turns : Nat → Int32) (f_this_round : Nat → Int64) (f_this_state : Nat → Int64) (f_this_other : Nat → Int64) (f_this_column : Nat → Int64) (f_this_words : Nat → Int64) (f_this_block : Nat → Int32) (f_a1 : Nat → Int64) : va_W := [(h_this, koX5 a_this this_taped this_code this_kind this_rate this_filled this_total this_bitAt this_k this_e1 this_du this_dv), ((a_this 5), .inl (cL, 16, .inr (.inl f_this_roots))), ((a_this 6), .inl (cL, 80, .inr (.inl f_this_cubes))), ((a_this 7), .inl (cL, 8, .inr (.inl f_this_start224))), ((a_this 8), .inl (cL, 8, .inr (.inl f_this_start256))), ((a_this 11), .inl (cI, 25, .inl f_this_turns)), ((a_this 12), .inl (cL, 24, .inr (.inl f_this_round))), ((a_this 13), .inl (cL, 25, .inr (.inl f_this_state))), ((a_this 14), .inl (cL, 25, .inr (.inl f_this_other))), ((a_this 15), .inl (cL, 5, .inr (.inl f_this_column))), ((a_this 16), .inl (cL, 80, .inr (.inl f_this_words))), ((a_this 17), .inl (cB, 128, .inl f_this_block)), (h_a1, .inl (cL, n_a1, .inr (.inl f_a1)))]
def krX5_named : Room := { frames := 4, cells := 0, slots := 0, locals := 107 }
set_option maxHeartbeats 4000000 in
set_option maxRecDepth 100000 in
theorem klX5_named_8 {p : Program} {l : Launch} {e : Env} {s : State} {m : MethodId} {args : Array Value} {below : List Frame} {meth : Method} {c : Code} {cells slots : Nat} {Q : State → Prop} {D : va_G} {cB cI cL cBB cII cSh : ClassId} {A : Nat → Prop} (C0 : CallFix p m c prog_8_method_21_code 5 s args kwA kRX5) (hlocks : meth.locks = false) (hK : va_K D kCl (kb_T cB cI cL cBB cII cSh) s) (hN : kb_N s) (hA : ∀ q, s.heap.size ≤ q → A q) (hcR : cells ≤ krX5_named.cells) (hsR : slots ≤ krX5_named.slots) (h_this h_a1 : Nat) (a_this : Nat → Nat) (p2 : Int32) (p3 : Int32) (n_a1 : Nat) (this_taped : Int32) (this_code : Int32) (w_2 : Int32) (w_3 : Int32) (w_1 : Int32) (w_4 : Int64) (this_bitAt : Int32) (this_k : Int32) (this_e1 : Int32) (this_du : Int32) (this_dv : Int32) (f_this_roots : Nat → Int64) (f_this_cubes : Nat → Int64) (f_this_start224 : Nat → Int64) (f_this_start256 : Nat → Int64) (f_this_turns : Nat → Int32) (f_this_round : Nat → Int64) (f_this_other : Nat → Int64) (f_this_column : Nat → Int64) (f_this_words : Nat → Int64) (f_this_block : Nat → Int32) (f_a1 : Nat → Int64) :
    ∀ (fuel : Nat) (x4p8 : Int32) (f_this_statep8 : Nat → Int64) (r : Int32 × (Nat → Int64)), kb_w (fun u : Int32 × (Nat → Int64) => kSX5_named_8 u.1 u.2) fuel (x4p8, f_this_statep8) = some r → ∀ (H : Heap) (locs : List Loc) (ls : Array Slot), va_P D kCl (kWX5_named cB cI cL cBB cII cSh h_this a_this h_a1 n_a1 this_taped this_code w_2 w_3 w_1 w_4 this_bitAt this_k this_e1 this_du this_dv f_this_roots f_this_cubes f_this_start224 f_this_start256 f_this_turns f_this_round f_this_statep8 f_this_other f_this_column f_this_words f_this_block f_a1) H → va_D A (kWX5_named cB cI cL cBB cII cSh h_this a_this h_a1 n_a1 this_taped this_code w_2 w_3 w_1 w_4 this_bitAt this_k this_e1 this_du this_dv f_this_roots f_this_cubes f_this_start224 f_this_start256 f_this_turns f_this_round f_this_statep8 f_this_other f_this_column f_this_words f_this_block f_a1) → va_S A s.heap H locs → lv_has ls 5 [(0, .ref h_this), (1, .ref h_a1), (2, .int p2), (3, .int p3), (4, .int x4p8)] → (∀ (x4p8' : Int32) (f_this_statep8' : Nat → Int64), r = (x4p8', f_this_statep8') → ∀ (H : Heap) (locs : List Loc) (ls : Array Slot), va_P D kCl (kWX5_named cB cI cL cBB cII cSh h_this a_this h_a1 n_a1 this_taped this_code w_2 w_3 w_1 w_4 this_bitAt this_k this_e1 this_du this_dv f_this_roots f_this_cubes f_this_start224 f_this_start256 f_this_turns f_this_round f_this_statep8' f_this_other f_this_column f_this_words f_this_block f_a1) H → va_D A (kWX5_named cB cI cL cBB cII cSh h_this a_this h_a1 n_a1 this_taped this_code w_2 w_3 w_1 w_4 this_bitAt this_k this_e1 this_du this_dv f_this_roots f_this_cubes f_this_start224 f_this_start256 f_this_turns f_this_round f_this_statep8' f_this_other f_this_column f_this_words f_this_block f_a1) → va_S A s.heap H locs → lv_has ls 5 [(0, .ref h_this), (1, .ref h_a1), (2, .int p2), (3, .int p3), (4, .int x4p8')] → W p l e krX5_named s m args below meth c H locs cells slots Q (F0 m 34 ls [])) → W p l e krX5_named s m args below meth c H locs cells slots Q (F0 m 8 ls []) := by
  obtain ⟨hx, hb, hml, hown, hts⟩ := id C0
  intro fuel
  induction fuel with
  | zero =>
    intro x4p8 f_this_statep8 r h
    exact absurd h (kb_w_z _ _ _)
  | succ fuel ih =>
    intro x4p8 f_this_statep8 r h H locs ls hP hD hS hl hk0
    obtain ⟨o, h, ho⟩ := kb_w_s h
    have h : kSX5_named_8 x4p8 f_this_statep8 = some o := h
    unfold kSX5_named_8 at h
    refine lv_iload hx hb kdX5_named_8 (lv_at hl 4 rfl) ?_
    refine lv_bipush (v := 8) hx hb kdX5_named_10 (by decide) ?_
    refine lv_icmp_ge (tgt := 34) hx hb kdX5_named_12 (by decide) (fun c_7 => ?_) (fun c_7 => ?_)
    · have h := kb_b_t c_7 h
      obtain rfl := Option.some.inj h
      exact hk0 x4p8 f_this_statep8 ho.symm _ _ _ hP hD hS (lv_sub hl [0, 1, 2, 3, 4] rfl)
    · have h := kb_b_f c_7 h
      refine lv_aload_n hx hb kdX5_named_15 rfl (lv_at hl 0 rfl) ?_
      refine va_get (ci := 5) (v := .ref (a_this 13)) (C := kRX5) (T := kTX5) (N := 35) hx hb hts kinX5 hown hK hP 0 rfl rfl 13 (by decide) (hts _ km_694) (fun _ h9 => h9) rfl kdX5_named_16 ?_
      refine lv_iload hx hb kdX5_named_19 (lv_at hl 4 rfl) ?_
      refine lv_dup2_11 hx hb kdX5_named_21 rfl rfl ?_
      obtain ⟨g_8, h⟩ := kb_g_s h
      refine va_lald hx hb hK hP 7 2 rfl rfl (kb_in_v g_8) kdX5_named_22 ?_
      refine lv_ldc2 (v := -6510615555426900571) hx hb hown (hts _ km_640) kdX5_named_23 ?_
      refine lv_lxor hx hb kdX5_named_26 ?_
      obtain ⟨g_9, h⟩ := kb_g_s h
      refine va_last hx hb hK hP hD hS 7 2 rfl rfl (kb_in_v g_9) kdX5_named_27 (fun H locs hP hD hS => ?_)
      obtain ⟨f_10, ef_10⟩ : ∃ y, y = vp_updL f_this_statep8 x4p8.toNatClampNeg ((f_this_statep8 x4p8.toNatClampNeg) ^^^ (-6510615555426900571 : Int64)) := ⟨_, rfl⟩
      have h := kb_n_s ef_10 h
      have hP : va_P D kCl (kWX5_named cB cI cL cBB cII cSh h_this a_this h_a1 n_a1 this_taped this_code w_2 w_3 w_1 w_4 this_bitAt this_k this_e1 this_du this_dv f_this_roots f_this_cubes f_this_start224 f_this_start256 f_this_turns f_this_round f_10 f_this_other f_this_column f_this_words f_this_block f_a1) H := by rw [ef_10]; exact hP
      have hD : va_D A (kWX5_named cB cI cL cBB cII cSh h_this a_this h_a1 n_a1 this_taped this_code w_2 w_3 w_1 w_4 this_bitAt this_k this_e1 this_du this_dv f_this_roots f_this_cubes f_this_start224 f_this_start256 f_this_turns f_this_round f_10 f_this_other f_this_column f_this_words f_this_block f_a1) := by rw [ef_10]; exact hD
      obtain ⟨x4_11, ex4_11⟩ : ∃ y : Int32, y = x4p8 + Int32.ofInt 1 := ⟨_, rfl⟩
      have h := kb_n_s ex4_11 h
      refine lv_iinc (v := x4_11) (lv' := [(4, .int x4_11), (0, .ref h_this), (1, .ref h_a1), (2, .int p2), (3, .int p3)]) hx hb kdX5_named_28 hl (k := 4) rfl ex4_11.symm (by decide) rfl (fun ls hl => ?_)
      refine lv_goto (tgt := 8) hx hb kdX5_named_31 (by decide) ?_
      obtain rfl := Option.some.inj h
      exact ih x4_11 f_10 r ho _ _ _ hP hD hS (lv_sub hl [1, 2, 3, 4, 0] rfl) hk0
set_option maxHeartbeats 4000000 in
set_option maxRecDepth 100000 in
theorem klX5_named_105 {p : Program} {l : Launch} {e : Env} {s : State} {m : MethodId} {args : Array Value} {below : List Frame} {meth : Method} {c : Code} {cells slots : Nat} {Q : State → Prop} {D : va_G} {cB cI cL cBB cII cSh : ClassId} {A : Nat → Prop} (C0 : CallFix p m c prog_8_method_21_code 5 s args kwA kRX5) (hlocks : meth.locks = false) (hK : va_K D kCl (kb_T cB cI cL cBB cII cSh) s) (hN : kb_N s) (hA : ∀ q, s.heap.size ≤ q → A q) (hcR : cells ≤ krX5_named.cells) (hsR : slots ≤ krX5_named.slots) (h_this h_a1 : Nat) (a_this : Nat → Nat) (n_a1 : Nat) (this_taped : Int32) (this_code : Int32) (w_2 : Int32) (w_3 : Int32) (w_102 : Int32) (w_103 : Int64) (this_bitAt : Int32) (this_k : Int32) (this_e1 : Int32) (this_du : Int32) (this_dv : Int32) (f_this_roots : Nat → Int64) (f_this_cubes : Nat → Int64) (f_this_start224 : Nat → Int64) (f_this_start256 : Nat → Int64) (f_this_turns : Nat → Int32) (f_this_round : Nat → Int64) (f_104 : Nat → Int64) (f_105 : Nat → Int64) (f_106 : Nat → Int64) (f_107 : Nat → Int64) (f_108 : Nat → Int32) :
    ∀ (fuel : Nat) (x4p105 : Int32) (f_a1p105 : Nat → Int64) (r : Int32 × (Nat → Int64)), kb_w (fun u : Int32 × (Nat → Int64) => kSX5_named_105 n_a1 f_104 u.1 u.2) fuel (x4p105, f_a1p105) = some r → ∀ (H : Heap) (locs : List Loc) (ls : Array Slot), va_P D kCl (kWX5_named cB cI cL cBB cII cSh h_this a_this h_a1 n_a1 this_taped this_code w_2 w_3 w_102 w_103 this_bitAt this_k this_e1 this_du this_dv f_this_roots f_this_cubes f_this_start224 f_this_start256 f_this_turns f_this_round f_104 f_105 f_106 f_107 f_108 f_a1p105) H → va_D A (kWX5_named cB cI cL cBB cII cSh h_this a_this h_a1 n_a1 this_taped this_code w_2 w_3 w_102 w_103 this_bitAt this_k this_e1 this_du this_dv f_this_roots f_this_cubes f_this_start224 f_this_start256 f_this_turns f_this_round f_104 f_105 f_106 f_107 f_108 f_a1p105) → va_S A s.heap H locs → lv_has ls 5 [(0, .ref h_this), (1, .ref h_a1), (4, .int x4p105)] → (∀ (x4p105' : Int32) (f_a1p105' : Nat → Int64), r = (x4p105', f_a1p105') → ∀ (H : Heap) (locs : List Loc) (ls : Array Slot), va_P D kCl (kWX5_named cB cI cL cBB cII cSh h_this a_this h_a1 n_a1 this_taped this_code w_2 w_3 w_102 w_103 this_bitAt this_k this_e1 this_du this_dv f_this_roots f_this_cubes f_this_start224 f_this_start256 f_this_turns f_this_round f_104 f_105 f_106 f_107 f_108 f_a1p105') H → va_D A (kWX5_named cB cI cL cBB cII cSh h_this a_this h_a1 n_a1 this_taped this_code w_2 w_3 w_102 w_103 this_bitAt this_k this_e1 this_du this_dv f_this_roots f_this_cubes f_this_start224 f_this_start256 f_this_turns f_this_round f_104 f_105 f_106 f_107 f_108 f_a1p105') → va_S A s.heap H locs → lv_has ls 5 [(0, .ref h_this), (1, .ref h_a1), (4, .int x4p105')] → W p l e krX5_named s m args below meth c H locs cells slots Q (F0 m 129 ls [])) → W p l e krX5_named s m args below meth c H locs cells slots Q (F0 m 105 ls []) := by
  obtain ⟨hx, hb, hml, hown, hts⟩ := id C0
  intro fuel
  induction fuel with
  | zero =>
    intro x4p105 f_a1p105 r h
    exact absurd h (kb_w_z _ _ _)
  | succ fuel ih =>
    intro x4p105 f_a1p105 r h H locs ls hP hD hS hl hk0
    obtain ⟨o, h, ho⟩ := kb_w_s h
    have h : kSX5_named_105 n_a1 f_104 x4p105 f_a1p105 = some o := h
    unfold kSX5_named_105 at h
    refine lv_iload hx hb kdX5_named_105 (lv_at hl 2 rfl) ?_
    refine lv_bipush (v := 8) hx hb kdX5_named_107 (by decide) ?_
    refine lv_icmp_ge (tgt := 129) hx hb kdX5_named_109 (by decide) (fun c_110 => ?_) (fun c_110 => ?_)
    · have h := kb_b_t c_110 h
      obtain rfl := Option.some.inj h
      exact hk0 x4p105 f_a1p105 ho.symm _ _ _ hP hD hS (lv_sub hl [0, 1, 2] rfl)
    · have h := kb_b_f c_110 h
      refine lv_aload_n hx hb kdX5_named_112 rfl (lv_at hl 1 rfl) ?_
      refine lv_iload hx hb kdX5_named_113 (lv_at hl 2 rfl) ?_
      refine lv_aload_n hx hb kdX5_named_115 rfl (lv_at hl 0 rfl) ?_
      refine va_get (ci := 5) (v := .ref (a_this 13)) (C := kRX5) (T := kTX5) (N := 35) hx hb hts kinX5 hown hK hP 0 rfl rfl 13 (by decide) (hts _ km_694) (fun _ h9 => h9) rfl kdX5_named_116 ?_
      refine lv_iload hx hb kdX5_named_119 (lv_at hl 2 rfl) ?_
      obtain ⟨g_111, h⟩ := kb_g_s h
      refine va_lald hx hb hK hP 7 2 rfl rfl (kb_in_v g_111) kdX5_named_121 ?_
      obtain ⟨g_112, h⟩ := kb_g_s h
      refine va_last hx hb hK hP hD hS 12 2 rfl rfl (kb_in_v g_112) kdX5_named_122 (fun H locs hP hD hS => ?_)
      obtain ⟨f_113, ef_113⟩ : ∃ y, y = vp_updL f_a1p105 x4p105.toNatClampNeg (f_104 x4p105.toNatClampNeg) := ⟨_, rfl⟩
      have h := kb_n_s ef_113 h
      have hP : va_P D kCl (kWX5_named cB cI cL cBB cII cSh h_this a_this h_a1 n_a1 this_taped this_code w_2 w_3 w_102 w_103 this_bitAt this_k this_e1 this_du this_dv f_this_roots f_this_cubes f_this_start224 f_this_start256 f_this_turns f_this_round f_104 f_105 f_106 f_107 f_108 f_113) H := by rw [ef_113]; exact hP
      have hD : va_D A (kWX5_named cB cI cL cBB cII cSh h_this a_this h_a1 n_a1 this_taped this_code w_2 w_3 w_102 w_103 this_bitAt this_k this_e1 this_du this_dv f_this_roots f_this_cubes f_this_start224 f_this_start256 f_this_turns f_this_round f_104 f_105 f_106 f_107 f_108 f_113) := by rw [ef_113]; exact hD
      obtain ⟨x4_114, ex4_114⟩ : ∃ y : Int32, y = x4p105 + Int32.ofInt 1 := ⟨_, rfl⟩
      have h := kb_n_s ex4_114 h
      refine lv_iinc (v := x4_114) (lv' := [(4, .int x4_114), (0, .ref h_this), (1, .ref h_a1)]) hx hb kdX5_named_123 hl (k := 2) rfl ex4_114.symm (by decide) rfl (fun ls hl => ?_)
      refine lv_goto (tgt := 105) hx hb kdX5_named_126 (by decide) ?_
      obtain rfl := Option.some.inj h
      exact ih x4_114 f_113 r ho _ _ _ hP hD hS (lv_sub hl [1, 2, 0] rfl) hk0
set_option maxHeartbeats 4000000 in
set_option maxRecDepth 100000 in
theorem kcX5_named (l : Launch) (D : va_G) (cB cI cL cBB cII cSh : ClassId) (h_this h_a1 : Nat) (a_this : Nat → Nat) (sz : Nat) (p2 : Int32) (p3 : Int32) (n_a1 : Nat) (this_taped : Int32) (this_code : Int32) (this_kind : Int32) (this_rate : Int32) (this_filled : Int32) (this_total : Int64) (this_bitAt : Int32) (this_k : Int32) (this_e1 : Int32) (this_du : Int32) (this_dv : Int32) (f_this_roots : Nat → Int64) (f_this_cubes : Nat → Int64) (f_this_start224 : Nat → Int64) (f_this_start256 : Nat → Int64) (f_this_turns : Nat → Int32) (f_this_round : Nat → Int64) (f_this_state : Nat → Int64) (f_this_other : Nat → Int64) (f_this_column : Nat → Int64) (f_this_words : Nat → Int64) (f_this_block : Nat → Int32) (f_a1 : Nat → Int64) (out : Int32 × Int32 × Int32 × Int64 × (Nat → Int64) × (Nat → Int64) × (Nat → Int64) × (Nat → Int64) × (Nat → Int32) × (Nat → Int64)) (h : kFX5_named p2 p3 n_a1 f_this_roots f_this_cubes f_this_start224 f_this_start256 f_this_turns f_this_round f_this_state f_this_other f_this_column f_this_words f_this_block f_a1 = some out) : Met l kyX5_named kwX5_named krX5_named (kb_P D kCl (kb_T cB cI cL cBB cII cSh) [.ref h_this, .ref h_a1, .int p2, .int p3] (kWX5_named cB cI cL cBB cII cSh h_this a_this h_a1 n_a1 this_taped this_code this_kind this_rate this_filled this_total this_bitAt this_k this_e1 this_du this_dv f_this_roots f_this_cubes f_this_start224 f_this_start256 f_this_turns f_this_round f_this_state f_this_other f_this_column f_this_words f_this_block f_a1) sz) (kb_Q D kCl (kb_T cB cI cL cBB cII cSh) (va_A (kWX5_named cB cI cL cBB cII cSh h_this a_this h_a1 n_a1 this_taped this_code this_kind this_rate this_filled this_total this_bitAt this_k this_e1 this_du this_dv f_this_roots f_this_cubes f_this_start224 f_this_start256 f_this_turns f_this_round f_this_state f_this_other f_this_column f_this_words f_this_block f_a1) sz) none (kWX5_named cB cI cL cBB cII cSh h_this a_this h_a1 n_a1 this_taped this_code out.2.1 out.2.2.1 out.1 out.2.2.2.1 this_bitAt this_k this_e1 this_du this_dv f_this_roots f_this_cubes f_this_start224 f_this_start256 f_this_turns f_this_round out.2.2.2.2.1 out.2.2.2.2.2.1 out.2.2.2.2.2.2.1 out.2.2.2.2.2.2.2.1 out.2.2.2.2.2.2.2.2.1 out.2.2.2.2.2.2.2.2.2)) 0 0 (va_A (kWX5_named cB cI cL cBB cII cSh h_this a_this h_a1 n_a1 this_taped this_code this_kind this_rate this_filled this_total this_bitAt this_k this_e1 this_du this_dv f_this_roots f_this_cubes f_this_start224 f_this_start256 f_this_turns f_this_round f_this_state f_this_other f_this_column f_this_words f_this_block f_a1) sz) := by
  refine Met.ofW (cc := prog_8_method_21_code) (maxL := 5) (ret := none) (by decide) rfl ?_
  intro p e s m args below meth c s₁ B hml hv
  obtain ⟨rfl, hsz, hP, hK, hN, hD0⟩ := hv
  have hx := B.exec
  have hb := B.bytes
  have hr := B.returns
  have hts0 := atoms_spec (ws := kwX5_named) B.pre
  have hts : ∀ w ∈ kwA, w.before _ s = true := fun w h => hts0 w (List.mem_cons_of_mem _ h)
  have hown : s.vm.findClass kRX5 = some m.cls := findClass_of_methodNamed B.named
  have hlocks := B.notSynchronized
  subst hsz
  have hD := hD0.self (sz := s.heap.size)
  generalize hAe : va_A (kWX5_named cB cI cL cBB cII cSh h_this a_this h_a1 n_a1 this_taped this_code this_kind this_rate this_filled this_total this_bitAt this_k this_e1 this_du this_dv f_this_roots f_this_cubes f_this_start224 f_this_start256 f_this_turns f_this_round f_this_state f_this_other f_this_column f_this_words f_this_block f_a1) s.heap.size = A at hD ⊢
  have hA : ∀ q : Nat, s.heap.size ≤ q → A q := fun q h => by rw [← hAe]; exact Or.inr h
  have hS : va_S A s.heap s.heap [] := va_S.rf
  have C0 : CallFix p m c prog_8_method_21_code 5 s _ kwA kRX5 := ⟨hx, hb, hml, hown, hts⟩
  have hl := lv_entry ([.ref h_this, .ref h_a1, .int p2, .int p3]) (n := 5) (Nat.le_of_ble_eq_true rfl)
  rw [lg_entry_eq]
  generalize (lg_sl ([.ref h_this, .ref h_a1, .int p2, .int p3]) ++ List.replicate (5 - (lg_sl ([.ref h_this, .ref h_a1, .int p2, .int p3])).length) Slot.unset).toArray = ls at hl ⊢
  have hl : lv_has ls 5 [(0, .ref h_this), (1, .ref h_a1), (2, .int p2), (3, .int p3)] := hl
  unfold kFX5_named at h
  refine lv_aload_n hx hb kdX5_named_0 rfl (lv_at hl 0 rfl) ?_
  refine lv_iconst (v := 3) hx hb kdX5_named_1 (by decide) ?_
  obtain ⟨u_6, hu_6, h⟩ := kb_o_s h
  obtain ⟨w_1, w_2, w_3, w_4, f_5⟩ := u_6
  have hC := (show ([0, 1, 3, 4, 7] : List Nat).map (fun i : Nat => (kWX5_named cB cI cL cBB cII cSh h_this a_this h_a1 n_a1 this_taped this_code this_kind this_rate this_filled this_total this_bitAt this_k this_e1 this_du this_dv f_this_roots f_this_cubes f_this_start224 f_this_start256 f_this_turns f_this_round f_this_state f_this_other f_this_column f_this_words f_this_block f_a1)[i]?) = List.map some (kWX5_begin cB cI cL cBB cII cSh h_this a_this this_taped this_code this_kind this_rate this_filled this_total this_bitAt this_k this_e1 this_du this_dv f_this_roots f_this_start224 f_this_start256 f_this_state) from rfl)
  have hPc := kb_Psub hP ([0, 1, 3, 4, 7] : List Nat) hC
  have hDc := kb_Dsub hD ([0, 1, 3, 4, 7] : List Nat) hC (by simp [kb_nd])
  refine kb_call0 (va_runV (As := [.int (3 : Int32)]) (rest := []) C0 (kcX5_begin l D cB cI cL cBB cII cSh h_this a_this _ (3 : Int32) this_taped this_code this_kind this_rate this_filled this_total this_bitAt this_k this_e1 this_du this_dv f_this_roots f_this_start224 f_this_start256 f_this_state (w_1, w_2, w_3, w_4, f_5) hu_6) (cwV 1 hts (kb_gV km_629 km_631 kp_4 km_6 km_632) rfl rfl rfl (by decide +kernel) ⟨Nat.le_of_ble_eq_true rfl, Nat.le_of_ble_eq_true rfl⟩) ⟨kb_P_bl, va_recv hK hP (ci := 5) (q0 := 0) rfl rfl, (fun U hU hW => ⟨rfl, by rw [hU], by rw [hU]; exact hPc, va_K.moved hW.alike hK, kb_N_to hW hN, hDc.weaken (fun _ _ _ _ => trivial)⟩)⟩ rfl rfl hl.1 rfl (lv_room (Nat.le_of_ble_eq_true rfl)) kdX5_named_2 ⟨Nat.le_of_ble_eq_true rfl, Nat.le_of_ble_eq_true rfl⟩) hP hD hS hA ([0, 1, 3, 4, 7] : List Nat) hC rfl (fun H locs hP hD hS => ?_)
  have hP : va_P D kCl (kWX5_named cB cI cL cBB cII cSh h_this a_this h_a1 n_a1 this_taped this_code w_2 w_3 w_1 w_4 this_bitAt this_k this_e1 this_du this_dv f_this_roots f_this_cubes f_this_start224 f_this_start256 f_this_turns f_this_round f_5 f_this_other f_this_column f_this_words f_this_block f_a1) H := hP
  have hD : va_D A (kWX5_named cB cI cL cBB cII cSh h_this a_this h_a1 n_a1 this_taped this_code w_2 w_3 w_1 w_4 this_bitAt this_k this_e1 this_du this_dv f_this_roots f_this_cubes f_this_start224 f_this_start256 f_this_turns f_this_round f_5 f_this_other f_this_column f_this_words f_this_block f_a1) := hD
  refine lv_iconst (v := 0) hx hb kdX5_named_5 (by decide) ?_
  refine lv_istore (lv' := [(4, .int (0 : Int32)), (0, .ref h_this), (1, .ref h_a1), (2, .int p2), (3, .int p3)]) hx hb kdX5_named_6 hl (by decide) rfl (fun ls hl => ?_)
  obtain ⟨r_118, hr_118, h⟩ := kb_o_s h
  refine klX5_named_8 C0 hlocks hK hN hA (by decide) (by decide) h_this h_a1 a_this p2 p3 n_a1 this_taped this_code w_2 w_3 w_1 w_4 this_bitAt this_k this_e1 this_du this_dv f_this_roots f_this_cubes f_this_start224 f_this_start256 f_this_turns f_this_round f_this_other f_this_column f_this_words f_this_block f_a1 100000 (0 : Int32) f_5 r_118 hr_118 _ _ _ hP hD hS (lv_sub hl [1, 2, 3, 4, 0] rfl) (fun x4p8_12 f_this_statep8_13 er_118 H locs ls hP hD hS hl => ?_)
  subst er_118
  refine lv_aload_n hx hb kdX5_named_34 rfl (lv_at hl 0 rfl) ?_
  refine lv_bipush (v := 83) hx hb kdX5_named_35 (by decide) ?_
  obtain ⟨u_21, hu_21, h⟩ := kb_o_s h
  obtain ⟨w_14, w_15, f_16, f_17, f_18, f_19, f_20⟩ := u_21
  have hC := (show ([0, 2, 5, 6, 7, 8, 9, 10, 11] : List Nat).map (fun i : Nat => (kWX5_named cB cI cL cBB cII cSh h_this a_this h_a1 n_a1 this_taped this_code w_2 w_3 w_1 w_4 this_bitAt this_k this_e1 this_du this_dv f_this_roots f_this_cubes f_this_start224 f_this_start256 f_this_turns f_this_round f_this_statep8_13 f_this_other f_this_column f_this_words f_this_block f_a1)[i]?) = List.map some (kWX5_put cB cI cL cBB cII cSh h_this a_this this_taped this_code w_2 w_3 w_1 w_4 this_bitAt this_k this_e1 this_du this_dv f_this_cubes f_this_turns f_this_round f_this_statep8_13 f_this_other f_this_column f_this_words f_this_block) from rfl)
  have hPc := kb_Psub hP ([0, 2, 5, 6, 7, 8, 9, 10, 11] : List Nat) hC
  have hDc := kb_Dsub hD ([0, 2, 5, 6, 7, 8, 9, 10, 11] : List Nat) hC (by simp [kb_nd])
  refine kb_call0 (va_runV (As := [.int (83 : Int32)]) (rest := []) C0 (kcX5_put l D cB cI cL cBB cII cSh h_this a_this _ (83 : Int32) this_taped this_code w_2 w_3 w_1 w_4 this_bitAt this_k this_e1 this_du this_dv f_this_cubes f_this_turns f_this_round f_this_statep8_13 f_this_other f_this_column f_this_words f_this_block (w_14, w_15, f_16, f_17, f_18, f_19, f_20) hu_21) (cwV 1 hts (kb_gV km_641 km_643 kp_22 km_6 km_644) rfl rfl rfl (by decide +kernel) ⟨Nat.le_of_ble_eq_true rfl, Nat.le_of_ble_eq_true rfl⟩) ⟨kb_P_bl, va_recv hK hP (ci := 5) (q0 := 0) rfl rfl, (fun U hU hW => ⟨rfl, by rw [hU], by rw [hU]; exact hPc, va_K.moved hW.alike hK, kb_N_to hW hN, hDc.weaken (fun _ _ _ _ => trivial)⟩)⟩ rfl rfl hl.1 rfl (lv_room (Nat.le_of_ble_eq_true rfl)) kdX5_named_37 ⟨Nat.le_of_ble_eq_true rfl, Nat.le_of_ble_eq_true rfl⟩) hP hD hS hA ([0, 2, 5, 6, 7, 8, 9, 10, 11] : List Nat) hC rfl (fun H locs hP hD hS => ?_)
  have hP : va_P D kCl (kWX5_named cB cI cL cBB cII cSh h_this a_this h_a1 n_a1 this_taped this_code w_2 w_3 w_14 w_15 this_bitAt this_k this_e1 this_du this_dv f_this_roots f_this_cubes f_this_start224 f_this_start256 f_this_turns f_this_round f_16 f_17 f_18 f_19 f_20 f_a1) H := hP
  have hD : va_D A (kWX5_named cB cI cL cBB cII cSh h_this a_this h_a1 n_a1 this_taped this_code w_2 w_3 w_14 w_15 this_bitAt this_k this_e1 this_du this_dv f_this_roots f_this_cubes f_this_start224 f_this_start256 f_this_turns f_this_round f_16 f_17 f_18 f_19 f_20 f_a1) := hD
  refine lv_aload_n hx hb kdX5_named_40 rfl (lv_at hl 0 rfl) ?_
  refine lv_bipush (v := 72) hx hb kdX5_named_41 (by decide) ?_
  obtain ⟨u_29, hu_29, h⟩ := kb_o_s h
  obtain ⟨w_22, w_23, f_24, f_25, f_26, f_27, f_28⟩ := u_29
  have hC := (show ([0, 2, 5, 6, 7, 8, 9, 10, 11] : List Nat).map (fun i : Nat => (kWX5_named cB cI cL cBB cII cSh h_this a_this h_a1 n_a1 this_taped this_code w_2 w_3 w_14 w_15 this_bitAt this_k this_e1 this_du this_dv f_this_roots f_this_cubes f_this_start224 f_this_start256 f_this_turns f_this_round f_16 f_17 f_18 f_19 f_20 f_a1)[i]?) = List.map some (kWX5_put cB cI cL cBB cII cSh h_this a_this this_taped this_code w_2 w_3 w_14 w_15 this_bitAt this_k this_e1 this_du this_dv f_this_cubes f_this_turns f_this_round f_16 f_17 f_18 f_19 f_20) from rfl)
  have hPc := kb_Psub hP ([0, 2, 5, 6, 7, 8, 9, 10, 11] : List Nat) hC
  have hDc := kb_Dsub hD ([0, 2, 5, 6, 7, 8, 9, 10, 11] : List Nat) hC (by simp [kb_nd])
  refine kb_call0 (va_runV (As := [.int (72 : Int32)]) (rest := []) C0 (kcX5_put l D cB cI cL cBB cII cSh h_this a_this _ (72 : Int32) this_taped this_code w_2 w_3 w_14 w_15 this_bitAt this_k this_e1 this_du this_dv f_this_cubes f_this_turns f_this_round f_16 f_17 f_18 f_19 f_20 (w_22, w_23, f_24, f_25, f_26, f_27, f_28) hu_29) (cwV 1 hts (kb_gV km_641 km_643 kp_22 km_6 km_644) rfl rfl rfl (by decide +kernel) ⟨Nat.le_of_ble_eq_true rfl, Nat.le_of_ble_eq_true rfl⟩) ⟨kb_P_bl, va_recv hK hP (ci := 5) (q0 := 0) rfl rfl, (fun U hU hW => ⟨rfl, by rw [hU], by rw [hU]; exact hPc, va_K.moved hW.alike hK, kb_N_to hW hN, hDc.weaken (fun _ _ _ _ => trivial)⟩)⟩ rfl rfl hl.1 rfl (lv_room (Nat.le_of_ble_eq_true rfl)) kdX5_named_43 ⟨Nat.le_of_ble_eq_true rfl, Nat.le_of_ble_eq_true rfl⟩) hP hD hS hA ([0, 2, 5, 6, 7, 8, 9, 10, 11] : List Nat) hC rfl (fun H locs hP hD hS => ?_)
  have hP : va_P D kCl (kWX5_named cB cI cL cBB cII cSh h_this a_this h_a1 n_a1 this_taped this_code w_2 w_3 w_22 w_23 this_bitAt this_k this_e1 this_du this_dv f_this_roots f_this_cubes f_this_start224 f_this_start256 f_this_turns f_this_round f_24 f_25 f_26 f_27 f_28 f_a1) H := hP
  have hD : va_D A (kWX5_named cB cI cL cBB cII cSh h_this a_this h_a1 n_a1 this_taped this_code w_2 w_3 w_22 w_23 this_bitAt this_k this_e1 this_du this_dv f_this_roots f_this_cubes f_this_start224 f_this_start256 f_this_turns f_this_round f_24 f_25 f_26 f_27 f_28 f_a1) := hD
  refine lv_aload_n hx hb kdX5_named_46 rfl (lv_at hl 0 rfl) ?_
  refine lv_bipush (v := 65) hx hb kdX5_named_47 (by decide) ?_
  obtain ⟨u_37, hu_37, h⟩ := kb_o_s h
  obtain ⟨w_30, w_31, f_32, f_33, f_34, f_35, f_36⟩ := u_37
  have hC := (show ([0, 2, 5, 6, 7, 8, 9, 10, 11] : List Nat).map (fun i : Nat => (kWX5_named cB cI cL cBB cII cSh h_this a_this h_a1 n_a1 this_taped this_code w_2 w_3 w_22 w_23 this_bitAt this_k this_e1 this_du this_dv f_this_roots f_this_cubes f_this_start224 f_this_start256 f_this_turns f_this_round f_24 f_25 f_26 f_27 f_28 f_a1)[i]?) = List.map some (kWX5_put cB cI cL cBB cII cSh h_this a_this this_taped this_code w_2 w_3 w_22 w_23 this_bitAt this_k this_e1 this_du this_dv f_this_cubes f_this_turns f_this_round f_24 f_25 f_26 f_27 f_28) from rfl)
  have hPc := kb_Psub hP ([0, 2, 5, 6, 7, 8, 9, 10, 11] : List Nat) hC
  have hDc := kb_Dsub hD ([0, 2, 5, 6, 7, 8, 9, 10, 11] : List Nat) hC (by simp [kb_nd])
  refine kb_call0 (va_runV (As := [.int (65 : Int32)]) (rest := []) C0 (kcX5_put l D cB cI cL cBB cII cSh h_this a_this _ (65 : Int32) this_taped this_code w_2 w_3 w_22 w_23 this_bitAt this_k this_e1 this_du this_dv f_this_cubes f_this_turns f_this_round f_24 f_25 f_26 f_27 f_28 (w_30, w_31, f_32, f_33, f_34, f_35, f_36) hu_37) (cwV 1 hts (kb_gV km_641 km_643 kp_22 km_6 km_644) rfl rfl rfl (by decide +kernel) ⟨Nat.le_of_ble_eq_true rfl, Nat.le_of_ble_eq_true rfl⟩) ⟨kb_P_bl, va_recv hK hP (ci := 5) (q0 := 0) rfl rfl, (fun U hU hW => ⟨rfl, by rw [hU], by rw [hU]; exact hPc, va_K.moved hW.alike hK, kb_N_to hW hN, hDc.weaken (fun _ _ _ _ => trivial)⟩)⟩ rfl rfl hl.1 rfl (lv_room (Nat.le_of_ble_eq_true rfl)) kdX5_named_49 ⟨Nat.le_of_ble_eq_true rfl, Nat.le_of_ble_eq_true rfl⟩) hP hD hS hA ([0, 2, 5, 6, 7, 8, 9, 10, 11] : List Nat) hC rfl (fun H locs hP hD hS => ?_)
  have hP : va_P D kCl (kWX5_named cB cI cL cBB cII cSh h_this a_this h_a1 n_a1 this_taped this_code w_2 w_3 w_30 w_31 this_bitAt this_k this_e1 this_du this_dv f_this_roots f_this_cubes f_this_start224 f_this_start256 f_this_turns f_this_round f_32 f_33 f_34 f_35 f_36 f_a1) H := hP
  have hD : va_D A (kWX5_named cB cI cL cBB cII cSh h_this a_this h_a1 n_a1 this_taped this_code w_2 w_3 w_30 w_31 this_bitAt this_k this_e1 this_du this_dv f_this_roots f_this_cubes f_this_start224 f_this_start256 f_this_turns f_this_round f_32 f_33 f_34 f_35 f_36 f_a1) := hD
  refine lv_aload_n hx hb kdX5_named_52 rfl (lv_at hl 0 rfl) ?_
  refine lv_bipush (v := 45) hx hb kdX5_named_53 (by decide) ?_
  obtain ⟨u_45, hu_45, h⟩ := kb_o_s h
  obtain ⟨w_38, w_39, f_40, f_41, f_42, f_43, f_44⟩ := u_45
  have hC := (show ([0, 2, 5, 6, 7, 8, 9, 10, 11] : List Nat).map (fun i : Nat => (kWX5_named cB cI cL cBB cII cSh h_this a_this h_a1 n_a1 this_taped this_code w_2 w_3 w_30 w_31 this_bitAt this_k this_e1 this_du this_dv f_this_roots f_this_cubes f_this_start224 f_this_start256 f_this_turns f_this_round f_32 f_33 f_34 f_35 f_36 f_a1)[i]?) = List.map some (kWX5_put cB cI cL cBB cII cSh h_this a_this this_taped this_code w_2 w_3 w_30 w_31 this_bitAt this_k this_e1 this_du this_dv f_this_cubes f_this_turns f_this_round f_32 f_33 f_34 f_35 f_36) from rfl)
  have hPc := kb_Psub hP ([0, 2, 5, 6, 7, 8, 9, 10, 11] : List Nat) hC
  have hDc := kb_Dsub hD ([0, 2, 5, 6, 7, 8, 9, 10, 11] : List Nat) hC (by simp [kb_nd])
  refine kb_call0 (va_runV (As := [.int (45 : Int32)]) (rest := []) C0 (kcX5_put l D cB cI cL cBB cII cSh h_this a_this _ (45 : Int32) this_taped this_code w_2 w_3 w_30 w_31 this_bitAt this_k this_e1 this_du this_dv f_this_cubes f_this_turns f_this_round f_32 f_33 f_34 f_35 f_36 (w_38, w_39, f_40, f_41, f_42, f_43, f_44) hu_45) (cwV 1 hts (kb_gV km_641 km_643 kp_22 km_6 km_644) rfl rfl rfl (by decide +kernel) ⟨Nat.le_of_ble_eq_true rfl, Nat.le_of_ble_eq_true rfl⟩) ⟨kb_P_bl, va_recv hK hP (ci := 5) (q0 := 0) rfl rfl, (fun U hU hW => ⟨rfl, by rw [hU], by rw [hU]; exact hPc, va_K.moved hW.alike hK, kb_N_to hW hN, hDc.weaken (fun _ _ _ _ => trivial)⟩)⟩ rfl rfl hl.1 rfl (lv_room (Nat.le_of_ble_eq_true rfl)) kdX5_named_55 ⟨Nat.le_of_ble_eq_true rfl, Nat.le_of_ble_eq_true rfl⟩) hP hD hS hA ([0, 2, 5, 6, 7, 8, 9, 10, 11] : List Nat) hC rfl (fun H locs hP hD hS => ?_)
  have hP : va_P D kCl (kWX5_named cB cI cL cBB cII cSh h_this a_this h_a1 n_a1 this_taped this_code w_2 w_3 w_38 w_39 this_bitAt this_k this_e1 this_du this_dv f_this_roots f_this_cubes f_this_start224 f_this_start256 f_this_turns f_this_round f_40 f_41 f_42 f_43 f_44 f_a1) H := hP
  have hD : va_D A (kWX5_named cB cI cL cBB cII cSh h_this a_this h_a1 n_a1 this_taped this_code w_2 w_3 w_38 w_39 this_bitAt this_k this_e1 this_du this_dv f_this_roots f_this_cubes f_this_start224 f_this_start256 f_this_turns f_this_round f_40 f_41 f_42 f_43 f_44 f_a1) := hD
  refine lv_aload_n hx hb kdX5_named_58 rfl (lv_at hl 0 rfl) ?_
  refine lv_bipush (v := 53) hx hb kdX5_named_59 (by decide) ?_
  obtain ⟨u_53, hu_53, h⟩ := kb_o_s h
  obtain ⟨w_46, w_47, f_48, f_49, f_50, f_51, f_52⟩ := u_53
  have hC := (show ([0, 2, 5, 6, 7, 8, 9, 10, 11] : List Nat).map (fun i : Nat => (kWX5_named cB cI cL cBB cII cSh h_this a_this h_a1 n_a1 this_taped this_code w_2 w_3 w_38 w_39 this_bitAt this_k this_e1 this_du this_dv f_this_roots f_this_cubes f_this_start224 f_this_start256 f_this_turns f_this_round f_40 f_41 f_42 f_43 f_44 f_a1)[i]?) = List.map some (kWX5_put cB cI cL cBB cII cSh h_this a_this this_taped this_code w_2 w_3 w_38 w_39 this_bitAt this_k this_e1 this_du this_dv f_this_cubes f_this_turns f_this_round f_40 f_41 f_42 f_43 f_44) from rfl)
  have hPc := kb_Psub hP ([0, 2, 5, 6, 7, 8, 9, 10, 11] : List Nat) hC
  have hDc := kb_Dsub hD ([0, 2, 5, 6, 7, 8, 9, 10, 11] : List Nat) hC (by simp [kb_nd])
  refine kb_call0 (va_runV (As := [.int (53 : Int32)]) (rest := []) C0 (kcX5_put l D cB cI cL cBB cII cSh h_this a_this _ (53 : Int32) this_taped this_code w_2 w_3 w_38 w_39 this_bitAt this_k this_e1 this_du this_dv f_this_cubes f_this_turns f_this_round f_40 f_41 f_42 f_43 f_44 (w_46, w_47, f_48, f_49, f_50, f_51, f_52) hu_53) (cwV 1 hts (kb_gV km_641 km_643 kp_22 km_6 km_644) rfl rfl rfl (by decide +kernel) ⟨Nat.le_of_ble_eq_true rfl, Nat.le_of_ble_eq_true rfl⟩) ⟨kb_P_bl, va_recv hK hP (ci := 5) (q0 := 0) rfl rfl, (fun U hU hW => ⟨rfl, by rw [hU], by rw [hU]; exact hPc, va_K.moved hW.alike hK, kb_N_to hW hN, hDc.weaken (fun _ _ _ _ => trivial)⟩)⟩ rfl rfl hl.1 rfl (lv_room (Nat.le_of_ble_eq_true rfl)) kdX5_named_61 ⟨Nat.le_of_ble_eq_true rfl, Nat.le_of_ble_eq_true rfl⟩) hP hD hS hA ([0, 2, 5, 6, 7, 8, 9, 10, 11] : List Nat) hC rfl (fun H locs hP hD hS => ?_)
  have hP : va_P D kCl (kWX5_named cB cI cL cBB cII cSh h_this a_this h_a1 n_a1 this_taped this_code w_2 w_3 w_46 w_47 this_bitAt this_k this_e1 this_du this_dv f_this_roots f_this_cubes f_this_start224 f_this_start256 f_this_turns f_this_round f_48 f_49 f_50 f_51 f_52 f_a1) H := hP
  have hD : va_D A (kWX5_named cB cI cL cBB cII cSh h_this a_this h_a1 n_a1 this_taped this_code w_2 w_3 w_46 w_47 this_bitAt this_k this_e1 this_du this_dv f_this_roots f_this_cubes f_this_start224 f_this_start256 f_this_turns f_this_round f_48 f_49 f_50 f_51 f_52 f_a1) := hD
  refine lv_aload_n hx hb kdX5_named_64 rfl (lv_at hl 0 rfl) ?_
  refine lv_bipush (v := 49) hx hb kdX5_named_65 (by decide) ?_
  obtain ⟨u_61, hu_61, h⟩ := kb_o_s h
  obtain ⟨w_54, w_55, f_56, f_57, f_58, f_59, f_60⟩ := u_61
  have hC := (show ([0, 2, 5, 6, 7, 8, 9, 10, 11] : List Nat).map (fun i : Nat => (kWX5_named cB cI cL cBB cII cSh h_this a_this h_a1 n_a1 this_taped this_code w_2 w_3 w_46 w_47 this_bitAt this_k this_e1 this_du this_dv f_this_roots f_this_cubes f_this_start224 f_this_start256 f_this_turns f_this_round f_48 f_49 f_50 f_51 f_52 f_a1)[i]?) = List.map some (kWX5_put cB cI cL cBB cII cSh h_this a_this this_taped this_code w_2 w_3 w_46 w_47 this_bitAt this_k this_e1 this_du this_dv f_this_cubes f_this_turns f_this_round f_48 f_49 f_50 f_51 f_52) from rfl)
  have hPc := kb_Psub hP ([0, 2, 5, 6, 7, 8, 9, 10, 11] : List Nat) hC
  have hDc := kb_Dsub hD ([0, 2, 5, 6, 7, 8, 9, 10, 11] : List Nat) hC (by simp [kb_nd])
  refine kb_call0 (va_runV (As := [.int (49 : Int32)]) (rest := []) C0 (kcX5_put l D cB cI cL cBB cII cSh h_this a_this _ (49 : Int32) this_taped this_code w_2 w_3 w_46 w_47 this_bitAt this_k this_e1 this_du this_dv f_this_cubes f_this_turns f_this_round f_48 f_49 f_50 f_51 f_52 (w_54, w_55, f_56, f_57, f_58, f_59, f_60) hu_61) (cwV 1 hts (kb_gV km_641 km_643 kp_22 km_6 km_644) rfl rfl rfl (by decide +kernel) ⟨Nat.le_of_ble_eq_true rfl, Nat.le_of_ble_eq_true rfl⟩) ⟨kb_P_bl, va_recv hK hP (ci := 5) (q0 := 0) rfl rfl, (fun U hU hW => ⟨rfl, by rw [hU], by rw [hU]; exact hPc, va_K.moved hW.alike hK, kb_N_to hW hN, hDc.weaken (fun _ _ _ _ => trivial)⟩)⟩ rfl rfl hl.1 rfl (lv_room (Nat.le_of_ble_eq_true rfl)) kdX5_named_67 ⟨Nat.le_of_ble_eq_true rfl, Nat.le_of_ble_eq_true rfl⟩) hP hD hS hA ([0, 2, 5, 6, 7, 8, 9, 10, 11] : List Nat) hC rfl (fun H locs hP hD hS => ?_)
  have hP : va_P D kCl (kWX5_named cB cI cL cBB cII cSh h_this a_this h_a1 n_a1 this_taped this_code w_2 w_3 w_54 w_55 this_bitAt this_k this_e1 this_du this_dv f_this_roots f_this_cubes f_this_start224 f_this_start256 f_this_turns f_this_round f_56 f_57 f_58 f_59 f_60 f_a1) H := hP
  have hD : va_D A (kWX5_named cB cI cL cBB cII cSh h_this a_this h_a1 n_a1 this_taped this_code w_2 w_3 w_54 w_55 this_bitAt this_k this_e1 this_du this_dv f_this_roots f_this_cubes f_this_start224 f_this_start256 f_this_turns f_this_round f_56 f_57 f_58 f_59 f_60 f_a1) := hD
  refine lv_aload_n hx hb kdX5_named_70 rfl (lv_at hl 0 rfl) ?_
  refine lv_bipush (v := 50) hx hb kdX5_named_71 (by decide) ?_
  obtain ⟨u_69, hu_69, h⟩ := kb_o_s h
  obtain ⟨w_62, w_63, f_64, f_65, f_66, f_67, f_68⟩ := u_69
  have hC := (show ([0, 2, 5, 6, 7, 8, 9, 10, 11] : List Nat).map (fun i : Nat => (kWX5_named cB cI cL cBB cII cSh h_this a_this h_a1 n_a1 this_taped this_code w_2 w_3 w_54 w_55 this_bitAt this_k this_e1 this_du this_dv f_this_roots f_this_cubes f_this_start224 f_this_start256 f_this_turns f_this_round f_56 f_57 f_58 f_59 f_60 f_a1)[i]?) = List.map some (kWX5_put cB cI cL cBB cII cSh h_this a_this this_taped this_code w_2 w_3 w_54 w_55 this_bitAt this_k this_e1 this_du this_dv f_this_cubes f_this_turns f_this_round f_56 f_57 f_58 f_59 f_60) from rfl)
  have hPc := kb_Psub hP ([0, 2, 5, 6, 7, 8, 9, 10, 11] : List Nat) hC
  have hDc := kb_Dsub hD ([0, 2, 5, 6, 7, 8, 9, 10, 11] : List Nat) hC (by simp [kb_nd])
  refine kb_call0 (va_runV (As := [.int (50 : Int32)]) (rest := []) C0 (kcX5_put l D cB cI cL cBB cII cSh h_this a_this _ (50 : Int32) this_taped this_code w_2 w_3 w_54 w_55 this_bitAt this_k this_e1 this_du this_dv f_this_cubes f_this_turns f_this_round f_56 f_57 f_58 f_59 f_60 (w_62, w_63, f_64, f_65, f_66, f_67, f_68) hu_69) (cwV 1 hts (kb_gV km_641 km_643 kp_22 km_6 km_644) rfl rfl rfl (by decide +kernel) ⟨Nat.le_of_ble_eq_true rfl, Nat.le_of_ble_eq_true rfl⟩) ⟨kb_P_bl, va_recv hK hP (ci := 5) (q0 := 0) rfl rfl, (fun U hU hW => ⟨rfl, by rw [hU], by rw [hU]; exact hPc, va_K.moved hW.alike hK, kb_N_to hW hN, hDc.weaken (fun _ _ _ _ => trivial)⟩)⟩ rfl rfl hl.1 rfl (lv_room (Nat.le_of_ble_eq_true rfl)) kdX5_named_73 ⟨Nat.le_of_ble_eq_true rfl, Nat.le_of_ble_eq_true rfl⟩) hP hD hS hA ([0, 2, 5, 6, 7, 8, 9, 10, 11] : List Nat) hC rfl (fun H locs hP hD hS => ?_)
  have hP : va_P D kCl (kWX5_named cB cI cL cBB cII cSh h_this a_this h_a1 n_a1 this_taped this_code w_2 w_3 w_62 w_63 this_bitAt this_k this_e1 this_du this_dv f_this_roots f_this_cubes f_this_start224 f_this_start256 f_this_turns f_this_round f_64 f_65 f_66 f_67 f_68 f_a1) H := hP
  have hD : va_D A (kWX5_named cB cI cL cBB cII cSh h_this a_this h_a1 n_a1 this_taped this_code w_2 w_3 w_62 w_63 this_bitAt this_k this_e1 this_du this_dv f_this_roots f_this_cubes f_this_start224 f_this_start256 f_this_turns f_this_round f_64 f_65 f_66 f_67 f_68 f_a1) := hD
  refine lv_aload_n hx hb kdX5_named_76 rfl (lv_at hl 0 rfl) ?_
  refine lv_bipush (v := 47) hx hb kdX5_named_77 (by decide) ?_
  obtain ⟨u_77, hu_77, h⟩ := kb_o_s h
  obtain ⟨w_70, w_71, f_72, f_73, f_74, f_75, f_76⟩ := u_77
  have hC := (show ([0, 2, 5, 6, 7, 8, 9, 10, 11] : List Nat).map (fun i : Nat => (kWX5_named cB cI cL cBB cII cSh h_this a_this h_a1 n_a1 this_taped this_code w_2 w_3 w_62 w_63 this_bitAt this_k this_e1 this_du this_dv f_this_roots f_this_cubes f_this_start224 f_this_start256 f_this_turns f_this_round f_64 f_65 f_66 f_67 f_68 f_a1)[i]?) = List.map some (kWX5_put cB cI cL cBB cII cSh h_this a_this this_taped this_code w_2 w_3 w_62 w_63 this_bitAt this_k this_e1 this_du this_dv f_this_cubes f_this_turns f_this_round f_64 f_65 f_66 f_67 f_68) from rfl)
  have hPc := kb_Psub hP ([0, 2, 5, 6, 7, 8, 9, 10, 11] : List Nat) hC
  have hDc := kb_Dsub hD ([0, 2, 5, 6, 7, 8, 9, 10, 11] : List Nat) hC (by simp [kb_nd])
  refine kb_call0 (va_runV (As := [.int (47 : Int32)]) (rest := []) C0 (kcX5_put l D cB cI cL cBB cII cSh h_this a_this _ (47 : Int32) this_taped this_code w_2 w_3 w_62 w_63 this_bitAt this_k this_e1 this_du this_dv f_this_cubes f_this_turns f_this_round f_64 f_65 f_66 f_67 f_68 (w_70, w_71, f_72, f_73, f_74, f_75, f_76) hu_77) (cwV 1 hts (kb_gV km_641 km_643 kp_22 km_6 km_644) rfl rfl rfl (by decide +kernel) ⟨Nat.le_of_ble_eq_true rfl, Nat.le_of_ble_eq_true rfl⟩) ⟨kb_P_bl, va_recv hK hP (ci := 5) (q0 := 0) rfl rfl, (fun U hU hW => ⟨rfl, by rw [hU], by rw [hU]; exact hPc, va_K.moved hW.alike hK, kb_N_to hW hN, hDc.weaken (fun _ _ _ _ => trivial)⟩)⟩ rfl rfl hl.1 rfl (lv_room (Nat.le_of_ble_eq_true rfl)) kdX5_named_79 ⟨Nat.le_of_ble_eq_true rfl, Nat.le_of_ble_eq_true rfl⟩) hP hD hS hA ([0, 2, 5, 6, 7, 8, 9, 10, 11] : List Nat) hC rfl (fun H locs hP hD hS => ?_)
  have hP : va_P D kCl (kWX5_named cB cI cL cBB cII cSh h_this a_this h_a1 n_a1 this_taped this_code w_2 w_3 w_70 w_71 this_bitAt this_k this_e1 this_du this_dv f_this_roots f_this_cubes f_this_start224 f_this_start256 f_this_turns f_this_round f_72 f_73 f_74 f_75 f_76 f_a1) H := hP
  have hD : va_D A (kWX5_named cB cI cL cBB cII cSh h_this a_this h_a1 n_a1 this_taped this_code w_2 w_3 w_70 w_71 this_bitAt this_k this_e1 this_du this_dv f_this_roots f_this_cubes f_this_start224 f_this_start256 f_this_turns f_this_round f_72 f_73 f_74 f_75 f_76 f_a1) := hD
  refine lv_aload_n hx hb kdX5_named_82 rfl (lv_at hl 0 rfl) ?_
  refine lv_bipush (v := 50) hx hb kdX5_named_83 (by decide) ?_
  obtain ⟨u_85, hu_85, h⟩ := kb_o_s h
  obtain ⟨w_78, w_79, f_80, f_81, f_82, f_83, f_84⟩ := u_85
  have hC := (show ([0, 2, 5, 6, 7, 8, 9, 10, 11] : List Nat).map (fun i : Nat => (kWX5_named cB cI cL cBB cII cSh h_this a_this h_a1 n_a1 this_taped this_code w_2 w_3 w_70 w_71 this_bitAt this_k this_e1 this_du this_dv f_this_roots f_this_cubes f_this_start224 f_this_start256 f_this_turns f_this_round f_72 f_73 f_74 f_75 f_76 f_a1)[i]?) = List.map some (kWX5_put cB cI cL cBB cII cSh h_this a_this this_taped this_code w_2 w_3 w_70 w_71 this_bitAt this_k this_e1 this_du this_dv f_this_cubes f_this_turns f_this_round f_72 f_73 f_74 f_75 f_76) from rfl)
  have hPc := kb_Psub hP ([0, 2, 5, 6, 7, 8, 9, 10, 11] : List Nat) hC
  have hDc := kb_Dsub hD ([0, 2, 5, 6, 7, 8, 9, 10, 11] : List Nat) hC (by simp [kb_nd])
  refine kb_call0 (va_runV (As := [.int (50 : Int32)]) (rest := []) C0 (kcX5_put l D cB cI cL cBB cII cSh h_this a_this _ (50 : Int32) this_taped this_code w_2 w_3 w_70 w_71 this_bitAt this_k this_e1 this_du this_dv f_this_cubes f_this_turns f_this_round f_72 f_73 f_74 f_75 f_76 (w_78, w_79, f_80, f_81, f_82, f_83, f_84) hu_85) (cwV 1 hts (kb_gV km_641 km_643 kp_22 km_6 km_644) rfl rfl rfl (by decide +kernel) ⟨Nat.le_of_ble_eq_true rfl, Nat.le_of_ble_eq_true rfl⟩) ⟨kb_P_bl, va_recv hK hP (ci := 5) (q0 := 0) rfl rfl, (fun U hU hW => ⟨rfl, by rw [hU], by rw [hU]; exact hPc, va_K.moved hW.alike hK, kb_N_to hW hN, hDc.weaken (fun _ _ _ _ => trivial)⟩)⟩ rfl rfl hl.1 rfl (lv_room (Nat.le_of_ble_eq_true rfl)) kdX5_named_85 ⟨Nat.le_of_ble_eq_true rfl, Nat.le_of_ble_eq_true rfl⟩) hP hD hS hA ([0, 2, 5, 6, 7, 8, 9, 10, 11] : List Nat) hC rfl (fun H locs hP hD hS => ?_)
  have hP : va_P D kCl (kWX5_named cB cI cL cBB cII cSh h_this a_this h_a1 n_a1 this_taped this_code w_2 w_3 w_78 w_79 this_bitAt this_k this_e1 this_du this_dv f_this_roots f_this_cubes f_this_start224 f_this_start256 f_this_turns f_this_round f_80 f_81 f_82 f_83 f_84 f_a1) H := hP
  have hD : va_D A (kWX5_named cB cI cL cBB cII cSh h_this a_this h_a1 n_a1 this_taped this_code w_2 w_3 w_78 w_79 this_bitAt this_k this_e1 this_du this_dv f_this_roots f_this_cubes f_this_start224 f_this_start256 f_this_turns f_this_round f_80 f_81 f_82 f_83 f_84 f_a1) := hD
  refine lv_aload_n hx hb kdX5_named_88 rfl (lv_at hl 0 rfl) ?_
  refine lv_iload_n hx hb kdX5_named_89 rfl (lv_at hl 2 rfl) ?_
  obtain ⟨u_93, hu_93, h⟩ := kb_o_s h
  obtain ⟨w_86, w_87, f_88, f_89, f_90, f_91, f_92⟩ := u_93
  have hC := (show ([0, 2, 5, 6, 7, 8, 9, 10, 11] : List Nat).map (fun i : Nat => (kWX5_named cB cI cL cBB cII cSh h_this a_this h_a1 n_a1 this_taped this_code w_2 w_3 w_78 w_79 this_bitAt this_k this_e1 this_du this_dv f_this_roots f_this_cubes f_this_start224 f_this_start256 f_this_turns f_this_round f_80 f_81 f_82 f_83 f_84 f_a1)[i]?) = List.map some (kWX5_put cB cI cL cBB cII cSh h_this a_this this_taped this_code w_2 w_3 w_78 w_79 this_bitAt this_k this_e1 this_du this_dv f_this_cubes f_this_turns f_this_round f_80 f_81 f_82 f_83 f_84) from rfl)
  have hPc := kb_Psub hP ([0, 2, 5, 6, 7, 8, 9, 10, 11] : List Nat) hC
  have hDc := kb_Dsub hD ([0, 2, 5, 6, 7, 8, 9, 10, 11] : List Nat) hC (by simp [kb_nd])
  refine kb_call0 (va_runV (As := [.int p2]) (rest := []) C0 (kcX5_put l D cB cI cL cBB cII cSh h_this a_this _ p2 this_taped this_code w_2 w_3 w_78 w_79 this_bitAt this_k this_e1 this_du this_dv f_this_cubes f_this_turns f_this_round f_80 f_81 f_82 f_83 f_84 (w_86, w_87, f_88, f_89, f_90, f_91, f_92) hu_93) (cwV 1 hts (kb_gV km_641 km_643 kp_22 km_6 km_644) rfl rfl rfl (by decide +kernel) ⟨Nat.le_of_ble_eq_true rfl, Nat.le_of_ble_eq_true rfl⟩) ⟨kb_P_bl, va_recv hK hP (ci := 5) (q0 := 0) rfl rfl, (fun U hU hW => ⟨rfl, by rw [hU], by rw [hU]; exact hPc, va_K.moved hW.alike hK, kb_N_to hW hN, hDc.weaken (fun _ _ _ _ => trivial)⟩)⟩ rfl rfl hl.1 rfl (lv_room (Nat.le_of_ble_eq_true rfl)) kdX5_named_90 ⟨Nat.le_of_ble_eq_true rfl, Nat.le_of_ble_eq_true rfl⟩) hP hD hS hA ([0, 2, 5, 6, 7, 8, 9, 10, 11] : List Nat) hC rfl (fun H locs hP hD hS => ?_)
  have hP : va_P D kCl (kWX5_named cB cI cL cBB cII cSh h_this a_this h_a1 n_a1 this_taped this_code w_2 w_3 w_86 w_87 this_bitAt this_k this_e1 this_du this_dv f_this_roots f_this_cubes f_this_start224 f_this_start256 f_this_turns f_this_round f_88 f_89 f_90 f_91 f_92 f_a1) H := hP
  have hD : va_D A (kWX5_named cB cI cL cBB cII cSh h_this a_this h_a1 n_a1 this_taped this_code w_2 w_3 w_86 w_87 this_bitAt this_k this_e1 this_du this_dv f_this_roots f_this_cubes f_this_start224 f_this_start256 f_this_turns f_this_round f_88 f_89 f_90 f_91 f_92 f_a1) := hD
  refine lv_aload_n hx hb kdX5_named_93 rfl (lv_at hl 0 rfl) ?_
  refine lv_iload_n hx hb kdX5_named_94 rfl (lv_at hl 3 rfl) ?_
  obtain ⟨u_101, hu_101, h⟩ := kb_o_s h
  obtain ⟨w_94, w_95, f_96, f_97, f_98, f_99, f_100⟩ := u_101
  have hC := (show ([0, 2, 5, 6, 7, 8, 9, 10, 11] : List Nat).map (fun i : Nat => (kWX5_named cB cI cL cBB cII cSh h_this a_this h_a1 n_a1 this_taped this_code w_2 w_3 w_86 w_87 this_bitAt this_k this_e1 this_du this_dv f_this_roots f_this_cubes f_this_start224 f_this_start256 f_this_turns f_this_round f_88 f_89 f_90 f_91 f_92 f_a1)[i]?) = List.map some (kWX5_put cB cI cL cBB cII cSh h_this a_this this_taped this_code w_2 w_3 w_86 w_87 this_bitAt this_k this_e1 this_du this_dv f_this_cubes f_this_turns f_this_round f_88 f_89 f_90 f_91 f_92) from rfl)
  have hPc := kb_Psub hP ([0, 2, 5, 6, 7, 8, 9, 10, 11] : List Nat) hC
  have hDc := kb_Dsub hD ([0, 2, 5, 6, 7, 8, 9, 10, 11] : List Nat) hC (by simp [kb_nd])
  refine kb_call0 (va_runV (As := [.int p3]) (rest := []) C0 (kcX5_put l D cB cI cL cBB cII cSh h_this a_this _ p3 this_taped this_code w_2 w_3 w_86 w_87 this_bitAt this_k this_e1 this_du this_dv f_this_cubes f_this_turns f_this_round f_88 f_89 f_90 f_91 f_92 (w_94, w_95, f_96, f_97, f_98, f_99, f_100) hu_101) (cwV 1 hts (kb_gV km_641 km_643 kp_22 km_6 km_644) rfl rfl rfl (by decide +kernel) ⟨Nat.le_of_ble_eq_true rfl, Nat.le_of_ble_eq_true rfl⟩) ⟨kb_P_bl, va_recv hK hP (ci := 5) (q0 := 0) rfl rfl, (fun U hU hW => ⟨rfl, by rw [hU], by rw [hU]; exact hPc, va_K.moved hW.alike hK, kb_N_to hW hN, hDc.weaken (fun _ _ _ _ => trivial)⟩)⟩ rfl rfl hl.1 rfl (lv_room (Nat.le_of_ble_eq_true rfl)) kdX5_named_95 ⟨Nat.le_of_ble_eq_true rfl, Nat.le_of_ble_eq_true rfl⟩) hP hD hS hA ([0, 2, 5, 6, 7, 8, 9, 10, 11] : List Nat) hC rfl (fun H locs hP hD hS => ?_)
  have hP : va_P D kCl (kWX5_named cB cI cL cBB cII cSh h_this a_this h_a1 n_a1 this_taped this_code w_2 w_3 w_94 w_95 this_bitAt this_k this_e1 this_du this_dv f_this_roots f_this_cubes f_this_start224 f_this_start256 f_this_turns f_this_round f_96 f_97 f_98 f_99 f_100 f_a1) H := hP
  have hD : va_D A (kWX5_named cB cI cL cBB cII cSh h_this a_this h_a1 n_a1 this_taped this_code w_2 w_3 w_94 w_95 this_bitAt this_k this_e1 this_du this_dv f_this_roots f_this_cubes f_this_start224 f_this_start256 f_this_turns f_this_round f_96 f_97 f_98 f_99 f_100 f_a1) := hD
  refine lv_aload_n hx hb kdX5_named_98 rfl (lv_at hl 0 rfl) ?_
  obtain ⟨u_109, hu_109, h⟩ := kb_o_s h
  obtain ⟨w_102, w_103, f_104, f_105, f_106, f_107, f_108⟩ := u_109
  have hC := (show ([0, 2, 5, 6, 7, 8, 9, 10, 11] : List Nat).map (fun i : Nat => (kWX5_named cB cI cL cBB cII cSh h_this a_this h_a1 n_a1 this_taped this_code w_2 w_3 w_94 w_95 this_bitAt this_k this_e1 this_du this_dv f_this_roots f_this_cubes f_this_start224 f_this_start256 f_this_turns f_this_round f_96 f_97 f_98 f_99 f_100 f_a1)[i]?) = List.map some (kWX5_finish cB cI cL cBB cII cSh h_this a_this this_taped this_code w_2 w_3 w_94 w_95 this_bitAt this_k this_e1 this_du this_dv f_this_cubes f_this_turns f_this_round f_96 f_97 f_98 f_99 f_100) from rfl)
  have hPc := kb_Psub hP ([0, 2, 5, 6, 7, 8, 9, 10, 11] : List Nat) hC
  have hDc := kb_Dsub hD ([0, 2, 5, 6, 7, 8, 9, 10, 11] : List Nat) hC (by simp [kb_nd])
  refine kb_call0 (va_runV (As := []) (rest := []) C0 (kcX5_finish l D cB cI cL cBB cII cSh h_this a_this _ this_taped this_code w_2 w_3 w_94 w_95 this_bitAt this_k this_e1 this_du this_dv f_this_cubes f_this_turns f_this_round f_96 f_97 f_98 f_99 f_100 (w_102, w_103, f_104, f_105, f_106, f_107, f_108) hu_109) (cwV 0 hts (kb_gV km_676 km_678 kp_23 km_6 km_679) rfl rfl rfl (by decide +kernel) ⟨Nat.le_of_ble_eq_true rfl, Nat.le_of_ble_eq_true rfl⟩) ⟨kb_P_bl, va_recv hK hP (ci := 5) (q0 := 0) rfl rfl, (fun U hU hW => ⟨rfl, by rw [hU], by rw [hU]; exact hPc, va_K.moved hW.alike hK, kb_N_to hW hN, hDc.weaken (fun _ _ _ _ => trivial)⟩)⟩ rfl rfl hl.1 rfl (lv_room (Nat.le_of_ble_eq_true rfl)) kdX5_named_99 ⟨Nat.le_of_ble_eq_true rfl, Nat.le_of_ble_eq_true rfl⟩) hP hD hS hA ([0, 2, 5, 6, 7, 8, 9, 10, 11] : List Nat) hC rfl (fun H locs hP hD hS => ?_)
  have hP : va_P D kCl (kWX5_named cB cI cL cBB cII cSh h_this a_this h_a1 n_a1 this_taped this_code w_2 w_3 w_102 w_103 this_bitAt this_k this_e1 this_du this_dv f_this_roots f_this_cubes f_this_start224 f_this_start256 f_this_turns f_this_round f_104 f_105 f_106 f_107 f_108 f_a1) H := hP
  have hD : va_D A (kWX5_named cB cI cL cBB cII cSh h_this a_this h_a1 n_a1 this_taped this_code w_2 w_3 w_102 w_103 this_bitAt this_k this_e1 this_du this_dv f_this_roots f_this_cubes f_this_start224 f_this_start256 f_this_turns f_this_round f_104 f_105 f_106 f_107 f_108 f_a1) := hD
  refine lv_iconst (v := 0) hx hb kdX5_named_102 (by decide) ?_
  refine lv_istore (lv' := [(4, .int (0 : Int32)), (0, .ref h_this), (1, .ref h_a1), (2, .int p2), (3, .int p3)]) hx hb kdX5_named_103 hl (by decide) rfl (fun ls hl => ?_)
  obtain ⟨r_117, hr_117, h⟩ := kb_o_s h
  refine klX5_named_105 C0 hlocks hK hN hA (by decide) (by decide) h_this h_a1 a_this n_a1 this_taped this_code w_2 w_3 w_102 w_103 this_bitAt this_k this_e1 this_du this_dv f_this_roots f_this_cubes f_this_start224 f_this_start256 f_this_turns f_this_round f_104 f_105 f_106 f_107 f_108 100000 (0 : Int32) f_a1 r_117 hr_117 _ _ _ hP hD hS (lv_sub hl [1, 2, 0] rfl) (fun x4p105_115 f_a1p105_116 er_117 H locs ls hP hD hS hl => ?_)
  subst er_117
  obtain rfl := Option.some.inj h
  exact W.vret hx hb hr (fun t ht hW => ⟨⟨rfl, by rw [ht]; exact hP, va_K.moved hW.alike hK, hD⟩, hS.F ht⟩) hS.2.2 kdX5_named_129

-- 502.ModuleKemModel.named_start224.lean.txt
abbrev kWX5_named_start224 (cB cI cL cBB cII cSh : ClassId) (h_this : Nat) (a_this : Nat → Nat) (this_taped : Int32) (this_code : Int32) (this_kind : Int32) (this_rate : Int32) (this_filled : Int32) (this_total : Int64) (this_bitAt : Int32) (this_k : Int32) (this_e1 : Int32) (this_du : Int32) (this_dv : Int32) (f_this_roots : Nat → Int64) (f_this_cubes : Nat → Int64) (f_this_start224 : Nat → Int64) (f_this_start256 : Nat → Int64) (f_this_turns : Nat → Int32) (f_this_round : Nat → Int64) (f_this_state : Nat → Int64) (f_this_other : Nat → Int64) (f_this_column : Nat → Int64) (f_this_words : Nat → Int64) (f_this_block : Nat → Int32) : va_W := [(h_this, koX5 a_this this_taped this_code this_kind this_rate this_filled this_total this_bitAt this_k this_e1 this_du this_dv), ((a_this 5), .inl (cL, 16, .inr (.inl f_this_roots))), ((a_this 6), .inl (cL, 80, .inr (.inl f_this_cubes))), ((a_this 7), .inl (cL, 8, .inr (.inl f_this_start224))), ((a_this 8), .inl (cL, 8, .inr (.inl f_this_start256))), ((a_this 11), .inl (cI, 25, .inl f_this_turns)), ((a_this 12), .inl (cL, 24, .inr (.inl f_this_round))), ((a_this 13), .inl (cL, 25, .inr (.inl f_this_state))), ((a_this 14), .inl (cL, 25, .inr (.inl f_this_other))), ((a_this 15), .inl (cL, 5, .inr (.inl f_this_column))), ((a_this 16), .inl (cL, 80, .inr (.inl f_this_words))), ((a_this 17), .inl (cB, 128, .inl f_this_block))]
def krX5_named_start224 : Room := { frames := 4, cells := 0, slots := 0, locals := 107 }
set_option maxHeartbeats 4000000 in
set_option maxRecDepth 100000 in
theorem klX5_named_start224_8 {p : Program} {l : Launch} {e : Env} {s : State} {m : MethodId} {args : Array Value} {below : List Frame} {meth : Method} {c : Code} {cells slots : Nat} {Q : State → Prop} {D : va_G} {cB cI cL cBB cII cSh : ClassId} {A : Nat → Prop} (C0 : CallFix p m c prog_8_method_21_code 5 s args kwA kRX5) (hlocks : meth.locks = false) (hK : va_K D kCl (kb_T cB cI cL cBB cII cSh) s) (hN : kb_N s) (hA : ∀ q, s.heap.size ≤ q → A q) (hcR : cells ≤ krX5_named_start224.cells) (hsR : slots ≤ krX5_named_start224.slots) (h_this : Nat) (a_this : Nat → Nat) (p2 : Int32) (p3 : Int32) (this_taped : Int32) (this_code : Int32) (w_2 : Int32) (w_3 : Int32) (w_1 : Int32) (w_4 : Int64) (this_bitAt : Int32) (this_k : Int32) (this_e1 : Int32) (this_du : Int32) (this_dv : Int32) (f_this_roots : Nat → Int64) (f_this_cubes : Nat → Int64) (f_this_start224 : Nat → Int64) (f_this_start256 : Nat → Int64) (f_this_turns : Nat → Int32) (f_this_round : Nat → Int64) (f_this_other : Nat → Int64) (f_this_column : Nat → Int64) (f_this_words : Nat → Int64) (f_this_block : Nat → Int32) :
    ∀ (fuel : Nat) (x4p8 : Int32) (f_this_statep8 : Nat → Int64) (r : Int32 × (Nat → Int64)), kb_w (fun u : Int32 × (Nat → Int64) => kSX5_named_start224_8 u.1 u.2) fuel (x4p8, f_this_statep8) = some r → ∀ (H : Heap) (locs : List Loc) (ls : Array Slot), va_P D kCl (kWX5_named_start224 cB cI cL cBB cII cSh h_this a_this this_taped this_code w_2 w_3 w_1 w_4 this_bitAt this_k this_e1 this_du this_dv f_this_roots f_this_cubes f_this_start224 f_this_start256 f_this_turns f_this_round f_this_statep8 f_this_other f_this_column f_this_words f_this_block) H → va_D A (kWX5_named_start224 cB cI cL cBB cII cSh h_this a_this this_taped this_code w_2 w_3 w_1 w_4 this_bitAt this_k this_e1 this_du this_dv f_this_roots f_this_cubes f_this_start224 f_this_start256 f_this_turns f_this_round f_this_statep8 f_this_other f_this_column f_this_words f_this_block) → va_S A s.heap H locs → lv_has ls 5 [(0, .ref h_this), (1, .ref (a_this 7)), (2, .int p2), (3, .int p3), (4, .int x4p8)] → (∀ (x4p8' : Int32) (f_this_statep8' : Nat → Int64), r = (x4p8', f_this_statep8') → ∀ (H : Heap) (locs : List Loc) (ls : Array Slot), va_P D kCl (kWX5_named_start224 cB cI cL cBB cII cSh h_this a_this this_taped this_code w_2 w_3 w_1 w_4 this_bitAt this_k this_e1 this_du this_dv f_this_roots f_this_cubes f_this_start224 f_this_start256 f_this_turns f_this_round f_this_statep8' f_this_other f_this_column f_this_words f_this_block) H → va_D A (kWX5_named_start224 cB cI cL cBB cII cSh h_this a_this this_taped this_code w_2 w_3 w_1 w_4 this_bitAt this_k this_e1 this_du this_dv f_this_roots f_this_cubes f_this_start224 f_this_start256 f_this_turns f_this_round f_this_statep8' f_this_other f_this_column f_this_words f_this_block) → va_S A s.heap H locs → lv_has ls 5 [(0, .ref h_this), (1, .ref (a_this 7)), (2, .int p2), (3, .int p3), (4, .int x4p8')] → W p l e krX5_named_start224 s m args below meth c H locs cells slots Q (F0 m 34 ls [])) → W p l e krX5_named_start224 s m args below meth c H locs cells slots Q (F0 m 8 ls []) := by
  obtain ⟨hx, hb, hml, hown, hts⟩ := id C0
  intro fuel
  induction fuel with
  | zero =>
    intro x4p8 f_this_statep8 r h
    exact absurd h (kb_w_z _ _ _)
  | succ fuel ih =>
    intro x4p8 f_this_statep8 r h H locs ls hP hD hS hl hk0
    obtain ⟨o, h, ho⟩ := kb_w_s h
    have h : kSX5_named_start224_8 x4p8 f_this_statep8 = some o := h
    unfold kSX5_named_start224_8 at h
    refine lv_iload hx hb kdX5_named_8 (lv_at hl 4 rfl) ?_
    refine lv_bipush (v := 8) hx hb kdX5_named_10 (by decide) ?_
    refine lv_icmp_ge (tgt := 34) hx hb kdX5_named_12 (by decide) (fun c_7 => ?_) (fun c_7 => ?_)
    · have h := kb_b_t c_7 h
      obtain rfl := Option.some.inj h
      exact hk0 x4p8 f_this_statep8 ho.symm _ _ _ hP hD hS (lv_sub hl [0, 1, 2, 3, 4] rfl)
    · have h := kb_b_f c_7 h
      refine lv_aload_n hx hb kdX5_named_15 rfl (lv_at hl 0 rfl) ?_
      refine va_get (ci := 5) (v := .ref (a_this 13)) (C := kRX5) (T := kTX5) (N := 35) hx hb hts kinX5 hown hK hP 0 rfl rfl 13 (by decide) (hts _ km_694) (fun _ h9 => h9) rfl kdX5_named_16 ?_
      refine lv_iload hx hb kdX5_named_19 (lv_at hl 4 rfl) ?_
      refine lv_dup2_11 hx hb kdX5_named_21 rfl rfl ?_
      obtain ⟨g_8, h⟩ := kb_g_s h
      refine va_lald hx hb hK hP 7 2 rfl rfl (kb_in_v g_8) kdX5_named_22 ?_
      refine lv_ldc2 (v := -6510615555426900571) hx hb hown (hts _ km_640) kdX5_named_23 ?_
      refine lv_lxor hx hb kdX5_named_26 ?_
      obtain ⟨g_9, h⟩ := kb_g_s h
      refine va_last hx hb hK hP hD hS 7 2 rfl rfl (kb_in_v g_9) kdX5_named_27 (fun H locs hP hD hS => ?_)
      obtain ⟨f_10, ef_10⟩ : ∃ y, y = vp_updL f_this_statep8 x4p8.toNatClampNeg ((f_this_statep8 x4p8.toNatClampNeg) ^^^ (-6510615555426900571 : Int64)) := ⟨_, rfl⟩
      have h := kb_n_s ef_10 h
      have hP : va_P D kCl (kWX5_named_start224 cB cI cL cBB cII cSh h_this a_this this_taped this_code w_2 w_3 w_1 w_4 this_bitAt this_k this_e1 this_du this_dv f_this_roots f_this_cubes f_this_start224 f_this_start256 f_this_turns f_this_round f_10 f_this_other f_this_column f_this_words f_this_block) H := by rw [ef_10]; exact hP
      have hD : va_D A (kWX5_named_start224 cB cI cL cBB cII cSh h_this a_this this_taped this_code w_2 w_3 w_1 w_4 this_bitAt this_k this_e1 this_du this_dv f_this_roots f_this_cubes f_this_start224 f_this_start256 f_this_turns f_this_round f_10 f_this_other f_this_column f_this_words f_this_block) := by rw [ef_10]; exact hD
      obtain ⟨x4_11, ex4_11⟩ : ∃ y : Int32, y = x4p8 + Int32.ofInt 1 := ⟨_, rfl⟩
      have h := kb_n_s ex4_11 h
      refine lv_iinc (v := x4_11) (lv' := [(4, .int x4_11), (0, .ref h_this), (1, .ref (a_this 7)), (2, .int p2), (3, .int p3)]) hx hb kdX5_named_28 hl (k := 4) rfl ex4_11.symm (by decide) rfl (fun ls hl => ?_)
      refine lv_goto (tgt := 8) hx hb kdX5_named_31 (by decide) ?_
      obtain rfl := Option.some.inj h
      exact ih x4_11 f_10 r ho _ _ _ hP hD hS (lv_sub hl [1, 2, 3, 4, 0] rfl) hk0
set_option maxHeartbeats 4000000 in
set_option maxRecDepth 100000 in
theorem klX5_named_start224_105 {p : Program} {l : Launch} {e : Env} {s : State} {m : MethodId} {args : Array Value} {below : List Frame} {meth : Method} {c : Code} {cells slots : Nat} {Q : State → Prop} {D : va_G} {cB cI cL cBB cII cSh : ClassId} {A : Nat → Prop} (C0 : CallFix p m c prog_8_method_21_code 5 s args kwA kRX5) (hlocks : meth.locks = false) (hK : va_K D kCl (kb_T cB cI cL cBB cII cSh) s) (hN : kb_N s) (hA : ∀ q, s.heap.size ≤ q → A q) (hcR : cells ≤ krX5_named_start224.cells) (hsR : slots ≤ krX5_named_start224.slots) (h_this : Nat) (a_this : Nat → Nat) (this_taped : Int32) (this_code : Int32) (w_2 : Int32) (w_3 : Int32) (w_102 : Int32) (w_103 : Int64) (this_bitAt : Int32) (this_k : Int32) (this_e1 : Int32) (this_du : Int32) (this_dv : Int32) (f_this_roots : Nat → Int64) (f_this_cubes : Nat → Int64) (f_this_start256 : Nat → Int64) (f_this_turns : Nat → Int32) (f_this_round : Nat → Int64) (f_104 : Nat → Int64) (f_105 : Nat → Int64) (f_106 : Nat → Int64) (f_107 : Nat → Int64) (f_108 : Nat → Int32) :
    ∀ (fuel : Nat) (x4p105 : Int32) (f_this_start224p105 : Nat → Int64) (r : Int32 × (Nat → Int64)), kb_w (fun u : Int32 × (Nat → Int64) => kSX5_named_start224_105 f_104 u.1 u.2) fuel (x4p105, f_this_start224p105) = some r → ∀ (H : Heap) (locs : List Loc) (ls : Array Slot), va_P D kCl (kWX5_named_start224 cB cI cL cBB cII cSh h_this a_this this_taped this_code w_2 w_3 w_102 w_103 this_bitAt this_k this_e1 this_du this_dv f_this_roots f_this_cubes f_this_start224p105 f_this_start256 f_this_turns f_this_round f_104 f_105 f_106 f_107 f_108) H → va_D A (kWX5_named_start224 cB cI cL cBB cII cSh h_this a_this this_taped this_code w_2 w_3 w_102 w_103 this_bitAt this_k this_e1 this_du this_dv f_this_roots f_this_cubes f_this_start224p105 f_this_start256 f_this_turns f_this_round f_104 f_105 f_106 f_107 f_108) → va_S A s.heap H locs → lv_has ls 5 [(0, .ref h_this), (1, .ref (a_this 7)), (4, .int x4p105)] → (∀ (x4p105' : Int32) (f_this_start224p105' : Nat → Int64), r = (x4p105', f_this_start224p105') → ∀ (H : Heap) (locs : List Loc) (ls : Array Slot), va_P D kCl (kWX5_named_start224 cB cI cL cBB cII cSh h_this a_this this_taped this_code w_2 w_3 w_102 w_103 this_bitAt this_k this_e1 this_du this_dv f_this_roots f_this_cubes f_this_start224p105' f_this_start256 f_this_turns f_this_round f_104 f_105 f_106 f_107 f_108) H → va_D A (kWX5_named_start224 cB cI cL cBB cII cSh h_this a_this this_taped this_code w_2 w_3 w_102 w_103 this_bitAt this_k this_e1 this_du this_dv f_this_roots f_this_cubes f_this_start224p105' f_this_start256 f_this_turns f_this_round f_104 f_105 f_106 f_107 f_108) → va_S A s.heap H locs → lv_has ls 5 [(0, .ref h_this), (1, .ref (a_this 7)), (4, .int x4p105')] → W p l e krX5_named_start224 s m args below meth c H locs cells slots Q (F0 m 129 ls [])) → W p l e krX5_named_start224 s m args below meth c H locs cells slots Q (F0 m 105 ls []) := by
  obtain ⟨hx, hb, hml, hown, hts⟩ := id C0
  intro fuel
  induction fuel with
  | zero =>
    intro x4p105 f_this_start224p105 r h
    exact absurd h (kb_w_z _ _ _)
  | succ fuel ih =>
    intro x4p105 f_this_start224p105 r h H locs ls hP hD hS hl hk0
    obtain ⟨o, h, ho⟩ := kb_w_s h
    have h : kSX5_named_start224_105 f_104 x4p105 f_this_start224p105 = some o := h
    unfold kSX5_named_start224_105 at h
    refine lv_iload hx hb kdX5_named_105 (lv_at hl 2 rfl) ?_
    refine lv_bipush (v := 8) hx hb kdX5_named_107 (by decide) ?_
    refine lv_icmp_ge (tgt := 129) hx hb kdX5_named_109 (by decide) (fun c_110 => ?_) (fun c_110 => ?_)
    · have h := kb_b_t c_110 h
      obtain rfl := Option.some.inj h
      exact hk0 x4p105 f_this_start224p105 ho.symm _ _ _ hP hD hS (lv_sub hl [0, 1, 2] rfl)
    · have h := kb_b_f c_110 h
      refine lv_aload_n hx hb kdX5_named_112 rfl (lv_at hl 1 rfl) ?_
      refine lv_iload hx hb kdX5_named_113 (lv_at hl 2 rfl) ?_
      refine lv_aload_n hx hb kdX5_named_115 rfl (lv_at hl 0 rfl) ?_
      refine va_get (ci := 5) (v := .ref (a_this 13)) (C := kRX5) (T := kTX5) (N := 35) hx hb hts kinX5 hown hK hP 0 rfl rfl 13 (by decide) (hts _ km_694) (fun _ h9 => h9) rfl kdX5_named_116 ?_
      refine lv_iload hx hb kdX5_named_119 (lv_at hl 2 rfl) ?_
      obtain ⟨g_111, h⟩ := kb_g_s h
      refine va_lald hx hb hK hP 7 2 rfl rfl (kb_in_v g_111) kdX5_named_121 ?_
      obtain ⟨g_112, h⟩ := kb_g_s h
      refine va_last hx hb hK hP hD hS 3 2 rfl rfl (kb_in_v g_112) kdX5_named_122 (fun H locs hP hD hS => ?_)
      obtain ⟨f_113, ef_113⟩ : ∃ y, y = vp_updL f_this_start224p105 x4p105.toNatClampNeg (f_104 x4p105.toNatClampNeg) := ⟨_, rfl⟩
      have h := kb_n_s ef_113 h
      have hP : va_P D kCl (kWX5_named_start224 cB cI cL cBB cII cSh h_this a_this this_taped this_code w_2 w_3 w_102 w_103 this_bitAt this_k this_e1 this_du this_dv f_this_roots f_this_cubes f_113 f_this_start256 f_this_turns f_this_round f_104 f_105 f_106 f_107 f_108) H := by rw [ef_113]; exact hP
      have hD : va_D A (kWX5_named_start224 cB cI cL cBB cII cSh h_this a_this this_taped this_code w_2 w_3 w_102 w_103 this_bitAt this_k this_e1 this_du this_dv f_this_roots f_this_cubes f_113 f_this_start256 f_this_turns f_this_round f_104 f_105 f_106 f_107 f_108) := by rw [ef_113]; exact hD
      obtain ⟨x4_114, ex4_114⟩ : ∃ y : Int32, y = x4p105 + Int32.ofInt 1 := ⟨_, rfl⟩
      have h := kb_n_s ex4_114 h
      refine lv_iinc (v := x4_114) (lv' := [(4, .int x4_114), (0, .ref h_this), (1, .ref (a_this 7))]) hx hb kdX5_named_123 hl (k := 2) rfl ex4_114.symm (by decide) rfl (fun ls hl => ?_)
      refine lv_goto (tgt := 105) hx hb kdX5_named_126 (by decide) ?_
      obtain rfl := Option.some.inj h
      exact ih x4_114 f_113 r ho _ _ _ hP hD hS (lv_sub hl [1, 2, 0] rfl) hk0
set_option maxHeartbeats 4000000 in
set_option maxRecDepth 100000 in
theorem kcX5_named_start224 (l : Launch) (D : va_G) (cB cI cL cBB cII cSh : ClassId) (h_this : Nat) (a_this : Nat → Nat) (sz : Nat) (p2 : Int32) (p3 : Int32) (this_taped : Int32) (this_code : Int32) (this_kind : Int32) (this_rate : Int32) (this_filled : Int32) (this_total : Int64) (this_bitAt : Int32) (this_k : Int32) (this_e1 : Int32) (this_du : Int32) (this_dv : Int32) (f_this_roots : Nat → Int64) (f_this_cubes : Nat → Int64) (f_this_start224 : Nat → Int64) (f_this_start256 : Nat → Int64) (f_this_turns : Nat → Int32) (f_this_round : Nat → Int64) (f_this_state : Nat → Int64) (f_this_other : Nat → Int64) (f_this_column : Nat → Int64) (f_this_words : Nat → Int64) (f_this_block : Nat → Int32) (out : Int32 × Int32 × Int32 × Int64 × (Nat → Int64) × (Nat → Int64) × (Nat → Int64) × (Nat → Int64) × (Nat → Int64) × (Nat → Int32)) (h : kFX5_named_start224 p2 p3 f_this_roots f_this_cubes f_this_start224 f_this_start256 f_this_turns f_this_round f_this_state f_this_other f_this_column f_this_words f_this_block = some out) : Met l kyX5_named kwX5_named krX5_named_start224 (kb_P D kCl (kb_T cB cI cL cBB cII cSh) [.ref h_this, .ref (a_this 7), .int p2, .int p3] (kWX5_named_start224 cB cI cL cBB cII cSh h_this a_this this_taped this_code this_kind this_rate this_filled this_total this_bitAt this_k this_e1 this_du this_dv f_this_roots f_this_cubes f_this_start224 f_this_start256 f_this_turns f_this_round f_this_state f_this_other f_this_column f_this_words f_this_block) sz) (kb_Q D kCl (kb_T cB cI cL cBB cII cSh) (va_A (kWX5_named_start224 cB cI cL cBB cII cSh h_this a_this this_taped this_code this_kind this_rate this_filled this_total this_bitAt this_k this_e1 this_du this_dv f_this_roots f_this_cubes f_this_start224 f_this_start256 f_this_turns f_this_round f_this_state f_this_other f_this_column f_this_words f_this_block) sz) none (kWX5_named_start224 cB cI cL cBB cII cSh h_this a_this this_taped this_code out.2.1 out.2.2.1 out.1 out.2.2.2.1 this_bitAt this_k this_e1 this_du this_dv f_this_roots f_this_cubes out.2.2.2.2.1 f_this_start256 f_this_turns f_this_round out.2.2.2.2.2.1 out.2.2.2.2.2.2.1 out.2.2.2.2.2.2.2.1 out.2.2.2.2.2.2.2.2.1 out.2.2.2.2.2.2.2.2.2)) 0 0 (va_A (kWX5_named_start224 cB cI cL cBB cII cSh h_this a_this this_taped this_code this_kind this_rate this_filled this_total this_bitAt this_k this_e1 this_du this_dv f_this_roots f_this_cubes f_this_start224 f_this_start256 f_this_turns f_this_round f_this_state f_this_other f_this_column f_this_words f_this_block) sz) := by
  refine Met.ofW (cc := prog_8_method_21_code) (maxL := 5) (ret := none) (by decide) rfl ?_
  intro p e s m args below meth c s₁ B hml hv
  obtain ⟨rfl, hsz, hP, hK, hN, hD0⟩ := hv
  have hx := B.exec
  have hb := B.bytes
  have hr := B.returns
  have hts0 := atoms_spec (ws := kwX5_named) B.pre
  have hts : ∀ w ∈ kwA, w.before _ s = true := fun w h => hts0 w (List.mem_cons_of_mem _ h)
  have hown : s.vm.findClass kRX5 = some m.cls := findClass_of_methodNamed B.named
  have hlocks := B.notSynchronized
  subst hsz
  have hD := hD0.self (sz := s.heap.size)
  generalize hAe : va_A (kWX5_named_start224 cB cI cL cBB cII cSh h_this a_this this_taped this_code this_kind this_rate this_filled this_total this_bitAt this_k this_e1 this_du this_dv f_this_roots f_this_cubes f_this_start224 f_this_start256 f_this_turns f_this_round f_this_state f_this_other f_this_column f_this_words f_this_block) s.heap.size = A at hD ⊢
  have hA : ∀ q : Nat, s.heap.size ≤ q → A q := fun q h => by rw [← hAe]; exact Or.inr h
  have hS : va_S A s.heap s.heap [] := va_S.rf
  have C0 : CallFix p m c prog_8_method_21_code 5 s _ kwA kRX5 := ⟨hx, hb, hml, hown, hts⟩
  have hl := lv_entry ([.ref h_this, .ref (a_this 7), .int p2, .int p3]) (n := 5) (Nat.le_of_ble_eq_true rfl)
  rw [lg_entry_eq]
  generalize (lg_sl ([.ref h_this, .ref (a_this 7), .int p2, .int p3]) ++ List.replicate (5 - (lg_sl ([.ref h_this, .ref (a_this 7), .int p2, .int p3])).length) Slot.unset).toArray = ls at hl ⊢
  have hl : lv_has ls 5 [(0, .ref h_this), (1, .ref (a_this 7)), (2, .int p2), (3, .int p3)] := hl
  unfold kFX5_named_start224 at h
  refine lv_aload_n hx hb kdX5_named_0 rfl (lv_at hl 0 rfl) ?_
  refine lv_iconst (v := 3) hx hb kdX5_named_1 (by decide) ?_
  obtain ⟨u_6, hu_6, h⟩ := kb_o_s h
  obtain ⟨w_1, w_2, w_3, w_4, f_5⟩ := u_6
  have hC := (show ([0, 1, 3, 4, 7] : List Nat).map (fun i : Nat => (kWX5_named_start224 cB cI cL cBB cII cSh h_this a_this this_taped this_code this_kind this_rate this_filled this_total this_bitAt this_k this_e1 this_du this_dv f_this_roots f_this_cubes f_this_start224 f_this_start256 f_this_turns f_this_round f_this_state f_this_other f_this_column f_this_words f_this_block)[i]?) = List.map some (kWX5_begin cB cI cL cBB cII cSh h_this a_this this_taped this_code this_kind this_rate this_filled this_total this_bitAt this_k this_e1 this_du this_dv f_this_roots f_this_start224 f_this_start256 f_this_state) from rfl)
  have hPc := kb_Psub hP ([0, 1, 3, 4, 7] : List Nat) hC
  have hDc := kb_Dsub hD ([0, 1, 3, 4, 7] : List Nat) hC (by simp [kb_nd])
  refine kb_call0 (va_runV (As := [.int (3 : Int32)]) (rest := []) C0 (kcX5_begin l D cB cI cL cBB cII cSh h_this a_this _ (3 : Int32) this_taped this_code this_kind this_rate this_filled this_total this_bitAt this_k this_e1 this_du this_dv f_this_roots f_this_start224 f_this_start256 f_this_state (w_1, w_2, w_3, w_4, f_5) hu_6) (cwV 1 hts (kb_gV km_629 km_631 kp_4 km_6 km_632) rfl rfl rfl (by decide +kernel) ⟨Nat.le_of_ble_eq_true rfl, Nat.le_of_ble_eq_true rfl⟩) ⟨kb_P_bl, va_recv hK hP (ci := 5) (q0 := 0) rfl rfl, (fun U hU hW => ⟨rfl, by rw [hU], by rw [hU]; exact hPc, va_K.moved hW.alike hK, kb_N_to hW hN, hDc.weaken (fun _ _ _ _ => trivial)⟩)⟩ rfl rfl hl.1 rfl (lv_room (Nat.le_of_ble_eq_true rfl)) kdX5_named_2 ⟨Nat.le_of_ble_eq_true rfl, Nat.le_of_ble_eq_true rfl⟩) hP hD hS hA ([0, 1, 3, 4, 7] : List Nat) hC rfl (fun H locs hP hD hS => ?_)
  have hP : va_P D kCl (kWX5_named_start224 cB cI cL cBB cII cSh h_this a_this this_taped this_code w_2 w_3 w_1 w_4 this_bitAt this_k this_e1 this_du this_dv f_this_roots f_this_cubes f_this_start224 f_this_start256 f_this_turns f_this_round f_5 f_this_other f_this_column f_this_words f_this_block) H := hP
  have hD : va_D A (kWX5_named_start224 cB cI cL cBB cII cSh h_this a_this this_taped this_code w_2 w_3 w_1 w_4 this_bitAt this_k this_e1 this_du this_dv f_this_roots f_this_cubes f_this_start224 f_this_start256 f_this_turns f_this_round f_5 f_this_other f_this_column f_this_words f_this_block) := hD
  refine lv_iconst (v := 0) hx hb kdX5_named_5 (by decide) ?_
  refine lv_istore (lv' := [(4, .int (0 : Int32)), (0, .ref h_this), (1, .ref (a_this 7)), (2, .int p2), (3, .int p3)]) hx hb kdX5_named_6 hl (by decide) rfl (fun ls hl => ?_)
  obtain ⟨r_118, hr_118, h⟩ := kb_o_s h
  refine klX5_named_start224_8 C0 hlocks hK hN hA (by decide) (by decide) h_this a_this p2 p3 this_taped this_code w_2 w_3 w_1 w_4 this_bitAt this_k this_e1 this_du this_dv f_this_roots f_this_cubes f_this_start224 f_this_start256 f_this_turns f_this_round f_this_other f_this_column f_this_words f_this_block 100000 (0 : Int32) f_5 r_118 hr_118 _ _ _ hP hD hS (lv_sub hl [1, 2, 3, 4, 0] rfl) (fun x4p8_12 f_this_statep8_13 er_118 H locs ls hP hD hS hl => ?_)
  subst er_118
  refine lv_aload_n hx hb kdX5_named_34 rfl (lv_at hl 0 rfl) ?_
  refine lv_bipush (v := 83) hx hb kdX5_named_35 (by decide) ?_
  obtain ⟨u_21, hu_21, h⟩ := kb_o_s h
  obtain ⟨w_14, w_15, f_16, f_17, f_18, f_19, f_20⟩ := u_21
  have hC := (show ([0, 2, 5, 6, 7, 8, 9, 10, 11] : List Nat).map (fun i : Nat => (kWX5_named_start224 cB cI cL cBB cII cSh h_this a_this this_taped this_code w_2 w_3 w_1 w_4 this_bitAt this_k this_e1 this_du this_dv f_this_roots f_this_cubes f_this_start224 f_this_start256 f_this_turns f_this_round f_this_statep8_13 f_this_other f_this_column f_this_words f_this_block)[i]?) = List.map some (kWX5_put cB cI cL cBB cII cSh h_this a_this this_taped this_code w_2 w_3 w_1 w_4 this_bitAt this_k this_e1 this_du this_dv f_this_cubes f_this_turns f_this_round f_this_statep8_13 f_this_other f_this_column f_this_words f_this_block) from rfl)
  have hPc := kb_Psub hP ([0, 2, 5, 6, 7, 8, 9, 10, 11] : List Nat) hC
  have hDc := kb_Dsub hD ([0, 2, 5, 6, 7, 8, 9, 10, 11] : List Nat) hC (by simp [kb_nd])
  refine kb_call0 (va_runV (As := [.int (83 : Int32)]) (rest := []) C0 (kcX5_put l D cB cI cL cBB cII cSh h_this a_this _ (83 : Int32) this_taped this_code w_2 w_3 w_1 w_4 this_bitAt this_k this_e1 this_du this_dv f_this_cubes f_this_turns f_this_round f_this_statep8_13 f_this_other f_this_column f_this_words f_this_block (w_14, w_15, f_16, f_17, f_18, f_19, f_20) hu_21) (cwV 1 hts (kb_gV km_641 km_643 kp_22 km_6 km_644) rfl rfl rfl (by decide +kernel) ⟨Nat.le_of_ble_eq_true rfl, Nat.le_of_ble_eq_true rfl⟩) ⟨kb_P_bl, va_recv hK hP (ci := 5) (q0 := 0) rfl rfl, (fun U hU hW => ⟨rfl, by rw [hU], by rw [hU]; exact hPc, va_K.moved hW.alike hK, kb_N_to hW hN, hDc.weaken (fun _ _ _ _ => trivial)⟩)⟩ rfl rfl hl.1 rfl (lv_room (Nat.le_of_ble_eq_true rfl)) kdX5_named_37 ⟨Nat.le_of_ble_eq_true rfl, Nat.le_of_ble_eq_true rfl⟩) hP hD hS hA ([0, 2, 5, 6, 7, 8, 9, 10, 11] : List Nat) hC rfl (fun H locs hP hD hS => ?_)
  have hP : va_P D kCl (kWX5_named_start224 cB cI cL cBB cII cSh h_this a_this this_taped this_code w_2 w_3 w_14 w_15 this_bitAt this_k this_e1 this_du this_dv f_this_roots f_this_cubes f_this_start224 f_this_start256 f_this_turns f_this_round f_16 f_17 f_18 f_19 f_20) H := hP
  have hD : va_D A (kWX5_named_start224 cB cI cL cBB cII cSh h_this a_this this_taped this_code w_2 w_3 w_14 w_15 this_bitAt this_k this_e1 this_du this_dv f_this_roots f_this_cubes f_this_start224 f_this_start256 f_this_turns f_this_round f_16 f_17 f_18 f_19 f_20) := hD
  refine lv_aload_n hx hb kdX5_named_40 rfl (lv_at hl 0 rfl) ?_
  refine lv_bipush (v := 72) hx hb kdX5_named_41 (by decide) ?_
  obtain ⟨u_29, hu_29, h⟩ := kb_o_s h
  obtain ⟨w_22, w_23, f_24, f_25, f_26, f_27, f_28⟩ := u_29
  have hC := (show ([0, 2, 5, 6, 7, 8, 9, 10, 11] : List Nat).map (fun i : Nat => (kWX5_named_start224 cB cI cL cBB cII cSh h_this a_this this_taped this_code w_2 w_3 w_14 w_15 this_bitAt this_k this_e1 this_du this_dv f_this_roots f_this_cubes f_this_start224 f_this_start256 f_this_turns f_this_round f_16 f_17 f_18 f_19 f_20)[i]?) = List.map some (kWX5_put cB cI cL cBB cII cSh h_this a_this this_taped this_code w_2 w_3 w_14 w_15 this_bitAt this_k this_e1 this_du this_dv f_this_cubes f_this_turns f_this_round f_16 f_17 f_18 f_19 f_20) from rfl)
  have hPc := kb_Psub hP ([0, 2, 5, 6, 7, 8, 9, 10, 11] : List Nat) hC
  have hDc := kb_Dsub hD ([0, 2, 5, 6, 7, 8, 9, 10, 11] : List Nat) hC (by simp [kb_nd])
  refine kb_call0 (va_runV (As := [.int (72 : Int32)]) (rest := []) C0 (kcX5_put l D cB cI cL cBB cII cSh h_this a_this _ (72 : Int32) this_taped this_code w_2 w_3 w_14 w_15 this_bitAt this_k this_e1 this_du this_dv f_this_cubes f_this_turns f_this_round f_16 f_17 f_18 f_19 f_20 (w_22, w_23, f_24, f_25, f_26, f_27, f_28) hu_29) (cwV 1 hts (kb_gV km_641 km_643 kp_22 km_6 km_644) rfl rfl rfl (by decide +kernel) ⟨Nat.le_of_ble_eq_true rfl, Nat.le_of_ble_eq_true rfl⟩) ⟨kb_P_bl, va_recv hK hP (ci := 5) (q0 := 0) rfl rfl, (fun U hU hW => ⟨rfl, by rw [hU], by rw [hU]; exact hPc, va_K.moved hW.alike hK, kb_N_to hW hN, hDc.weaken (fun _ _ _ _ => trivial)⟩)⟩ rfl rfl hl.1 rfl (lv_room (Nat.le_of_ble_eq_true rfl)) kdX5_named_43 ⟨Nat.le_of_ble_eq_true rfl, Nat.le_of_ble_eq_true rfl⟩) hP hD hS hA ([0, 2, 5, 6, 7, 8, 9, 10, 11] : List Nat) hC rfl (fun H locs hP hD hS => ?_)
  have hP : va_P D kCl (kWX5_named_start224 cB cI cL cBB cII cSh h_this a_this this_taped this_code w_2 w_3 w_22 w_23 this_bitAt this_k this_e1 this_du this_dv f_this_roots f_this_cubes f_this_start224 f_this_start256 f_this_turns f_this_round f_24 f_25 f_26 f_27 f_28) H := hP
  have hD : va_D A (kWX5_named_start224 cB cI cL cBB cII cSh h_this a_this this_taped this_code w_2 w_3 w_22 w_23 this_bitAt this_k this_e1 this_du this_dv f_this_roots f_this_cubes f_this_start224 f_this_start256 f_this_turns f_this_round f_24 f_25 f_26 f_27 f_28) := hD
  refine lv_aload_n hx hb kdX5_named_46 rfl (lv_at hl 0 rfl) ?_
  refine lv_bipush (v := 65) hx hb kdX5_named_47 (by decide) ?_
  obtain ⟨u_37, hu_37, h⟩ := kb_o_s h
  obtain ⟨w_30, w_31, f_32, f_33, f_34, f_35, f_36⟩ := u_37
  have hC := (show ([0, 2, 5, 6, 7, 8, 9, 10, 11] : List Nat).map (fun i : Nat => (kWX5_named_start224 cB cI cL cBB cII cSh h_this a_this this_taped this_code w_2 w_3 w_22 w_23 this_bitAt this_k this_e1 this_du this_dv f_this_roots f_this_cubes f_this_start224 f_this_start256 f_this_turns f_this_round f_24 f_25 f_26 f_27 f_28)[i]?) = List.map some (kWX5_put cB cI cL cBB cII cSh h_this a_this this_taped this_code w_2 w_3 w_22 w_23 this_bitAt this_k this_e1 this_du this_dv f_this_cubes f_this_turns f_this_round f_24 f_25 f_26 f_27 f_28) from rfl)
  have hPc := kb_Psub hP ([0, 2, 5, 6, 7, 8, 9, 10, 11] : List Nat) hC
  have hDc := kb_Dsub hD ([0, 2, 5, 6, 7, 8, 9, 10, 11] : List Nat) hC (by simp [kb_nd])
  refine kb_call0 (va_runV (As := [.int (65 : Int32)]) (rest := []) C0 (kcX5_put l D cB cI cL cBB cII cSh h_this a_this _ (65 : Int32) this_taped this_code w_2 w_3 w_22 w_23 this_bitAt this_k this_e1 this_du this_dv f_this_cubes f_this_turns f_this_round f_24 f_25 f_26 f_27 f_28 (w_30, w_31, f_32, f_33, f_34, f_35, f_36) hu_37) (cwV 1 hts (kb_gV km_641 km_643 kp_22 km_6 km_644) rfl rfl rfl (by decide +kernel) ⟨Nat.le_of_ble_eq_true rfl, Nat.le_of_ble_eq_true rfl⟩) ⟨kb_P_bl, va_recv hK hP (ci := 5) (q0 := 0) rfl rfl, (fun U hU hW => ⟨rfl, by rw [hU], by rw [hU]; exact hPc, va_K.moved hW.alike hK, kb_N_to hW hN, hDc.weaken (fun _ _ _ _ => trivial)⟩)⟩ rfl rfl hl.1 rfl (lv_room (Nat.le_of_ble_eq_true rfl)) kdX5_named_49 ⟨Nat.le_of_ble_eq_true rfl, Nat.le_of_ble_eq_true rfl⟩) hP hD hS hA ([0, 2, 5, 6, 7, 8, 9, 10, 11] : List Nat) hC rfl (fun H locs hP hD hS => ?_)
  have hP : va_P D kCl (kWX5_named_start224 cB cI cL cBB cII cSh h_this a_this this_taped this_code w_2 w_3 w_30 w_31 this_bitAt this_k this_e1 this_du this_dv f_this_roots f_this_cubes f_this_start224 f_this_start256 f_this_turns f_this_round f_32 f_33 f_34 f_35 f_36) H := hP
  have hD : va_D A (kWX5_named_start224 cB cI cL cBB cII cSh h_this a_this this_taped this_code w_2 w_3 w_30 w_31 this_bitAt this_k this_e1 this_du this_dv f_this_roots f_this_cubes f_this_start224 f_this_start256 f_this_turns f_this_round f_32 f_33 f_34 f_35 f_36) := hD
  refine lv_aload_n hx hb kdX5_named_52 rfl (lv_at hl 0 rfl) ?_
  refine lv_bipush (v := 45) hx hb kdX5_named_53 (by decide) ?_
  obtain ⟨u_45, hu_45, h⟩ := kb_o_s h
  obtain ⟨w_38, w_39, f_40, f_41, f_42, f_43, f_44⟩ := u_45
  have hC := (show ([0, 2, 5, 6, 7, 8, 9, 10, 11] : List Nat).map (fun i : Nat => (kWX5_named_start224 cB cI cL cBB cII cSh h_this a_this this_taped this_code w_2 w_3 w_30 w_31 this_bitAt this_k this_e1 this_du this_dv f_this_roots f_this_cubes f_this_start224 f_this_start256 f_this_turns f_this_round f_32 f_33 f_34 f_35 f_36)[i]?) = List.map some (kWX5_put cB cI cL cBB cII cSh h_this a_this this_taped this_code w_2 w_3 w_30 w_31 this_bitAt this_k this_e1 this_du this_dv f_this_cubes f_this_turns f_this_round f_32 f_33 f_34 f_35 f_36) from rfl)
  have hPc := kb_Psub hP ([0, 2, 5, 6, 7, 8, 9, 10, 11] : List Nat) hC
  have hDc := kb_Dsub hD ([0, 2, 5, 6, 7, 8, 9, 10, 11] : List Nat) hC (by simp [kb_nd])
  refine kb_call0 (va_runV (As := [.int (45 : Int32)]) (rest := []) C0 (kcX5_put l D cB cI cL cBB cII cSh h_this a_this _ (45 : Int32) this_taped this_code w_2 w_3 w_30 w_31 this_bitAt this_k this_e1 this_du this_dv f_this_cubes f_this_turns f_this_round f_32 f_33 f_34 f_35 f_36 (w_38, w_39, f_40, f_41, f_42, f_43, f_44) hu_45) (cwV 1 hts (kb_gV km_641 km_643 kp_22 km_6 km_644) rfl rfl rfl (by decide +kernel) ⟨Nat.le_of_ble_eq_true rfl, Nat.le_of_ble_eq_true rfl⟩) ⟨kb_P_bl, va_recv hK hP (ci := 5) (q0 := 0) rfl rfl, (fun U hU hW => ⟨rfl, by rw [hU], by rw [hU]; exact hPc, va_K.moved hW.alike hK, kb_N_to hW hN, hDc.weaken (fun _ _ _ _ => trivial)⟩)⟩ rfl rfl hl.1 rfl (lv_room (Nat.le_of_ble_eq_true rfl)) kdX5_named_55 ⟨Nat.le_of_ble_eq_true rfl, Nat.le_of_ble_eq_true rfl⟩) hP hD hS hA ([0, 2, 5, 6, 7, 8, 9, 10, 11] : List Nat) hC rfl (fun H locs hP hD hS => ?_)
  have hP : va_P D kCl (kWX5_named_start224 cB cI cL cBB cII cSh h_this a_this this_taped this_code w_2 w_3 w_38 w_39 this_bitAt this_k this_e1 this_du this_dv f_this_roots f_this_cubes f_this_start224 f_this_start256 f_this_turns f_this_round f_40 f_41 f_42 f_43 f_44) H := hP
  have hD : va_D A (kWX5_named_start224 cB cI cL cBB cII cSh h_this a_this this_taped this_code w_2 w_3 w_38 w_39 this_bitAt this_k this_e1 this_du this_dv f_this_roots f_this_cubes f_this_start224 f_this_start256 f_this_turns f_this_round f_40 f_41 f_42 f_43 f_44) := hD
  refine lv_aload_n hx hb kdX5_named_58 rfl (lv_at hl 0 rfl) ?_
  refine lv_bipush (v := 53) hx hb kdX5_named_59 (by decide) ?_
  obtain ⟨u_53, hu_53, h⟩ := kb_o_s h
  obtain ⟨w_46, w_47, f_48, f_49, f_50, f_51, f_52⟩ := u_53
  have hC := (show ([0, 2, 5, 6, 7, 8, 9, 10, 11] : List Nat).map (fun i : Nat => (kWX5_named_start224 cB cI cL cBB cII cSh h_this a_this this_taped this_code w_2 w_3 w_38 w_39 this_bitAt this_k this_e1 this_du this_dv f_this_roots f_this_cubes f_this_start224 f_this_start256 f_this_turns f_this_round f_40 f_41 f_42 f_43 f_44)[i]?) = List.map some (kWX5_put cB cI cL cBB cII cSh h_this a_this this_taped this_code w_2 w_3 w_38 w_39 this_bitAt this_k this_e1 this_du this_dv f_this_cubes f_this_turns f_this_round f_40 f_41 f_42 f_43 f_44) from rfl)
  have hPc := kb_Psub hP ([0, 2, 5, 6, 7, 8, 9, 10, 11] : List Nat) hC
  have hDc := kb_Dsub hD ([0, 2, 5, 6, 7, 8, 9, 10, 11] : List Nat) hC (by simp [kb_nd])
  refine kb_call0 (va_runV (As := [.int (53 : Int32)]) (rest := []) C0 (kcX5_put l D cB cI cL cBB cII cSh h_this a_this _ (53 : Int32) this_taped this_code w_2 w_3 w_38 w_39 this_bitAt this_k this_e1 this_du this_dv f_this_cubes f_this_turns f_this_round f_40 f_41 f_42 f_43 f_44 (w_46, w_47, f_48, f_49, f_50, f_51, f_52) hu_53) (cwV 1 hts (kb_gV km_641 km_643 kp_22 km_6 km_644) rfl rfl rfl (by decide +kernel) ⟨Nat.le_of_ble_eq_true rfl, Nat.le_of_ble_eq_true rfl⟩) ⟨kb_P_bl, va_recv hK hP (ci := 5) (q0 := 0) rfl rfl, (fun U hU hW => ⟨rfl, by rw [hU], by rw [hU]; exact hPc, va_K.moved hW.alike hK, kb_N_to hW hN, hDc.weaken (fun _ _ _ _ => trivial)⟩)⟩ rfl rfl hl.1 rfl (lv_room (Nat.le_of_ble_eq_true rfl)) kdX5_named_61 ⟨Nat.le_of_ble_eq_true rfl, Nat.le_of_ble_eq_true rfl⟩) hP hD hS hA ([0, 2, 5, 6, 7, 8, 9, 10, 11] : List Nat) hC rfl (fun H locs hP hD hS => ?_)
  have hP : va_P D kCl (kWX5_named_start224 cB cI cL cBB cII cSh h_this a_this this_taped this_code w_2 w_3 w_46 w_47 this_bitAt this_k this_e1 this_du this_dv f_this_roots f_this_cubes f_this_start224 f_this_start256 f_this_turns f_this_round f_48 f_49 f_50 f_51 f_52) H := hP
  have hD : va_D A (kWX5_named_start224 cB cI cL cBB cII cSh h_this a_this this_taped this_code w_2 w_3 w_46 w_47 this_bitAt this_k this_e1 this_du this_dv f_this_roots f_this_cubes f_this_start224 f_this_start256 f_this_turns f_this_round f_48 f_49 f_50 f_51 f_52) := hD
  refine lv_aload_n hx hb kdX5_named_64 rfl (lv_at hl 0 rfl) ?_
  refine lv_bipush (v := 49) hx hb kdX5_named_65 (by decide) ?_
  obtain ⟨u_61, hu_61, h⟩ := kb_o_s h
  obtain ⟨w_54, w_55, f_56, f_57, f_58, f_59, f_60⟩ := u_61
  have hC := (show ([0, 2, 5, 6, 7, 8, 9, 10, 11] : List Nat).map (fun i : Nat => (kWX5_named_start224 cB cI cL cBB cII cSh h_this a_this this_taped this_code w_2 w_3 w_46 w_47 this_bitAt this_k this_e1 this_du this_dv f_this_roots f_this_cubes f_this_start224 f_this_start256 f_this_turns f_this_round f_48 f_49 f_50 f_51 f_52)[i]?) = List.map some (kWX5_put cB cI cL cBB cII cSh h_this a_this this_taped this_code w_2 w_3 w_46 w_47 this_bitAt this_k this_e1 this_du this_dv f_this_cubes f_this_turns f_this_round f_48 f_49 f_50 f_51 f_52) from rfl)
  have hPc := kb_Psub hP ([0, 2, 5, 6, 7, 8, 9, 10, 11] : List Nat) hC
  have hDc := kb_Dsub hD ([0, 2, 5, 6, 7, 8, 9, 10, 11] : List Nat) hC (by simp [kb_nd])
  refine kb_call0 (va_runV (As := [.int (49 : Int32)]) (rest := []) C0 (kcX5_put l D cB cI cL cBB cII cSh h_this a_this _ (49 : Int32) this_taped this_code w_2 w_3 w_46 w_47 this_bitAt this_k this_e1 this_du this_dv f_this_cubes f_this_turns f_this_round f_48 f_49 f_50 f_51 f_52 (w_54, w_55, f_56, f_57, f_58, f_59, f_60) hu_61) (cwV 1 hts (kb_gV km_641 km_643 kp_22 km_6 km_644) rfl rfl rfl (by decide +kernel) ⟨Nat.le_of_ble_eq_true rfl, Nat.le_of_ble_eq_true rfl⟩) ⟨kb_P_bl, va_recv hK hP (ci := 5) (q0 := 0) rfl rfl, (fun U hU hW => ⟨rfl, by rw [hU], by rw [hU]; exact hPc, va_K.moved hW.alike hK, kb_N_to hW hN, hDc.weaken (fun _ _ _ _ => trivial)⟩)⟩ rfl rfl hl.1 rfl (lv_room (Nat.le_of_ble_eq_true rfl)) kdX5_named_67 ⟨Nat.le_of_ble_eq_true rfl, Nat.le_of_ble_eq_true rfl⟩) hP hD hS hA ([0, 2, 5, 6, 7, 8, 9, 10, 11] : List Nat) hC rfl (fun H locs hP hD hS => ?_)
  have hP : va_P D kCl (kWX5_named_start224 cB cI cL cBB cII cSh h_this a_this this_taped this_code w_2 w_3 w_54 w_55 this_bitAt this_k this_e1 this_du this_dv f_this_roots f_this_cubes f_this_start224 f_this_start256 f_this_turns f_this_round f_56 f_57 f_58 f_59 f_60) H := hP
  have hD : va_D A (kWX5_named_start224 cB cI cL cBB cII cSh h_this a_this this_taped this_code w_2 w_3 w_54 w_55 this_bitAt this_k this_e1 this_du this_dv f_this_roots f_this_cubes f_this_start224 f_this_start256 f_this_turns f_this_round f_56 f_57 f_58 f_59 f_60) := hD
  refine lv_aload_n hx hb kdX5_named_70 rfl (lv_at hl 0 rfl) ?_
  refine lv_bipush (v := 50) hx hb kdX5_named_71 (by decide) ?_
  obtain ⟨u_69, hu_69, h⟩ := kb_o_s h
  obtain ⟨w_62, w_63, f_64, f_65, f_66, f_67, f_68⟩ := u_69
  have hC := (show ([0, 2, 5, 6, 7, 8, 9, 10, 11] : List Nat).map (fun i : Nat => (kWX5_named_start224 cB cI cL cBB cII cSh h_this a_this this_taped this_code w_2 w_3 w_54 w_55 this_bitAt this_k this_e1 this_du this_dv f_this_roots f_this_cubes f_this_start224 f_this_start256 f_this_turns f_this_round f_56 f_57 f_58 f_59 f_60)[i]?) = List.map some (kWX5_put cB cI cL cBB cII cSh h_this a_this this_taped this_code w_2 w_3 w_54 w_55 this_bitAt this_k this_e1 this_du this_dv f_this_cubes f_this_turns f_this_round f_56 f_57 f_58 f_59 f_60) from rfl)
  have hPc := kb_Psub hP ([0, 2, 5, 6, 7, 8, 9, 10, 11] : List Nat) hC
  have hDc := kb_Dsub hD ([0, 2, 5, 6, 7, 8, 9, 10, 11] : List Nat) hC (by simp [kb_nd])
  refine kb_call0 (va_runV (As := [.int (50 : Int32)]) (rest := []) C0 (kcX5_put l D cB cI cL cBB cII cSh h_this a_this _ (50 : Int32) this_taped this_code w_2 w_3 w_54 w_55 this_bitAt this_k this_e1 this_du this_dv f_this_cubes f_this_turns f_this_round f_56 f_57 f_58 f_59 f_60 (w_62, w_63, f_64, f_65, f_66, f_67, f_68) hu_69) (cwV 1 hts (kb_gV km_641 km_643 kp_22 km_6 km_644) rfl rfl rfl (by decide +kernel) ⟨Nat.le_of_ble_eq_true rfl, Nat.le_of_ble_eq_true rfl⟩) ⟨kb_P_bl, va_recv hK hP (ci := 5) (q0 := 0) rfl rfl, (fun U hU hW => ⟨rfl, by rw [hU], by rw [hU]; exact hPc, va_K.moved hW.alike hK, kb_N_to hW hN, hDc.weaken (fun _ _ _ _ => trivial)⟩)⟩ rfl rfl hl.1 rfl (lv_room (Nat.le_of_ble_eq_true rfl)) kdX5_named_73 ⟨Nat.le_of_ble_eq_true rfl, Nat.le_of_ble_eq_true rfl⟩) hP hD hS hA ([0, 2, 5, 6, 7, 8, 9, 10, 11] : List Nat) hC rfl (fun H locs hP hD hS => ?_)
  have hP : va_P D kCl (kWX5_named_start224 cB cI cL cBB cII cSh h_this a_this this_taped this_code w_2 w_3 w_62 w_63 this_bitAt this_k this_e1 this_du this_dv f_this_roots f_this_cubes f_this_start224 f_this_start256 f_this_turns f_this_round f_64 f_65 f_66 f_67 f_68) H := hP
  have hD : va_D A (kWX5_named_start224 cB cI cL cBB cII cSh h_this a_this this_taped this_code w_2 w_3 w_62 w_63 this_bitAt this_k this_e1 this_du this_dv f_this_roots f_this_cubes f_this_start224 f_this_start256 f_this_turns f_this_round f_64 f_65 f_66 f_67 f_68) := hD
  refine lv_aload_n hx hb kdX5_named_76 rfl (lv_at hl 0 rfl) ?_
  refine lv_bipush (v := 47) hx hb kdX5_named_77 (by decide) ?_
  obtain ⟨u_77, hu_77, h⟩ := kb_o_s h
  obtain ⟨w_70, w_71, f_72, f_73, f_74, f_75, f_76⟩ := u_77
  have hC := (show ([0, 2, 5, 6, 7, 8, 9, 10, 11] : List Nat).map (fun i : Nat => (kWX5_named_start224 cB cI cL cBB cII cSh h_this a_this this_taped this_code w_2 w_3 w_62 w_63 this_bitAt this_k this_e1 this_du this_dv f_this_roots f_this_cubes f_this_start224 f_this_start256 f_this_turns f_this_round f_64 f_65 f_66 f_67 f_68)[i]?) = List.map some (kWX5_put cB cI cL cBB cII cSh h_this a_this this_taped this_code w_2 w_3 w_62 w_63 this_bitAt this_k this_e1 this_du this_dv f_this_cubes f_this_turns f_this_round f_64 f_65 f_66 f_67 f_68) from rfl)
  have hPc := kb_Psub hP ([0, 2, 5, 6, 7, 8, 9, 10, 11] : List Nat) hC
  have hDc := kb_Dsub hD ([0, 2, 5, 6, 7, 8, 9, 10, 11] : List Nat) hC (by simp [kb_nd])
  refine kb_call0 (va_runV (As := [.int (47 : Int32)]) (rest := []) C0 (kcX5_put l D cB cI cL cBB cII cSh h_this a_this _ (47 : Int32) this_taped this_code w_2 w_3 w_62 w_63 this_bitAt this_k this_e1 this_du this_dv f_this_cubes f_this_turns f_this_round f_64 f_65 f_66 f_67 f_68 (w_70, w_71, f_72, f_73, f_74, f_75, f_76) hu_77) (cwV 1 hts (kb_gV km_641 km_643 kp_22 km_6 km_644) rfl rfl rfl (by decide +kernel) ⟨Nat.le_of_ble_eq_true rfl, Nat.le_of_ble_eq_true rfl⟩) ⟨kb_P_bl, va_recv hK hP (ci := 5) (q0 := 0) rfl rfl, (fun U hU hW => ⟨rfl, by rw [hU], by rw [hU]; exact hPc, va_K.moved hW.alike hK, kb_N_to hW hN, hDc.weaken (fun _ _ _ _ => trivial)⟩)⟩ rfl rfl hl.1 rfl (lv_room (Nat.le_of_ble_eq_true rfl)) kdX5_named_79 ⟨Nat.le_of_ble_eq_true rfl, Nat.le_of_ble_eq_true rfl⟩) hP hD hS hA ([0, 2, 5, 6, 7, 8, 9, 10, 11] : List Nat) hC rfl (fun H locs hP hD hS => ?_)
  have hP : va_P D kCl (kWX5_named_start224 cB cI cL cBB cII cSh h_this a_this this_taped this_code w_2 w_3 w_70 w_71 this_bitAt this_k this_e1 this_du this_dv f_this_roots f_this_cubes f_this_start224 f_this_start256 f_this_turns f_this_round f_72 f_73 f_74 f_75 f_76) H := hP
  have hD : va_D A (kWX5_named_start224 cB cI cL cBB cII cSh h_this a_this this_taped this_code w_2 w_3 w_70 w_71 this_bitAt this_k this_e1 this_du this_dv f_this_roots f_this_cubes f_this_start224 f_this_start256 f_this_turns f_this_round f_72 f_73 f_74 f_75 f_76) := hD
  refine lv_aload_n hx hb kdX5_named_82 rfl (lv_at hl 0 rfl) ?_
  refine lv_bipush (v := 50) hx hb kdX5_named_83 (by decide) ?_
  obtain ⟨u_85, hu_85, h⟩ := kb_o_s h
  obtain ⟨w_78, w_79, f_80, f_81, f_82, f_83, f_84⟩ := u_85
  have hC := (show ([0, 2, 5, 6, 7, 8, 9, 10, 11] : List Nat).map (fun i : Nat => (kWX5_named_start224 cB cI cL cBB cII cSh h_this a_this this_taped this_code w_2 w_3 w_70 w_71 this_bitAt this_k this_e1 this_du this_dv f_this_roots f_this_cubes f_this_start224 f_this_start256 f_this_turns f_this_round f_72 f_73 f_74 f_75 f_76)[i]?) = List.map some (kWX5_put cB cI cL cBB cII cSh h_this a_this this_taped this_code w_2 w_3 w_70 w_71 this_bitAt this_k this_e1 this_du this_dv f_this_cubes f_this_turns f_this_round f_72 f_73 f_74 f_75 f_76) from rfl)
  have hPc := kb_Psub hP ([0, 2, 5, 6, 7, 8, 9, 10, 11] : List Nat) hC
  have hDc := kb_Dsub hD ([0, 2, 5, 6, 7, 8, 9, 10, 11] : List Nat) hC (by simp [kb_nd])
  refine kb_call0 (va_runV (As := [.int (50 : Int32)]) (rest := []) C0 (kcX5_put l D cB cI cL cBB cII cSh h_this a_this _ (50 : Int32) this_taped this_code w_2 w_3 w_70 w_71 this_bitAt this_k this_e1 this_du this_dv f_this_cubes f_this_turns f_this_round f_72 f_73 f_74 f_75 f_76 (w_78, w_79, f_80, f_81, f_82, f_83, f_84) hu_85) (cwV 1 hts (kb_gV km_641 km_643 kp_22 km_6 km_644) rfl rfl rfl (by decide +kernel) ⟨Nat.le_of_ble_eq_true rfl, Nat.le_of_ble_eq_true rfl⟩) ⟨kb_P_bl, va_recv hK hP (ci := 5) (q0 := 0) rfl rfl, (fun U hU hW => ⟨rfl, by rw [hU], by rw [hU]; exact hPc, va_K.moved hW.alike hK, kb_N_to hW hN, hDc.weaken (fun _ _ _ _ => trivial)⟩)⟩ rfl rfl hl.1 rfl (lv_room (Nat.le_of_ble_eq_true rfl)) kdX5_named_85 ⟨Nat.le_of_ble_eq_true rfl, Nat.le_of_ble_eq_true rfl⟩) hP hD hS hA ([0, 2, 5, 6, 7, 8, 9, 10, 11] : List Nat) hC rfl (fun H locs hP hD hS => ?_)
  have hP : va_P D kCl (kWX5_named_start224 cB cI cL cBB cII cSh h_this a_this this_taped this_code w_2 w_3 w_78 w_79 this_bitAt this_k this_e1 this_du this_dv f_this_roots f_this_cubes f_this_start224 f_this_start256 f_this_turns f_this_round f_80 f_81 f_82 f_83 f_84) H := hP
  have hD : va_D A (kWX5_named_start224 cB cI cL cBB cII cSh h_this a_this this_taped this_code w_2 w_3 w_78 w_79 this_bitAt this_k this_e1 this_du this_dv f_this_roots f_this_cubes f_this_start224 f_this_start256 f_this_turns f_this_round f_80 f_81 f_82 f_83 f_84) := hD
  refine lv_aload_n hx hb kdX5_named_88 rfl (lv_at hl 0 rfl) ?_
  refine lv_iload_n hx hb kdX5_named_89 rfl (lv_at hl 2 rfl) ?_
  obtain ⟨u_93, hu_93, h⟩ := kb_o_s h
  obtain ⟨w_86, w_87, f_88, f_89, f_90, f_91, f_92⟩ := u_93
  have hC := (show ([0, 2, 5, 6, 7, 8, 9, 10, 11] : List Nat).map (fun i : Nat => (kWX5_named_start224 cB cI cL cBB cII cSh h_this a_this this_taped this_code w_2 w_3 w_78 w_79 this_bitAt this_k this_e1 this_du this_dv f_this_roots f_this_cubes f_this_start224 f_this_start256 f_this_turns f_this_round f_80 f_81 f_82 f_83 f_84)[i]?) = List.map some (kWX5_put cB cI cL cBB cII cSh h_this a_this this_taped this_code w_2 w_3 w_78 w_79 this_bitAt this_k this_e1 this_du this_dv f_this_cubes f_this_turns f_this_round f_80 f_81 f_82 f_83 f_84) from rfl)
  have hPc := kb_Psub hP ([0, 2, 5, 6, 7, 8, 9, 10, 11] : List Nat) hC
  have hDc := kb_Dsub hD ([0, 2, 5, 6, 7, 8, 9, 10, 11] : List Nat) hC (by simp [kb_nd])
  refine kb_call0 (va_runV (As := [.int p2]) (rest := []) C0 (kcX5_put l D cB cI cL cBB cII cSh h_this a_this _ p2 this_taped this_code w_2 w_3 w_78 w_79 this_bitAt this_k this_e1 this_du this_dv f_this_cubes f_this_turns f_this_round f_80 f_81 f_82 f_83 f_84 (w_86, w_87, f_88, f_89, f_90, f_91, f_92) hu_93) (cwV 1 hts (kb_gV km_641 km_643 kp_22 km_6 km_644) rfl rfl rfl (by decide +kernel) ⟨Nat.le_of_ble_eq_true rfl, Nat.le_of_ble_eq_true rfl⟩) ⟨kb_P_bl, va_recv hK hP (ci := 5) (q0 := 0) rfl rfl, (fun U hU hW => ⟨rfl, by rw [hU], by rw [hU]; exact hPc, va_K.moved hW.alike hK, kb_N_to hW hN, hDc.weaken (fun _ _ _ _ => trivial)⟩)⟩ rfl rfl hl.1 rfl (lv_room (Nat.le_of_ble_eq_true rfl)) kdX5_named_90 ⟨Nat.le_of_ble_eq_true rfl, Nat.le_of_ble_eq_true rfl⟩) hP hD hS hA ([0, 2, 5, 6, 7, 8, 9, 10, 11] : List Nat) hC rfl (fun H locs hP hD hS => ?_)
  have hP : va_P D kCl (kWX5_named_start224 cB cI cL cBB cII cSh h_this a_this this_taped this_code w_2 w_3 w_86 w_87 this_bitAt this_k this_e1 this_du this_dv f_this_roots f_this_cubes f_this_start224 f_this_start256 f_this_turns f_this_round f_88 f_89 f_90 f_91 f_92) H := hP
  have hD : va_D A (kWX5_named_start224 cB cI cL cBB cII cSh h_this a_this this_taped this_code w_2 w_3 w_86 w_87 this_bitAt this_k this_e1 this_du this_dv f_this_roots f_this_cubes f_this_start224 f_this_start256 f_this_turns f_this_round f_88 f_89 f_90 f_91 f_92) := hD
  refine lv_aload_n hx hb kdX5_named_93 rfl (lv_at hl 0 rfl) ?_
  refine lv_iload_n hx hb kdX5_named_94 rfl (lv_at hl 3 rfl) ?_
  obtain ⟨u_101, hu_101, h⟩ := kb_o_s h
  obtain ⟨w_94, w_95, f_96, f_97, f_98, f_99, f_100⟩ := u_101
  have hC := (show ([0, 2, 5, 6, 7, 8, 9, 10, 11] : List Nat).map (fun i : Nat => (kWX5_named_start224 cB cI cL cBB cII cSh h_this a_this this_taped this_code w_2 w_3 w_86 w_87 this_bitAt this_k this_e1 this_du this_dv f_this_roots f_this_cubes f_this_start224 f_this_start256 f_this_turns f_this_round f_88 f_89 f_90 f_91 f_92)[i]?) = List.map some (kWX5_put cB cI cL cBB cII cSh h_this a_this this_taped this_code w_2 w_3 w_86 w_87 this_bitAt this_k this_e1 this_du this_dv f_this_cubes f_this_turns f_this_round f_88 f_89 f_90 f_91 f_92) from rfl)
  have hPc := kb_Psub hP ([0, 2, 5, 6, 7, 8, 9, 10, 11] : List Nat) hC
  have hDc := kb_Dsub hD ([0, 2, 5, 6, 7, 8, 9, 10, 11] : List Nat) hC (by simp [kb_nd])
  refine kb_call0 (va_runV (As := [.int p3]) (rest := []) C0 (kcX5_put l D cB cI cL cBB cII cSh h_this a_this _ p3 this_taped this_code w_2 w_3 w_86 w_87 this_bitAt this_k this_e1 this_du this_dv f_this_cubes f_this_turns f_this_round f_88 f_89 f_90 f_91 f_92 (w_94, w_95, f_96, f_97, f_98, f_99, f_100) hu_101) (cwV 1 hts (kb_gV km_641 km_643 kp_22 km_6 km_644) rfl rfl rfl (by decide +kernel) ⟨Nat.le_of_ble_eq_true rfl, Nat.le_of_ble_eq_true rfl⟩) ⟨kb_P_bl, va_recv hK hP (ci := 5) (q0 := 0) rfl rfl, (fun U hU hW => ⟨rfl, by rw [hU], by rw [hU]; exact hPc, va_K.moved hW.alike hK, kb_N_to hW hN, hDc.weaken (fun _ _ _ _ => trivial)⟩)⟩ rfl rfl hl.1 rfl (lv_room (Nat.le_of_ble_eq_true rfl)) kdX5_named_95 ⟨Nat.le_of_ble_eq_true rfl, Nat.le_of_ble_eq_true rfl⟩) hP hD hS hA ([0, 2, 5, 6, 7, 8, 9, 10, 11] : List Nat) hC rfl (fun H locs hP hD hS => ?_)
  have hP : va_P D kCl (kWX5_named_start224 cB cI cL cBB cII cSh h_this a_this this_taped this_code w_2 w_3 w_94 w_95 this_bitAt this_k this_e1 this_du this_dv f_this_roots f_this_cubes f_this_start224 f_this_start256 f_this_turns f_this_round f_96 f_97 f_98 f_99 f_100) H := hP
  have hD : va_D A (kWX5_named_start224 cB cI cL cBB cII cSh h_this a_this this_taped this_code w_2 w_3 w_94 w_95 this_bitAt this_k this_e1 this_du this_dv f_this_roots f_this_cubes f_this_start224 f_this_start256 f_this_turns f_this_round f_96 f_97 f_98 f_99 f_100) := hD
  refine lv_aload_n hx hb kdX5_named_98 rfl (lv_at hl 0 rfl) ?_
  obtain ⟨u_109, hu_109, h⟩ := kb_o_s h
  obtain ⟨w_102, w_103, f_104, f_105, f_106, f_107, f_108⟩ := u_109
  have hC := (show ([0, 2, 5, 6, 7, 8, 9, 10, 11] : List Nat).map (fun i : Nat => (kWX5_named_start224 cB cI cL cBB cII cSh h_this a_this this_taped this_code w_2 w_3 w_94 w_95 this_bitAt this_k this_e1 this_du this_dv f_this_roots f_this_cubes f_this_start224 f_this_start256 f_this_turns f_this_round f_96 f_97 f_98 f_99 f_100)[i]?) = List.map some (kWX5_finish cB cI cL cBB cII cSh h_this a_this this_taped this_code w_2 w_3 w_94 w_95 this_bitAt this_k this_e1 this_du this_dv f_this_cubes f_this_turns f_this_round f_96 f_97 f_98 f_99 f_100) from rfl)
  have hPc := kb_Psub hP ([0, 2, 5, 6, 7, 8, 9, 10, 11] : List Nat) hC
  have hDc := kb_Dsub hD ([0, 2, 5, 6, 7, 8, 9, 10, 11] : List Nat) hC (by simp [kb_nd])
  refine kb_call0 (va_runV (As := []) (rest := []) C0 (kcX5_finish l D cB cI cL cBB cII cSh h_this a_this _ this_taped this_code w_2 w_3 w_94 w_95 this_bitAt this_k this_e1 this_du this_dv f_this_cubes f_this_turns f_this_round f_96 f_97 f_98 f_99 f_100 (w_102, w_103, f_104, f_105, f_106, f_107, f_108) hu_109) (cwV 0 hts (kb_gV km_676 km_678 kp_23 km_6 km_679) rfl rfl rfl (by decide +kernel) ⟨Nat.le_of_ble_eq_true rfl, Nat.le_of_ble_eq_true rfl⟩) ⟨kb_P_bl, va_recv hK hP (ci := 5) (q0 := 0) rfl rfl, (fun U hU hW => ⟨rfl, by rw [hU], by rw [hU]; exact hPc, va_K.moved hW.alike hK, kb_N_to hW hN, hDc.weaken (fun _ _ _ _ => trivial)⟩)⟩ rfl rfl hl.1 rfl (lv_room (Nat.le_of_ble_eq_true rfl)) kdX5_named_99 ⟨Nat.le_of_ble_eq_true rfl, Nat.le_of_ble_eq_true rfl⟩) hP hD hS hA ([0, 2, 5, 6, 7, 8, 9, 10, 11] : List Nat) hC rfl (fun H locs hP hD hS => ?_)
  have hP : va_P D kCl (kWX5_named_start224 cB cI cL cBB cII cSh h_this a_this this_taped this_code w_2 w_3 w_102 w_103 this_bitAt this_k this_e1 this_du this_dv f_this_roots f_this_cubes f_this_start224 f_this_start256 f_this_turns f_this_round f_104 f_105 f_106 f_107 f_108) H := hP
  have hD : va_D A (kWX5_named_start224 cB cI cL cBB cII cSh h_this a_this this_taped this_code w_2 w_3 w_102 w_103 this_bitAt this_k this_e1 this_du this_dv f_this_roots f_this_cubes f_this_start224 f_this_start256 f_this_turns f_this_round f_104 f_105 f_106 f_107 f_108) := hD
  refine lv_iconst (v := 0) hx hb kdX5_named_102 (by decide) ?_
  refine lv_istore (lv' := [(4, .int (0 : Int32)), (0, .ref h_this), (1, .ref (a_this 7)), (2, .int p2), (3, .int p3)]) hx hb kdX5_named_103 hl (by decide) rfl (fun ls hl => ?_)
  obtain ⟨r_117, hr_117, h⟩ := kb_o_s h
  refine klX5_named_start224_105 C0 hlocks hK hN hA (by decide) (by decide) h_this a_this this_taped this_code w_2 w_3 w_102 w_103 this_bitAt this_k this_e1 this_du this_dv f_this_roots f_this_cubes f_this_start256 f_this_turns f_this_round f_104 f_105 f_106 f_107 f_108 100000 (0 : Int32) f_this_start224 r_117 hr_117 _ _ _ hP hD hS (lv_sub hl [1, 2, 0] rfl) (fun x4p105_115 f_this_start224p105_116 er_117 H locs ls hP hD hS hl => ?_)
  subst er_117
  obtain rfl := Option.some.inj h
  exact W.vret hx hb hr (fun t ht hW => ⟨⟨rfl, by rw [ht]; exact hP, va_K.moved hW.alike hK, hD⟩, hS.F ht⟩) hS.2.2 kdX5_named_129

-- 503.ModuleKemModel.named_start256.lean.txt
abbrev kWX5_named_start256 (cB cI cL cBB cII cSh : ClassId) (h_this : Nat) (a_this : Nat → Nat) (this_taped : Int32) (this_code : Int32) (this_kind : Int32) (this_rate : Int32) (this_filled : Int32) (this_total : Int64) (this_bitAt : Int32) (this_k : Int32) (this_e1 : Int32) (this_du : Int32) (this_dv : Int32) (f_this_roots : Nat → Int64) (f_this_cubes : Nat → Int64) (f_this_start224 : Nat → Int64) (f_this_start256 : Nat → Int64) (f_this_turns : Nat → Int32) (f_this_round : Nat → Int64) (f_this_state : Nat → Int64) (f_this_other : Nat → Int64) (f_this_column : Nat → Int64) (f_this_words : Nat → Int64) (f_this_block : Nat → Int32) : va_W := [(h_this, koX5 a_this this_taped this_code this_kind this_rate this_filled this_total this_bitAt this_k this_e1 this_du this_dv), ((a_this 5), .inl (cL, 16, .inr (.inl f_this_roots))), ((a_this 6), .inl (cL, 80, .inr (.inl f_this_cubes))), ((a_this 7), .inl (cL, 8, .inr (.inl f_this_start224))), ((a_this 8), .inl (cL, 8, .inr (.inl f_this_start256))), ((a_this 11), .inl (cI, 25, .inl f_this_turns)), ((a_this 12), .inl (cL, 24, .inr (.inl f_this_round))), ((a_this 13), .inl (cL, 25, .inr (.inl f_this_state))), ((a_this 14), .inl (cL, 25, .inr (.inl f_this_other))), ((a_this 15), .inl (cL, 5, .inr (.inl f_this_column))), ((a_this 16), .inl (cL, 80, .inr (.inl f_this_words))), ((a_this 17), .inl (cB, 128, .inl f_this_block))]
def krX5_named_start256 : Room := { frames := 4, cells := 0, slots := 0, locals := 107 }
set_option maxHeartbeats 4000000 in
set_option maxRecDepth 100000 in
theorem klX5_named_start256_8 {p : Program} {l : Launch} {e : Env} {s : State} {m : MethodId} {args : Array Value} {below : List Frame} {meth : Method} {c : Code} {cells slots : Nat} {Q : State → Prop} {D : va_G} {cB cI cL cBB cII cSh : ClassId} {A : Nat → Prop} (C0 : CallFix p m c prog_8_method_21_code 5 s args kwA kRX5) (hlocks : meth.locks = false) (hK : va_K D kCl (kb_T cB cI cL cBB cII cSh) s) (hN : kb_N s) (hA : ∀ q, s.heap.size ≤ q → A q) (hcR : cells ≤ krX5_named_start256.cells) (hsR : slots ≤ krX5_named_start256.slots) (h_this : Nat) (a_this : Nat → Nat) (p2 : Int32) (p3 : Int32) (this_taped : Int32) (this_code : Int32) (w_2 : Int32) (w_3 : Int32) (w_1 : Int32) (w_4 : Int64) (this_bitAt : Int32) (this_k : Int32) (this_e1 : Int32) (this_du : Int32) (this_dv : Int32) (f_this_roots : Nat → Int64) (f_this_cubes : Nat → Int64) (f_this_start224 : Nat → Int64) (f_this_start256 : Nat → Int64) (f_this_turns : Nat → Int32) (f_this_round : Nat → Int64) (f_this_other : Nat → Int64) (f_this_column : Nat → Int64) (f_this_words : Nat → Int64) (f_this_block : Nat → Int32) :
    ∀ (fuel : Nat) (x4p8 : Int32) (f_this_statep8 : Nat → Int64) (r : Int32 × (Nat → Int64)), kb_w (fun u : Int32 × (Nat → Int64) => kSX5_named_start256_8 u.1 u.2) fuel (x4p8, f_this_statep8) = some r → ∀ (H : Heap) (locs : List Loc) (ls : Array Slot), va_P D kCl (kWX5_named_start256 cB cI cL cBB cII cSh h_this a_this this_taped this_code w_2 w_3 w_1 w_4 this_bitAt this_k this_e1 this_du this_dv f_this_roots f_this_cubes f_this_start224 f_this_start256 f_this_turns f_this_round f_this_statep8 f_this_other f_this_column f_this_words f_this_block) H → va_D A (kWX5_named_start256 cB cI cL cBB cII cSh h_this a_this this_taped this_code w_2 w_3 w_1 w_4 this_bitAt this_k this_e1 this_du this_dv f_this_roots f_this_cubes f_this_start224 f_this_start256 f_this_turns f_this_round f_this_statep8 f_this_other f_this_column f_this_words f_this_block) → va_S A s.heap H locs → lv_has ls 5 [(0, .ref h_this), (1, .ref (a_this 8)), (2, .int p2), (3, .int p3), (4, .int x4p8)] → (∀ (x4p8' : Int32) (f_this_statep8' : Nat → Int64), r = (x4p8', f_this_statep8') → ∀ (H : Heap) (locs : List Loc) (ls : Array Slot), va_P D kCl (kWX5_named_start256 cB cI cL cBB cII cSh h_this a_this this_taped this_code w_2 w_3 w_1 w_4 this_bitAt this_k this_e1 this_du this_dv f_this_roots f_this_cubes f_this_start224 f_this_start256 f_this_turns f_this_round f_this_statep8' f_this_other f_this_column f_this_words f_this_block) H → va_D A (kWX5_named_start256 cB cI cL cBB cII cSh h_this a_this this_taped this_code w_2 w_3 w_1 w_4 this_bitAt this_k this_e1 this_du this_dv f_this_roots f_this_cubes f_this_start224 f_this_start256 f_this_turns f_this_round f_this_statep8' f_this_other f_this_column f_this_words f_this_block) → va_S A s.heap H locs → lv_has ls 5 [(0, .ref h_this), (1, .ref (a_this 8)), (2, .int p2), (3, .int p3), (4, .int x4p8')] → W p l e krX5_named_start256 s m args below meth c H locs cells slots Q (F0 m 34 ls [])) → W p l e krX5_named_start256 s m args below meth c H locs cells slots Q (F0 m 8 ls []) := by
  obtain ⟨hx, hb, hml, hown, hts⟩ := id C0
  intro fuel
  induction fuel with
  | zero =>
    intro x4p8 f_this_statep8 r h
    exact absurd h (kb_w_z _ _ _)
  | succ fuel ih =>
    intro x4p8 f_this_statep8 r h H locs ls hP hD hS hl hk0
    obtain ⟨o, h, ho⟩ := kb_w_s h
    have h : kSX5_named_start256_8 x4p8 f_this_statep8 = some o := h
    unfold kSX5_named_start256_8 at h
    refine lv_iload hx hb kdX5_named_8 (lv_at hl 4 rfl) ?_
    refine lv_bipush (v := 8) hx hb kdX5_named_10 (by decide) ?_
    refine lv_icmp_ge (tgt := 34) hx hb kdX5_named_12 (by decide) (fun c_7 => ?_) (fun c_7 => ?_)
    · have h := kb_b_t c_7 h
      obtain rfl := Option.some.inj h
      exact hk0 x4p8 f_this_statep8 ho.symm _ _ _ hP hD hS (lv_sub hl [0, 1, 2, 3, 4] rfl)
    · have h := kb_b_f c_7 h
      refine lv_aload_n hx hb kdX5_named_15 rfl (lv_at hl 0 rfl) ?_
      refine va_get (ci := 5) (v := .ref (a_this 13)) (C := kRX5) (T := kTX5) (N := 35) hx hb hts kinX5 hown hK hP 0 rfl rfl 13 (by decide) (hts _ km_694) (fun _ h9 => h9) rfl kdX5_named_16 ?_
      refine lv_iload hx hb kdX5_named_19 (lv_at hl 4 rfl) ?_
      refine lv_dup2_11 hx hb kdX5_named_21 rfl rfl ?_
      obtain ⟨g_8, h⟩ := kb_g_s h
      refine va_lald hx hb hK hP 7 2 rfl rfl (kb_in_v g_8) kdX5_named_22 ?_
      refine lv_ldc2 (v := -6510615555426900571) hx hb hown (hts _ km_640) kdX5_named_23 ?_
      refine lv_lxor hx hb kdX5_named_26 ?_
      obtain ⟨g_9, h⟩ := kb_g_s h
      refine va_last hx hb hK hP hD hS 7 2 rfl rfl (kb_in_v g_9) kdX5_named_27 (fun H locs hP hD hS => ?_)
      obtain ⟨f_10, ef_10⟩ : ∃ y, y = vp_updL f_this_statep8 x4p8.toNatClampNeg ((f_this_statep8 x4p8.toNatClampNeg) ^^^ (-6510615555426900571 : Int64)) := ⟨_, rfl⟩
      have h := kb_n_s ef_10 h
      have hP : va_P D kCl (kWX5_named_start256 cB cI cL cBB cII cSh h_this a_this this_taped this_code w_2 w_3 w_1 w_4 this_bitAt this_k this_e1 this_du this_dv f_this_roots f_this_cubes f_this_start224 f_this_start256 f_this_turns f_this_round f_10 f_this_other f_this_column f_this_words f_this_block) H := by rw [ef_10]; exact hP
      have hD : va_D A (kWX5_named_start256 cB cI cL cBB cII cSh h_this a_this this_taped this_code w_2 w_3 w_1 w_4 this_bitAt this_k this_e1 this_du this_dv f_this_roots f_this_cubes f_this_start224 f_this_start256 f_this_turns f_this_round f_10 f_this_other f_this_column f_this_words f_this_block) := by rw [ef_10]; exact hD
      obtain ⟨x4_11, ex4_11⟩ : ∃ y : Int32, y = x4p8 + Int32.ofInt 1 := ⟨_, rfl⟩
      have h := kb_n_s ex4_11 h
      refine lv_iinc (v := x4_11) (lv' := [(4, .int x4_11), (0, .ref h_this), (1, .ref (a_this 8)), (2, .int p2), (3, .int p3)]) hx hb kdX5_named_28 hl (k := 4) rfl ex4_11.symm (by decide) rfl (fun ls hl => ?_)
      refine lv_goto (tgt := 8) hx hb kdX5_named_31 (by decide) ?_
      obtain rfl := Option.some.inj h
      exact ih x4_11 f_10 r ho _ _ _ hP hD hS (lv_sub hl [1, 2, 3, 4, 0] rfl) hk0
set_option maxHeartbeats 4000000 in
set_option maxRecDepth 100000 in
theorem klX5_named_start256_105 {p : Program} {l : Launch} {e : Env} {s : State} {m : MethodId} {args : Array Value} {below : List Frame} {meth : Method} {c : Code} {cells slots : Nat} {Q : State → Prop} {D : va_G} {cB cI cL cBB cII cSh : ClassId} {A : Nat → Prop} (C0 : CallFix p m c prog_8_method_21_code 5 s args kwA kRX5) (hlocks : meth.locks = false) (hK : va_K D kCl (kb_T cB cI cL cBB cII cSh) s) (hN : kb_N s) (hA : ∀ q, s.heap.size ≤ q → A q) (hcR : cells ≤ krX5_named_start256.cells) (hsR : slots ≤ krX5_named_start256.slots) (h_this : Nat) (a_this : Nat → Nat) (this_taped : Int32) (this_code : Int32) (w_2 : Int32) (w_3 : Int32) (w_102 : Int32) (w_103 : Int64) (this_bitAt : Int32) (this_k : Int32) (this_e1 : Int32) (this_du : Int32) (this_dv : Int32) (f_this_roots : Nat → Int64) (f_this_cubes : Nat → Int64) (f_this_start224 : Nat → Int64) (f_this_turns : Nat → Int32) (f_this_round : Nat → Int64) (f_104 : Nat → Int64) (f_105 : Nat → Int64) (f_106 : Nat → Int64) (f_107 : Nat → Int64) (f_108 : Nat → Int32) :
    ∀ (fuel : Nat) (x4p105 : Int32) (f_this_start256p105 : Nat → Int64) (r : Int32 × (Nat → Int64)), kb_w (fun u : Int32 × (Nat → Int64) => kSX5_named_start256_105 f_104 u.1 u.2) fuel (x4p105, f_this_start256p105) = some r → ∀ (H : Heap) (locs : List Loc) (ls : Array Slot), va_P D kCl (kWX5_named_start256 cB cI cL cBB cII cSh h_this a_this this_taped this_code w_2 w_3 w_102 w_103 this_bitAt this_k this_e1 this_du this_dv f_this_roots f_this_cubes f_this_start224 f_this_start256p105 f_this_turns f_this_round f_104 f_105 f_106 f_107 f_108) H → va_D A (kWX5_named_start256 cB cI cL cBB cII cSh h_this a_this this_taped this_code w_2 w_3 w_102 w_103 this_bitAt this_k this_e1 this_du this_dv f_this_roots f_this_cubes f_this_start224 f_this_start256p105 f_this_turns f_this_round f_104 f_105 f_106 f_107 f_108) → va_S A s.heap H locs → lv_has ls 5 [(0, .ref h_this), (1, .ref (a_this 8)), (4, .int x4p105)] → (∀ (x4p105' : Int32) (f_this_start256p105' : Nat → Int64), r = (x4p105', f_this_start256p105') → ∀ (H : Heap) (locs : List Loc) (ls : Array Slot), va_P D kCl (kWX5_named_start256 cB cI cL cBB cII cSh h_this a_this this_taped this_code w_2 w_3 w_102 w_103 this_bitAt this_k this_e1 this_du this_dv f_this_roots f_this_cubes f_this_start224 f_this_start256p105' f_this_turns f_this_round f_104 f_105 f_106 f_107 f_108) H → va_D A (kWX5_named_start256 cB cI cL cBB cII cSh h_this a_this this_taped this_code w_2 w_3 w_102 w_103 this_bitAt this_k this_e1 this_du this_dv f_this_roots f_this_cubes f_this_start224 f_this_start256p105' f_this_turns f_this_round f_104 f_105 f_106 f_107 f_108) → va_S A s.heap H locs → lv_has ls 5 [(0, .ref h_this), (1, .ref (a_this 8)), (4, .int x4p105')] → W p l e krX5_named_start256 s m args below meth c H locs cells slots Q (F0 m 129 ls [])) → W p l e krX5_named_start256 s m args below meth c H locs cells slots Q (F0 m 105 ls []) := by
  obtain ⟨hx, hb, hml, hown, hts⟩ := id C0
  intro fuel
  induction fuel with
  | zero =>
    intro x4p105 f_this_start256p105 r h
    exact absurd h (kb_w_z _ _ _)
  | succ fuel ih =>
    intro x4p105 f_this_start256p105 r h H locs ls hP hD hS hl hk0
    obtain ⟨o, h, ho⟩ := kb_w_s h
    have h : kSX5_named_start256_105 f_104 x4p105 f_this_start256p105 = some o := h
    unfold kSX5_named_start256_105 at h
    refine lv_iload hx hb kdX5_named_105 (lv_at hl 2 rfl) ?_
    refine lv_bipush (v := 8) hx hb kdX5_named_107 (by decide) ?_
    refine lv_icmp_ge (tgt := 129) hx hb kdX5_named_109 (by decide) (fun c_110 => ?_) (fun c_110 => ?_)
    · have h := kb_b_t c_110 h
      obtain rfl := Option.some.inj h
      exact hk0 x4p105 f_this_start256p105 ho.symm _ _ _ hP hD hS (lv_sub hl [0, 1, 2] rfl)
    · have h := kb_b_f c_110 h
      refine lv_aload_n hx hb kdX5_named_112 rfl (lv_at hl 1 rfl) ?_
      refine lv_iload hx hb kdX5_named_113 (lv_at hl 2 rfl) ?_
      refine lv_aload_n hx hb kdX5_named_115 rfl (lv_at hl 0 rfl) ?_
      refine va_get (ci := 5) (v := .ref (a_this 13)) (C := kRX5) (T := kTX5) (N := 35) hx hb hts kinX5 hown hK hP 0 rfl rfl 13 (by decide) (hts _ km_694) (fun _ h9 => h9) rfl kdX5_named_116 ?_
      refine lv_iload hx hb kdX5_named_119 (lv_at hl 2 rfl) ?_
      obtain ⟨g_111, h⟩ := kb_g_s h
      refine va_lald hx hb hK hP 7 2 rfl rfl (kb_in_v g_111) kdX5_named_121 ?_
      obtain ⟨g_112, h⟩ := kb_g_s h
      refine va_last hx hb hK hP hD hS 4 2 rfl rfl (kb_in_v g_112) kdX5_named_122 (fun H locs hP hD hS => ?_)
      obtain ⟨f_113, ef_113⟩ : ∃ y, y = vp_updL f_this_start256p105 x4p105.toNatClampNeg (f_104 x4p105.toNatClampNeg) := ⟨_, rfl⟩
      have h := kb_n_s ef_113 h
      have hP : va_P D kCl (kWX5_named_start256 cB cI cL cBB cII cSh h_this a_this this_taped this_code w_2 w_3 w_102 w_103 this_bitAt this_k this_e1 this_du this_dv f_this_roots f_this_cubes f_this_start224 f_113 f_this_turns f_this_round f_104 f_105 f_106 f_107 f_108) H := by rw [ef_113]; exact hP
      have hD : va_D A (kWX5_named_start256 cB cI cL cBB cII cSh h_this a_this this_taped this_code w_2 w_3 w_102 w_103 this_bitAt this_k this_e1 this_du this_dv f_this_roots f_this_cubes f_this_start224 f_113 f_this_turns f_this_round f_104 f_105 f_106 f_107 f_108) := by rw [ef_113]; exact hD
      obtain ⟨x4_114, ex4_114⟩ : ∃ y : Int32, y = x4p105 + Int32.ofInt 1 := ⟨_, rfl⟩
      have h := kb_n_s ex4_114 h
      refine lv_iinc (v := x4_114) (lv' := [(4, .int x4_114), (0, .ref h_this), (1, .ref (a_this 8))]) hx hb kdX5_named_123 hl (k := 2) rfl ex4_114.symm (by decide) rfl (fun ls hl => ?_)
      refine lv_goto (tgt := 105) hx hb kdX5_named_126 (by decide) ?_
      obtain rfl := Option.some.inj h
      exact ih x4_114 f_113 r ho _ _ _ hP hD hS (lv_sub hl [1, 2, 0] rfl) hk0
set_option maxHeartbeats 4000000 in
set_option maxRecDepth 100000 in
theorem kcX5_named_start256 (l : Launch) (D : va_G) (cB cI cL cBB cII cSh : ClassId) (h_this : Nat) (a_this : Nat → Nat) (sz : Nat) (p2 : Int32) (p3 : Int32) (this_taped : Int32) (this_code : Int32) (this_kind : Int32) (this_rate : Int32) (this_filled : Int32) (this_total : Int64) (this_bitAt : Int32) (this_k : Int32) (this_e1 : Int32) (this_du : Int32) (this_dv : Int32) (f_this_roots : Nat → Int64) (f_this_cubes : Nat → Int64) (f_this_start224 : Nat → Int64) (f_this_start256 : Nat → Int64) (f_this_turns : Nat → Int32) (f_this_round : Nat → Int64) (f_this_state : Nat → Int64) (f_this_other : Nat → Int64) (f_this_column : Nat → Int64) (f_this_words : Nat → Int64) (f_this_block : Nat → Int32) (out : Int32 × Int32 × Int32 × Int64 × (Nat → Int64) × (Nat → Int64) × (Nat → Int64) × (Nat → Int64) × (Nat → Int64) × (Nat → Int32)) (h : kFX5_named_start256 p2 p3 f_this_roots f_this_cubes f_this_start224 f_this_start256 f_this_turns f_this_round f_this_state f_this_other f_this_column f_this_words f_this_block = some out) : Met l kyX5_named kwX5_named krX5_named_start256 (kb_P D kCl (kb_T cB cI cL cBB cII cSh) [.ref h_this, .ref (a_this 8), .int p2, .int p3] (kWX5_named_start256 cB cI cL cBB cII cSh h_this a_this this_taped this_code this_kind this_rate this_filled this_total this_bitAt this_k this_e1 this_du this_dv f_this_roots f_this_cubes f_this_start224 f_this_start256 f_this_turns f_this_round f_this_state f_this_other f_this_column f_this_words f_this_block) sz) (kb_Q D kCl (kb_T cB cI cL cBB cII cSh) (va_A (kWX5_named_start256 cB cI cL cBB cII cSh h_this a_this this_taped this_code this_kind this_rate this_filled this_total this_bitAt this_k this_e1 this_du this_dv f_this_roots f_this_cubes f_this_start224 f_this_start256 f_this_turns f_this_round f_this_state f_this_other f_this_column f_this_words f_this_block) sz) none (kWX5_named_start256 cB cI cL cBB cII cSh h_this a_this this_taped this_code out.2.1 out.2.2.1 out.1 out.2.2.2.1 this_bitAt this_k this_e1 this_du this_dv f_this_roots f_this_cubes f_this_start224 out.2.2.2.2.1 f_this_turns f_this_round out.2.2.2.2.2.1 out.2.2.2.2.2.2.1 out.2.2.2.2.2.2.2.1 out.2.2.2.2.2.2.2.2.1 out.2.2.2.2.2.2.2.2.2)) 0 0 (va_A (kWX5_named_start256 cB cI cL cBB cII cSh h_this a_this this_taped this_code this_kind this_rate this_filled this_total this_bitAt this_k this_e1 this_du this_dv f_this_roots f_this_cubes f_this_start224 f_this_start256 f_this_turns f_this_round f_this_state f_this_other f_this_column f_this_words f_this_block) sz) := by
  refine Met.ofW (cc := prog_8_method_21_code) (maxL := 5) (ret := none) (by decide) rfl ?_
  intro p e s m args below meth c s₁ B hml hv
  obtain ⟨rfl, hsz, hP, hK, hN, hD0⟩ := hv
  have hx := B.exec
  have hb := B.bytes
  have hr := B.returns
  have hts0 := atoms_spec (ws := kwX5_named) B.pre
  have hts : ∀ w ∈ kwA, w.before _ s = true := fun w h => hts0 w (List.mem_cons_of_mem _ h)
  have hown : s.vm.findClass kRX5 = some m.cls := findClass_of_methodNamed B.named
  have hlocks := B.notSynchronized
  subst hsz
  have hD := hD0.self (sz := s.heap.size)
  generalize hAe : va_A (kWX5_named_start256 cB cI cL cBB cII cSh h_this a_this this_taped this_code this_kind this_rate this_filled this_total this_bitAt this_k this_e1 this_du this_dv f_this_roots f_this_cubes f_this_start224 f_this_start256 f_this_turns f_this_round f_this_state f_this_other f_this_column f_this_words f_this_block) s.heap.size = A at hD ⊢
  have hA : ∀ q : Nat, s.heap.size ≤ q → A q := fun q h => by rw [← hAe]; exact Or.inr h
  have hS : va_S A s.heap s.heap [] := va_S.rf
  have C0 : CallFix p m c prog_8_method_21_code 5 s _ kwA kRX5 := ⟨hx, hb, hml, hown, hts⟩
  have hl := lv_entry ([.ref h_this, .ref (a_this 8), .int p2, .int p3]) (n := 5) (Nat.le_of_ble_eq_true rfl)
  rw [lg_entry_eq]
  generalize (lg_sl ([.ref h_this, .ref (a_this 8), .int p2, .int p3]) ++ List.replicate (5 - (lg_sl ([.ref h_this, .ref (a_this 8), .int p2, .int p3])).length) Slot.unset).toArray = ls at hl ⊢
  have hl : lv_has ls 5 [(0, .ref h_this), (1, .ref (a_this 8)), (2, .int p2), (3, .int p3)] := hl
  unfold kFX5_named_start256 at h
  refine lv_aload_n hx hb kdX5_named_0 rfl (lv_at hl 0 rfl) ?_
  refine lv_iconst (v := 3) hx hb kdX5_named_1 (by decide) ?_
  obtain ⟨u_6, hu_6, h⟩ := kb_o_s h
  obtain ⟨w_1, w_2, w_3, w_4, f_5⟩ := u_6
  have hC := (show ([0, 1, 3, 4, 7] : List Nat).map (fun i : Nat => (kWX5_named_start256 cB cI cL cBB cII cSh h_this a_this this_taped this_code this_kind this_rate this_filled this_total this_bitAt this_k this_e1 this_du this_dv f_this_roots f_this_cubes f_this_start224 f_this_start256 f_this_turns f_this_round f_this_state f_this_other f_this_column f_this_words f_this_block)[i]?) = List.map some (kWX5_begin cB cI cL cBB cII cSh h_this a_this this_taped this_code this_kind this_rate this_filled this_total this_bitAt this_k this_e1 this_du this_dv f_this_roots f_this_start224 f_this_start256 f_this_state) from rfl)
  have hPc := kb_Psub hP ([0, 1, 3, 4, 7] : List Nat) hC
  have hDc := kb_Dsub hD ([0, 1, 3, 4, 7] : List Nat) hC (by simp [kb_nd])
  refine kb_call0 (va_runV (As := [.int (3 : Int32)]) (rest := []) C0 (kcX5_begin l D cB cI cL cBB cII cSh h_this a_this _ (3 : Int32) this_taped this_code this_kind this_rate this_filled this_total this_bitAt this_k this_e1 this_du this_dv f_this_roots f_this_start224 f_this_start256 f_this_state (w_1, w_2, w_3, w_4, f_5) hu_6) (cwV 1 hts (kb_gV km_629 km_631 kp_4 km_6 km_632) rfl rfl rfl (by decide +kernel) ⟨Nat.le_of_ble_eq_true rfl, Nat.le_of_ble_eq_true rfl⟩) ⟨kb_P_bl, va_recv hK hP (ci := 5) (q0 := 0) rfl rfl, (fun U hU hW => ⟨rfl, by rw [hU], by rw [hU]; exact hPc, va_K.moved hW.alike hK, kb_N_to hW hN, hDc.weaken (fun _ _ _ _ => trivial)⟩)⟩ rfl rfl hl.1 rfl (lv_room (Nat.le_of_ble_eq_true rfl)) kdX5_named_2 ⟨Nat.le_of_ble_eq_true rfl, Nat.le_of_ble_eq_true rfl⟩) hP hD hS hA ([0, 1, 3, 4, 7] : List Nat) hC rfl (fun H locs hP hD hS => ?_)
  have hP : va_P D kCl (kWX5_named_start256 cB cI cL cBB cII cSh h_this a_this this_taped this_code w_2 w_3 w_1 w_4 this_bitAt this_k this_e1 this_du this_dv f_this_roots f_this_cubes f_this_start224 f_this_start256 f_this_turns f_this_round f_5 f_this_other f_this_column f_this_words f_this_block) H := hP
  have hD : va_D A (kWX5_named_start256 cB cI cL cBB cII cSh h_this a_this this_taped this_code w_2 w_3 w_1 w_4 this_bitAt this_k this_e1 this_du this_dv f_this_roots f_this_cubes f_this_start224 f_this_start256 f_this_turns f_this_round f_5 f_this_other f_this_column f_this_words f_this_block) := hD
  refine lv_iconst (v := 0) hx hb kdX5_named_5 (by decide) ?_
  refine lv_istore (lv' := [(4, .int (0 : Int32)), (0, .ref h_this), (1, .ref (a_this 8)), (2, .int p2), (3, .int p3)]) hx hb kdX5_named_6 hl (by decide) rfl (fun ls hl => ?_)
  obtain ⟨r_118, hr_118, h⟩ := kb_o_s h
  refine klX5_named_start256_8 C0 hlocks hK hN hA (by decide) (by decide) h_this a_this p2 p3 this_taped this_code w_2 w_3 w_1 w_4 this_bitAt this_k this_e1 this_du this_dv f_this_roots f_this_cubes f_this_start224 f_this_start256 f_this_turns f_this_round f_this_other f_this_column f_this_words f_this_block 100000 (0 : Int32) f_5 r_118 hr_118 _ _ _ hP hD hS (lv_sub hl [1, 2, 3, 4, 0] rfl) (fun x4p8_12 f_this_statep8_13 er_118 H locs ls hP hD hS hl => ?_)
  subst er_118
  refine lv_aload_n hx hb kdX5_named_34 rfl (lv_at hl 0 rfl) ?_
  refine lv_bipush (v := 83) hx hb kdX5_named_35 (by decide) ?_
  obtain ⟨u_21, hu_21, h⟩ := kb_o_s h
  obtain ⟨w_14, w_15, f_16, f_17, f_18, f_19, f_20⟩ := u_21
  have hC := (show ([0, 2, 5, 6, 7, 8, 9, 10, 11] : List Nat).map (fun i : Nat => (kWX5_named_start256 cB cI cL cBB cII cSh h_this a_this this_taped this_code w_2 w_3 w_1 w_4 this_bitAt this_k this_e1 this_du this_dv f_this_roots f_this_cubes f_this_start224 f_this_start256 f_this_turns f_this_round f_this_statep8_13 f_this_other f_this_column f_this_words f_this_block)[i]?) = List.map some (kWX5_put cB cI cL cBB cII cSh h_this a_this this_taped this_code w_2 w_3 w_1 w_4 this_bitAt this_k this_e1 this_du this_dv f_this_cubes f_this_turns f_this_round f_this_statep8_13 f_this_other f_this_column f_this_words f_this_block) from rfl)
  have hPc := kb_Psub hP ([0, 2, 5, 6, 7, 8, 9, 10, 11] : List Nat) hC
  have hDc := kb_Dsub hD ([0, 2, 5, 6, 7, 8, 9, 10, 11] : List Nat) hC (by simp [kb_nd])
  refine kb_call0 (va_runV (As := [.int (83 : Int32)]) (rest := []) C0 (kcX5_put l D cB cI cL cBB cII cSh h_this a_this _ (83 : Int32) this_taped this_code w_2 w_3 w_1 w_4 this_bitAt this_k this_e1 this_du this_dv f_this_cubes f_this_turns f_this_round f_this_statep8_13 f_this_other f_this_column f_this_words f_this_block (w_14, w_15, f_16, f_17, f_18, f_19, f_20) hu_21) (cwV 1 hts (kb_gV km_641 km_643 kp_22 km_6 km_644) rfl rfl rfl (by decide +kernel) ⟨Nat.le_of_ble_eq_true rfl, Nat.le_of_ble_eq_true rfl⟩) ⟨kb_P_bl, va_recv hK hP (ci := 5) (q0 := 0) rfl rfl, (fun U hU hW => ⟨rfl, by rw [hU], by rw [hU]; exact hPc, va_K.moved hW.alike hK, kb_N_to hW hN, hDc.weaken (fun _ _ _ _ => trivial)⟩)⟩ rfl rfl hl.1 rfl (lv_room (Nat.le_of_ble_eq_true rfl)) kdX5_named_37 ⟨Nat.le_of_ble_eq_true rfl, Nat.le_of_ble_eq_true rfl⟩) hP hD hS hA ([0, 2, 5, 6, 7, 8, 9, 10, 11] : List Nat) hC rfl (fun H locs hP hD hS => ?_)
  have hP : va_P D kCl (kWX5_named_start256 cB cI cL cBB cII cSh h_this a_this this_taped this_code w_2 w_3 w_14 w_15 this_bitAt this_k this_e1 this_du this_dv f_this_roots f_this_cubes f_this_start224 f_this_start256 f_this_turns f_this_round f_16 f_17 f_18 f_19 f_20) H := hP
  have hD : va_D A (kWX5_named_start256 cB cI cL cBB cII cSh h_this a_this this_taped this_code w_2 w_3 w_14 w_15 this_bitAt this_k this_e1 this_du this_dv f_this_roots f_this_cubes f_this_start224 f_this_start256 f_this_turns f_this_round f_16 f_17 f_18 f_19 f_20) := hD
  refine lv_aload_n hx hb kdX5_named_40 rfl (lv_at hl 0 rfl) ?_
  refine lv_bipush (v := 72) hx hb kdX5_named_41 (by decide) ?_
  obtain ⟨u_29, hu_29, h⟩ := kb_o_s h
  obtain ⟨w_22, w_23, f_24, f_25, f_26, f_27, f_28⟩ := u_29
  have hC := (show ([0, 2, 5, 6, 7, 8, 9, 10, 11] : List Nat).map (fun i : Nat => (kWX5_named_start256 cB cI cL cBB cII cSh h_this a_this this_taped this_code w_2 w_3 w_14 w_15 this_bitAt this_k this_e1 this_du this_dv f_this_roots f_this_cubes f_this_start224 f_this_start256 f_this_turns f_this_round f_16 f_17 f_18 f_19 f_20)[i]?) = List.map some (kWX5_put cB cI cL cBB cII cSh h_this a_this this_taped this_code w_2 w_3 w_14 w_15 this_bitAt this_k this_e1 this_du this_dv f_this_cubes f_this_turns f_this_round f_16 f_17 f_18 f_19 f_20) from rfl)
  have hPc := kb_Psub hP ([0, 2, 5, 6, 7, 8, 9, 10, 11] : List Nat) hC
  have hDc := kb_Dsub hD ([0, 2, 5, 6, 7, 8, 9, 10, 11] : List Nat) hC (by simp [kb_nd])
  refine kb_call0 (va_runV (As := [.int (72 : Int32)]) (rest := []) C0 (kcX5_put l D cB cI cL cBB cII cSh h_this a_this _ (72 : Int32) this_taped this_code w_2 w_3 w_14 w_15 this_bitAt this_k this_e1 this_du this_dv f_this_cubes f_this_turns f_this_round f_16 f_17 f_18 f_19 f_20 (w_22, w_23, f_24, f_25, f_26, f_27, f_28) hu_29) (cwV 1 hts (kb_gV km_641 km_643 kp_22 km_6 km_644) rfl rfl rfl (by decide +kernel) ⟨Nat.le_of_ble_eq_true rfl, Nat.le_of_ble_eq_true rfl⟩) ⟨kb_P_bl, va_recv hK hP (ci := 5) (q0 := 0) rfl rfl, (fun U hU hW => ⟨rfl, by rw [hU], by rw [hU]; exact hPc, va_K.moved hW.alike hK, kb_N_to hW hN, hDc.weaken (fun _ _ _ _ => trivial)⟩)⟩ rfl rfl hl.1 rfl (lv_room (Nat.le_of_ble_eq_true rfl)) kdX5_named_43 ⟨Nat.le_of_ble_eq_true rfl, Nat.le_of_ble_eq_true rfl⟩) hP hD hS hA ([0, 2, 5, 6, 7, 8, 9, 10, 11] : List Nat) hC rfl (fun H locs hP hD hS => ?_)
  have hP : va_P D kCl (kWX5_named_start256 cB cI cL cBB cII cSh h_this a_this this_taped this_code w_2 w_3 w_22 w_23 this_bitAt this_k this_e1 this_du this_dv f_this_roots f_this_cubes f_this_start224 f_this_start256 f_this_turns f_this_round f_24 f_25 f_26 f_27 f_28) H := hP
  have hD : va_D A (kWX5_named_start256 cB cI cL cBB cII cSh h_this a_this this_taped this_code w_2 w_3 w_22 w_23 this_bitAt this_k this_e1 this_du this_dv f_this_roots f_this_cubes f_this_start224 f_this_start256 f_this_turns f_this_round f_24 f_25 f_26 f_27 f_28) := hD
  refine lv_aload_n hx hb kdX5_named_46 rfl (lv_at hl 0 rfl) ?_
  refine lv_bipush (v := 65) hx hb kdX5_named_47 (by decide) ?_
  obtain ⟨u_37, hu_37, h⟩ := kb_o_s h
  obtain ⟨w_30, w_31, f_32, f_33, f_34, f_35, f_36⟩ := u_37
  have hC := (show ([0, 2, 5, 6, 7, 8, 9, 10, 11] : List Nat).map (fun i : Nat => (kWX5_named_start256 cB cI cL cBB cII cSh h_this a_this this_taped this_code w_2 w_3 w_22 w_23 this_bitAt this_k this_e1 this_du this_dv f_this_roots f_this_cubes f_this_start224 f_this_start256 f_this_turns f_this_round f_24 f_25 f_26 f_27 f_28)[i]?) = List.map some (kWX5_put cB cI cL cBB cII cSh h_this a_this this_taped this_code w_2 w_3 w_22 w_23 this_bitAt this_k this_e1 this_du this_dv f_this_cubes f_this_turns f_this_round f_24 f_25 f_26 f_27 f_28) from rfl)
  have hPc := kb_Psub hP ([0, 2, 5, 6, 7, 8, 9, 10, 11] : List Nat) hC
  have hDc := kb_Dsub hD ([0, 2, 5, 6, 7, 8, 9, 10, 11] : List Nat) hC (by simp [kb_nd])
  refine kb_call0 (va_runV (As := [.int (65 : Int32)]) (rest := []) C0 (kcX5_put l D cB cI cL cBB cII cSh h_this a_this _ (65 : Int32) this_taped this_code w_2 w_3 w_22 w_23 this_bitAt this_k this_e1 this_du this_dv f_this_cubes f_this_turns f_this_round f_24 f_25 f_26 f_27 f_28 (w_30, w_31, f_32, f_33, f_34, f_35, f_36) hu_37) (cwV 1 hts (kb_gV km_641 km_643 kp_22 km_6 km_644) rfl rfl rfl (by decide +kernel) ⟨Nat.le_of_ble_eq_true rfl, Nat.le_of_ble_eq_true rfl⟩) ⟨kb_P_bl, va_recv hK hP (ci := 5) (q0 := 0) rfl rfl, (fun U hU hW => ⟨rfl, by rw [hU], by rw [hU]; exact hPc, va_K.moved hW.alike hK, kb_N_to hW hN, hDc.weaken (fun _ _ _ _ => trivial)⟩)⟩ rfl rfl hl.1 rfl (lv_room (Nat.le_of_ble_eq_true rfl)) kdX5_named_49 ⟨Nat.le_of_ble_eq_true rfl, Nat.le_of_ble_eq_true rfl⟩) hP hD hS hA ([0, 2, 5, 6, 7, 8, 9, 10, 11] : List Nat) hC rfl (fun H locs hP hD hS => ?_)
  have hP : va_P D kCl (kWX5_named_start256 cB cI cL cBB cII cSh h_this a_this this_taped this_code w_2 w_3 w_30 w_31 this_bitAt this_k this_e1 this_du this_dv f_this_roots f_this_cubes f_this_start224 f_this_start256 f_this_turns f_this_round f_32 f_33 f_34 f_35 f_36) H := hP
  have hD : va_D A (kWX5_named_start256 cB cI cL cBB cII cSh h_this a_this this_taped this_code w_2 w_3 w_30 w_31 this_bitAt this_k this_e1 this_du this_dv f_this_roots f_this_cubes f_this_start224 f_this_start256 f_this_turns f_this_round f_32 f_33 f_34 f_35 f_36) := hD
  refine lv_aload_n hx hb kdX5_named_52 rfl (lv_at hl 0 rfl) ?_
  refine lv_bipush (v := 45) hx hb kdX5_named_53 (by decide) ?_
  obtain ⟨u_45, hu_45, h⟩ := kb_o_s h
  obtain ⟨w_38, w_39, f_40, f_41, f_42, f_43, f_44⟩ := u_45
  have hC := (show ([0, 2, 5, 6, 7, 8, 9, 10, 11] : List Nat).map (fun i : Nat => (kWX5_named_start256 cB cI cL cBB cII cSh h_this a_this this_taped this_code w_2 w_3 w_30 w_31 this_bitAt this_k this_e1 this_du this_dv f_this_roots f_this_cubes f_this_start224 f_this_start256 f_this_turns f_this_round f_32 f_33 f_34 f_35 f_36)[i]?) = List.map some (kWX5_put cB cI cL cBB cII cSh h_this a_this this_taped this_code w_2 w_3 w_30 w_31 this_bitAt this_k this_e1 this_du this_dv f_this_cubes f_this_turns f_this_round f_32 f_33 f_34 f_35 f_36) from rfl)
  have hPc := kb_Psub hP ([0, 2, 5, 6, 7, 8, 9, 10, 11] : List Nat) hC
  have hDc := kb_Dsub hD ([0, 2, 5, 6, 7, 8, 9, 10, 11] : List Nat) hC (by simp [kb_nd])
  refine kb_call0 (va_runV (As := [.int (45 : Int32)]) (rest := []) C0 (kcX5_put l D cB cI cL cBB cII cSh h_this a_this _ (45 : Int32) this_taped this_code w_2 w_3 w_30 w_31 this_bitAt this_k this_e1 this_du this_dv f_this_cubes f_this_turns f_this_round f_32 f_33 f_34 f_35 f_36 (w_38, w_39, f_40, f_41, f_42, f_43, f_44) hu_45) (cwV 1 hts (kb_gV km_641 km_643 kp_22 km_6 km_644) rfl rfl rfl (by decide +kernel) ⟨Nat.le_of_ble_eq_true rfl, Nat.le_of_ble_eq_true rfl⟩) ⟨kb_P_bl, va_recv hK hP (ci := 5) (q0 := 0) rfl rfl, (fun U hU hW => ⟨rfl, by rw [hU], by rw [hU]; exact hPc, va_K.moved hW.alike hK, kb_N_to hW hN, hDc.weaken (fun _ _ _ _ => trivial)⟩)⟩ rfl rfl hl.1 rfl (lv_room (Nat.le_of_ble_eq_true rfl)) kdX5_named_55 ⟨Nat.le_of_ble_eq_true rfl, Nat.le_of_ble_eq_true rfl⟩) hP hD hS hA ([0, 2, 5, 6, 7, 8, 9, 10, 11] : List Nat) hC rfl (fun H locs hP hD hS => ?_)
  have hP : va_P D kCl (kWX5_named_start256 cB cI cL cBB cII cSh h_this a_this this_taped this_code w_2 w_3 w_38 w_39 this_bitAt this_k this_e1 this_du this_dv f_this_roots f_this_cubes f_this_start224 f_this_start256 f_this_turns f_this_round f_40 f_41 f_42 f_43 f_44) H := hP
  have hD : va_D A (kWX5_named_start256 cB cI cL cBB cII cSh h_this a_this this_taped this_code w_2 w_3 w_38 w_39 this_bitAt this_k this_e1 this_du this_dv f_this_roots f_this_cubes f_this_start224 f_this_start256 f_this_turns f_this_round f_40 f_41 f_42 f_43 f_44) := hD
  refine lv_aload_n hx hb kdX5_named_58 rfl (lv_at hl 0 rfl) ?_
  refine lv_bipush (v := 53) hx hb kdX5_named_59 (by decide) ?_
  obtain ⟨u_53, hu_53, h⟩ := kb_o_s h
  obtain ⟨w_46, w_47, f_48, f_49, f_50, f_51, f_52⟩ := u_53
  have hC := (show ([0, 2, 5, 6, 7, 8, 9, 10, 11] : List Nat).map (fun i : Nat => (kWX5_named_start256 cB cI cL cBB cII cSh h_this a_this this_taped this_code w_2 w_3 w_38 w_39 this_bitAt this_k this_e1 this_du this_dv f_this_roots f_this_cubes f_this_start224 f_this_start256 f_this_turns f_this_round f_40 f_41 f_42 f_43 f_44)[i]?) = List.map some (kWX5_put cB cI cL cBB cII cSh h_this a_this this_taped this_code w_2 w_3 w_38 w_39 this_bitAt this_k this_e1 this_du this_dv f_this_cubes f_this_turns f_this_round f_40 f_41 f_42 f_43 f_44) from rfl)
  have hPc := kb_Psub hP ([0, 2, 5, 6, 7, 8, 9, 10, 11] : List Nat) hC
  have hDc := kb_Dsub hD ([0, 2, 5, 6, 7, 8, 9, 10, 11] : List Nat) hC (by simp [kb_nd])
  refine kb_call0 (va_runV (As := [.int (53 : Int32)]) (rest := []) C0 (kcX5_put l D cB cI cL cBB cII cSh h_this a_this _ (53 : Int32) this_taped this_code w_2 w_3 w_38 w_39 this_bitAt this_k this_e1 this_du this_dv f_this_cubes f_this_turns f_this_round f_40 f_41 f_42 f_43 f_44 (w_46, w_47, f_48, f_49, f_50, f_51, f_52) hu_53) (cwV 1 hts (kb_gV km_641 km_643 kp_22 km_6 km_644) rfl rfl rfl (by decide +kernel) ⟨Nat.le_of_ble_eq_true rfl, Nat.le_of_ble_eq_true rfl⟩) ⟨kb_P_bl, va_recv hK hP (ci := 5) (q0 := 0) rfl rfl, (fun U hU hW => ⟨rfl, by rw [hU], by rw [hU]; exact hPc, va_K.moved hW.alike hK, kb_N_to hW hN, hDc.weaken (fun _ _ _ _ => trivial)⟩)⟩ rfl rfl hl.1 rfl (lv_room (Nat.le_of_ble_eq_true rfl)) kdX5_named_61 ⟨Nat.le_of_ble_eq_true rfl, Nat.le_of_ble_eq_true rfl⟩) hP hD hS hA ([0, 2, 5, 6, 7, 8, 9, 10, 11] : List Nat) hC rfl (fun H locs hP hD hS => ?_)
  have hP : va_P D kCl (kWX5_named_start256 cB cI cL cBB cII cSh h_this a_this this_taped this_code w_2 w_3 w_46 w_47 this_bitAt this_k this_e1 this_du this_dv f_this_roots f_this_cubes f_this_start224 f_this_start256 f_this_turns f_this_round f_48 f_49 f_50 f_51 f_52) H := hP
  have hD : va_D A (kWX5_named_start256 cB cI cL cBB cII cSh h_this a_this this_taped this_code w_2 w_3 w_46 w_47 this_bitAt this_k this_e1 this_du this_dv f_this_roots f_this_cubes f_this_start224 f_this_start256 f_this_turns f_this_round f_48 f_49 f_50 f_51 f_52) := hD
  refine lv_aload_n hx hb kdX5_named_64 rfl (lv_at hl 0 rfl) ?_
  refine lv_bipush (v := 49) hx hb kdX5_named_65 (by decide) ?_
  obtain ⟨u_61, hu_61, h⟩ := kb_o_s h
  obtain ⟨w_54, w_55, f_56, f_57, f_58, f_59, f_60⟩ := u_61
  have hC := (show ([0, 2, 5, 6, 7, 8, 9, 10, 11] : List Nat).map (fun i : Nat => (kWX5_named_start256 cB cI cL cBB cII cSh h_this a_this this_taped this_code w_2 w_3 w_46 w_47 this_bitAt this_k this_e1 this_du this_dv f_this_roots f_this_cubes f_this_start224 f_this_start256 f_this_turns f_this_round f_48 f_49 f_50 f_51 f_52)[i]?) = List.map some (kWX5_put cB cI cL cBB cII cSh h_this a_this this_taped this_code w_2 w_3 w_46 w_47 this_bitAt this_k this_e1 this_du this_dv f_this_cubes f_this_turns f_this_round f_48 f_49 f_50 f_51 f_52) from rfl)
  have hPc := kb_Psub hP ([0, 2, 5, 6, 7, 8, 9, 10, 11] : List Nat) hC
  have hDc := kb_Dsub hD ([0, 2, 5, 6, 7, 8, 9, 10, 11] : List Nat) hC (by simp [kb_nd])
  refine kb_call0 (va_runV (As := [.int (49 : Int32)]) (rest := []) C0 (kcX5_put l D cB cI cL cBB cII cSh h_this a_this _ (49 : Int32) this_taped this_code w_2 w_3 w_46 w_47 this_bitAt this_k this_e1 this_du this_dv f_this_cubes f_this_turns f_this_round f_48 f_49 f_50 f_51 f_52 (w_54, w_55, f_56, f_57, f_58, f_59, f_60) hu_61) (cwV 1 hts (kb_gV km_641 km_643 kp_22 km_6 km_644) rfl rfl rfl (by decide +kernel) ⟨Nat.le_of_ble_eq_true rfl, Nat.le_of_ble_eq_true rfl⟩) ⟨kb_P_bl, va_recv hK hP (ci := 5) (q0 := 0) rfl rfl, (fun U hU hW => ⟨rfl, by rw [hU], by rw [hU]; exact hPc, va_K.moved hW.alike hK, kb_N_to hW hN, hDc.weaken (fun _ _ _ _ => trivial)⟩)⟩ rfl rfl hl.1 rfl (lv_room (Nat.le_of_ble_eq_true rfl)) kdX5_named_67 ⟨Nat.le_of_ble_eq_true rfl, Nat.le_of_ble_eq_true rfl⟩) hP hD hS hA ([0, 2, 5, 6, 7, 8, 9, 10, 11] : List Nat) hC rfl (fun H locs hP hD hS => ?_)
  have hP : va_P D kCl (kWX5_named_start256 cB cI cL cBB cII cSh h_this a_this this_taped this_code w_2 w_3 w_54 w_55 this_bitAt this_k this_e1 this_du this_dv f_this_roots f_this_cubes f_this_start224 f_this_start256 f_this_turns f_this_round f_56 f_57 f_58 f_59 f_60) H := hP
  have hD : va_D A (kWX5_named_start256 cB cI cL cBB cII cSh h_this a_this this_taped this_code w_2 w_3 w_54 w_55 this_bitAt this_k this_e1 this_du this_dv f_this_roots f_this_cubes f_this_start224 f_this_start256 f_this_turns f_this_round f_56 f_57 f_58 f_59 f_60) := hD
  refine lv_aload_n hx hb kdX5_named_70 rfl (lv_at hl 0 rfl) ?_
  refine lv_bipush (v := 50) hx hb kdX5_named_71 (by decide) ?_
  obtain ⟨u_69, hu_69, h⟩ := kb_o_s h
  obtain ⟨w_62, w_63, f_64, f_65, f_66, f_67, f_68⟩ := u_69
  have hC := (show ([0, 2, 5, 6, 7, 8, 9, 10, 11] : List Nat).map (fun i : Nat => (kWX5_named_start256 cB cI cL cBB cII cSh h_this a_this this_taped this_code w_2 w_3 w_54 w_55 this_bitAt this_k this_e1 this_du this_dv f_this_roots f_this_cubes f_this_start224 f_this_start256 f_this_turns f_this_round f_56 f_57 f_58 f_59 f_60)[i]?) = List.map some (kWX5_put cB cI cL cBB cII cSh h_this a_this this_taped this_code w_2 w_3 w_54 w_55 this_bitAt this_k this_e1 this_du this_dv f_this_cubes f_this_turns f_this_round f_56 f_57 f_58 f_59 f_60) from rfl)
  have hPc := kb_Psub hP ([0, 2, 5, 6, 7, 8, 9, 10, 11] : List Nat) hC
  have hDc := kb_Dsub hD ([0, 2, 5, 6, 7, 8, 9, 10, 11] : List Nat) hC (by simp [kb_nd])
  refine kb_call0 (va_runV (As := [.int (50 : Int32)]) (rest := []) C0 (kcX5_put l D cB cI cL cBB cII cSh h_this a_this _ (50 : Int32) this_taped this_code w_2 w_3 w_54 w_55 this_bitAt this_k this_e1 this_du this_dv f_this_cubes f_this_turns f_this_round f_56 f_57 f_58 f_59 f_60 (w_62, w_63, f_64, f_65, f_66, f_67, f_68) hu_69) (cwV 1 hts (kb_gV km_641 km_643 kp_22 km_6 km_644) rfl rfl rfl (by decide +kernel) ⟨Nat.le_of_ble_eq_true rfl, Nat.le_of_ble_eq_true rfl⟩) ⟨kb_P_bl, va_recv hK hP (ci := 5) (q0 := 0) rfl rfl, (fun U hU hW => ⟨rfl, by rw [hU], by rw [hU]; exact hPc, va_K.moved hW.alike hK, kb_N_to hW hN, hDc.weaken (fun _ _ _ _ => trivial)⟩)⟩ rfl rfl hl.1 rfl (lv_room (Nat.le_of_ble_eq_true rfl)) kdX5_named_73 ⟨Nat.le_of_ble_eq_true rfl, Nat.le_of_ble_eq_true rfl⟩) hP hD hS hA ([0, 2, 5, 6, 7, 8, 9, 10, 11] : List Nat) hC rfl (fun H locs hP hD hS => ?_)
  have hP : va_P D kCl (kWX5_named_start256 cB cI cL cBB cII cSh h_this a_this this_taped this_code w_2 w_3 w_62 w_63 this_bitAt this_k this_e1 this_du this_dv f_this_roots f_this_cubes f_this_start224 f_this_start256 f_this_turns f_this_round f_64 f_65 f_66 f_67 f_68) H := hP
  have hD : va_D A (kWX5_named_start256 cB cI cL cBB cII cSh h_this a_this this_taped this_code w_2 w_3 w_62 w_63 this_bitAt this_k this_e1 this_du this_dv f_this_roots f_this_cubes f_this_start224 f_this_start256 f_this_turns f_this_round f_64 f_65 f_66 f_67 f_68) := hD
  refine lv_aload_n hx hb kdX5_named_76 rfl (lv_at hl 0 rfl) ?_
  refine lv_bipush (v := 47) hx hb kdX5_named_77 (by decide) ?_
  obtain ⟨u_77, hu_77, h⟩ := kb_o_s h
  obtain ⟨w_70, w_71, f_72, f_73, f_74, f_75, f_76⟩ := u_77
  have hC := (show ([0, 2, 5, 6, 7, 8, 9, 10, 11] : List Nat).map (fun i : Nat => (kWX5_named_start256 cB cI cL cBB cII cSh h_this a_this this_taped this_code w_2 w_3 w_62 w_63 this_bitAt this_k this_e1 this_du this_dv f_this_roots f_this_cubes f_this_start224 f_this_start256 f_this_turns f_this_round f_64 f_65 f_66 f_67 f_68)[i]?) = List.map some (kWX5_put cB cI cL cBB cII cSh h_this a_this this_taped this_code w_2 w_3 w_62 w_63 this_bitAt this_k this_e1 this_du this_dv f_this_cubes f_this_turns f_this_round f_64 f_65 f_66 f_67 f_68) from rfl)
  have hPc := kb_Psub hP ([0, 2, 5, 6, 7, 8, 9, 10, 11] : List Nat) hC
  have hDc := kb_Dsub hD ([0, 2, 5, 6, 7, 8, 9, 10, 11] : List Nat) hC (by simp [kb_nd])
  refine kb_call0 (va_runV (As := [.int (47 : Int32)]) (rest := []) C0 (kcX5_put l D cB cI cL cBB cII cSh h_this a_this _ (47 : Int32) this_taped this_code w_2 w_3 w_62 w_63 this_bitAt this_k this_e1 this_du this_dv f_this_cubes f_this_turns f_this_round f_64 f_65 f_66 f_67 f_68 (w_70, w_71, f_72, f_73, f_74, f_75, f_76) hu_77) (cwV 1 hts (kb_gV km_641 km_643 kp_22 km_6 km_644) rfl rfl rfl (by decide +kernel) ⟨Nat.le_of_ble_eq_true rfl, Nat.le_of_ble_eq_true rfl⟩) ⟨kb_P_bl, va_recv hK hP (ci := 5) (q0 := 0) rfl rfl, (fun U hU hW => ⟨rfl, by rw [hU], by rw [hU]; exact hPc, va_K.moved hW.alike hK, kb_N_to hW hN, hDc.weaken (fun _ _ _ _ => trivial)⟩)⟩ rfl rfl hl.1 rfl (lv_room (Nat.le_of_ble_eq_true rfl)) kdX5_named_79 ⟨Nat.le_of_ble_eq_true rfl, Nat.le_of_ble_eq_true rfl⟩) hP hD hS hA ([0, 2, 5, 6, 7, 8, 9, 10, 11] : List Nat) hC rfl (fun H locs hP hD hS => ?_)
  have hP : va_P D kCl (kWX5_named_start256 cB cI cL cBB cII cSh h_this a_this this_taped this_code w_2 w_3 w_70 w_71 this_bitAt this_k this_e1 this_du this_dv f_this_roots f_this_cubes f_this_start224 f_this_start256 f_this_turns f_this_round f_72 f_73 f_74 f_75 f_76) H := hP
  have hD : va_D A (kWX5_named_start256 cB cI cL cBB cII cSh h_this a_this this_taped this_code w_2 w_3 w_70 w_71 this_bitAt this_k this_e1 this_du this_dv f_this_roots f_this_cubes f_this_start224 f_this_start256 f_this_turns f_this_round f_72 f_73 f_74 f_75 f_76) := hD
  refine lv_aload_n hx hb kdX5_named_82 rfl (lv_at hl 0 rfl) ?_
  refine lv_bipush (v := 50) hx hb kdX5_named_83 (by decide) ?_
  obtain ⟨u_85, hu_85, h⟩ := kb_o_s h
  obtain ⟨w_78, w_79, f_80, f_81, f_82, f_83, f_84⟩ := u_85
  have hC := (show ([0, 2, 5, 6, 7, 8, 9, 10, 11] : List Nat).map (fun i : Nat => (kWX5_named_start256 cB cI cL cBB cII cSh h_this a_this this_taped this_code w_2 w_3 w_70 w_71 this_bitAt this_k this_e1 this_du this_dv f_this_roots f_this_cubes f_this_start224 f_this_start256 f_this_turns f_this_round f_72 f_73 f_74 f_75 f_76)[i]?) = List.map some (kWX5_put cB cI cL cBB cII cSh h_this a_this this_taped this_code w_2 w_3 w_70 w_71 this_bitAt this_k this_e1 this_du this_dv f_this_cubes f_this_turns f_this_round f_72 f_73 f_74 f_75 f_76) from rfl)
  have hPc := kb_Psub hP ([0, 2, 5, 6, 7, 8, 9, 10, 11] : List Nat) hC
  have hDc := kb_Dsub hD ([0, 2, 5, 6, 7, 8, 9, 10, 11] : List Nat) hC (by simp [kb_nd])
  refine kb_call0 (va_runV (As := [.int (50 : Int32)]) (rest := []) C0 (kcX5_put l D cB cI cL cBB cII cSh h_this a_this _ (50 : Int32) this_taped this_code w_2 w_3 w_70 w_71 this_bitAt this_k this_e1 this_du this_dv f_this_cubes f_this_turns f_this_round f_72 f_73 f_74 f_75 f_76 (w_78, w_79, f_80, f_81, f_82, f_83, f_84) hu_85) (cwV 1 hts (kb_gV km_641 km_643 kp_22 km_6 km_644) rfl rfl rfl (by decide +kernel) ⟨Nat.le_of_ble_eq_true rfl, Nat.le_of_ble_eq_true rfl⟩) ⟨kb_P_bl, va_recv hK hP (ci := 5) (q0 := 0) rfl rfl, (fun U hU hW => ⟨rfl, by rw [hU], by rw [hU]; exact hPc, va_K.moved hW.alike hK, kb_N_to hW hN, hDc.weaken (fun _ _ _ _ => trivial)⟩)⟩ rfl rfl hl.1 rfl (lv_room (Nat.le_of_ble_eq_true rfl)) kdX5_named_85 ⟨Nat.le_of_ble_eq_true rfl, Nat.le_of_ble_eq_true rfl⟩) hP hD hS hA ([0, 2, 5, 6, 7, 8, 9, 10, 11] : List Nat) hC rfl (fun H locs hP hD hS => ?_)
  have hP : va_P D kCl (kWX5_named_start256 cB cI cL cBB cII cSh h_this a_this this_taped this_code w_2 w_3 w_78 w_79 this_bitAt this_k this_e1 this_du this_dv f_this_roots f_this_cubes f_this_start224 f_this_start256 f_this_turns f_this_round f_80 f_81 f_82 f_83 f_84) H := hP
  have hD : va_D A (kWX5_named_start256 cB cI cL cBB cII cSh h_this a_this this_taped this_code w_2 w_3 w_78 w_79 this_bitAt this_k this_e1 this_du this_dv f_this_roots f_this_cubes f_this_start224 f_this_start256 f_this_turns f_this_round f_80 f_81 f_82 f_83 f_84) := hD
  refine lv_aload_n hx hb kdX5_named_88 rfl (lv_at hl 0 rfl) ?_
  refine lv_iload_n hx hb kdX5_named_89 rfl (lv_at hl 2 rfl) ?_
  obtain ⟨u_93, hu_93, h⟩ := kb_o_s h
  obtain ⟨w_86, w_87, f_88, f_89, f_90, f_91, f_92⟩ := u_93
  have hC := (show ([0, 2, 5, 6, 7, 8, 9, 10, 11] : List Nat).map (fun i : Nat => (kWX5_named_start256 cB cI cL cBB cII cSh h_this a_this this_taped this_code w_2 w_3 w_78 w_79 this_bitAt this_k this_e1 this_du this_dv f_this_roots f_this_cubes f_this_start224 f_this_start256 f_this_turns f_this_round f_80 f_81 f_82 f_83 f_84)[i]?) = List.map some (kWX5_put cB cI cL cBB cII cSh h_this a_this this_taped this_code w_2 w_3 w_78 w_79 this_bitAt this_k this_e1 this_du this_dv f_this_cubes f_this_turns f_this_round f_80 f_81 f_82 f_83 f_84) from rfl)
  have hPc := kb_Psub hP ([0, 2, 5, 6, 7, 8, 9, 10, 11] : List Nat) hC
  have hDc := kb_Dsub hD ([0, 2, 5, 6, 7, 8, 9, 10, 11] : List Nat) hC (by simp [kb_nd])
  refine kb_call0 (va_runV (As := [.int p2]) (rest := []) C0 (kcX5_put l D cB cI cL cBB cII cSh h_this a_this _ p2 this_taped this_code w_2 w_3 w_78 w_79 this_bitAt this_k this_e1 this_du this_dv f_this_cubes f_this_turns f_this_round f_80 f_81 f_82 f_83 f_84 (w_86, w_87, f_88, f_89, f_90, f_91, f_92) hu_93) (cwV 1 hts (kb_gV km_641 km_643 kp_22 km_6 km_644) rfl rfl rfl (by decide +kernel) ⟨Nat.le_of_ble_eq_true rfl, Nat.le_of_ble_eq_true rfl⟩) ⟨kb_P_bl, va_recv hK hP (ci := 5) (q0 := 0) rfl rfl, (fun U hU hW => ⟨rfl, by rw [hU], by rw [hU]; exact hPc, va_K.moved hW.alike hK, kb_N_to hW hN, hDc.weaken (fun _ _ _ _ => trivial)⟩)⟩ rfl rfl hl.1 rfl (lv_room (Nat.le_of_ble_eq_true rfl)) kdX5_named_90 ⟨Nat.le_of_ble_eq_true rfl, Nat.le_of_ble_eq_true rfl⟩) hP hD hS hA ([0, 2, 5, 6, 7, 8, 9, 10, 11] : List Nat) hC rfl (fun H locs hP hD hS => ?_)
  have hP : va_P D kCl (kWX5_named_start256 cB cI cL cBB cII cSh h_this a_this this_taped this_code w_2 w_3 w_86 w_87 this_bitAt this_k this_e1 this_du this_dv f_this_roots f_this_cubes f_this_start224 f_this_start256 f_this_turns f_this_round f_88 f_89 f_90 f_91 f_92) H := hP
  have hD : va_D A (kWX5_named_start256 cB cI cL cBB cII cSh h_this a_this this_taped this_code w_2 w_3 w_86 w_87 this_bitAt this_k this_e1 this_du this_dv f_this_roots f_this_cubes f_this_start224 f_this_start256 f_this_turns f_this_round f_88 f_89 f_90 f_91 f_92) := hD
  refine lv_aload_n hx hb kdX5_named_93 rfl (lv_at hl 0 rfl) ?_
  refine lv_iload_n hx hb kdX5_named_94 rfl (lv_at hl 3 rfl) ?_
  obtain ⟨u_101, hu_101, h⟩ := kb_o_s h
  obtain ⟨w_94, w_95, f_96, f_97, f_98, f_99, f_100⟩ := u_101
  have hC := (show ([0, 2, 5, 6, 7, 8, 9, 10, 11] : List Nat).map (fun i : Nat => (kWX5_named_start256 cB cI cL cBB cII cSh h_this a_this this_taped this_code w_2 w_3 w_86 w_87 this_bitAt this_k this_e1 this_du this_dv f_this_roots f_this_cubes f_this_start224 f_this_start256 f_this_turns f_this_round f_88 f_89 f_90 f_91 f_92)[i]?) = List.map some (kWX5_put cB cI cL cBB cII cSh h_this a_this this_taped this_code w_2 w_3 w_86 w_87 this_bitAt this_k this_e1 this_du this_dv f_this_cubes f_this_turns f_this_round f_88 f_89 f_90 f_91 f_92) from rfl)
  have hPc := kb_Psub hP ([0, 2, 5, 6, 7, 8, 9, 10, 11] : List Nat) hC
  have hDc := kb_Dsub hD ([0, 2, 5, 6, 7, 8, 9, 10, 11] : List Nat) hC (by simp [kb_nd])
  refine kb_call0 (va_runV (As := [.int p3]) (rest := []) C0 (kcX5_put l D cB cI cL cBB cII cSh h_this a_this _ p3 this_taped this_code w_2 w_3 w_86 w_87 this_bitAt this_k this_e1 this_du this_dv f_this_cubes f_this_turns f_this_round f_88 f_89 f_90 f_91 f_92 (w_94, w_95, f_96, f_97, f_98, f_99, f_100) hu_101) (cwV 1 hts (kb_gV km_641 km_643 kp_22 km_6 km_644) rfl rfl rfl (by decide +kernel) ⟨Nat.le_of_ble_eq_true rfl, Nat.le_of_ble_eq_true rfl⟩) ⟨kb_P_bl, va_recv hK hP (ci := 5) (q0 := 0) rfl rfl, (fun U hU hW => ⟨rfl, by rw [hU], by rw [hU]; exact hPc, va_K.moved hW.alike hK, kb_N_to hW hN, hDc.weaken (fun _ _ _ _ => trivial)⟩)⟩ rfl rfl hl.1 rfl (lv_room (Nat.le_of_ble_eq_true rfl)) kdX5_named_95 ⟨Nat.le_of_ble_eq_true rfl, Nat.le_of_ble_eq_true rfl⟩) hP hD hS hA ([0, 2, 5, 6, 7, 8, 9, 10, 11] : List Nat) hC rfl (fun H locs hP hD hS => ?_)
  have hP : va_P D kCl (kWX5_named_start256 cB cI cL cBB cII cSh h_this a_this this_taped this_code w_2 w_3 w_94 w_95 this_bitAt this_k this_e1 this_du this_dv f_this_roots f_this_cubes f_this_start224 f_this_start256 f_this_turns f_this_round f_96 f_97 f_98 f_99 f_100) H := hP
  have hD : va_D A (kWX5_named_start256 cB cI cL cBB cII cSh h_this a_this this_taped this_code w_2 w_3 w_94 w_95 this_bitAt this_k this_e1 this_du this_dv f_this_roots f_this_cubes f_this_start224 f_this_start256 f_this_turns f_this_round f_96 f_97 f_98 f_99 f_100) := hD
  refine lv_aload_n hx hb kdX5_named_98 rfl (lv_at hl 0 rfl) ?_
  obtain ⟨u_109, hu_109, h⟩ := kb_o_s h
  obtain ⟨w_102, w_103, f_104, f_105, f_106, f_107, f_108⟩ := u_109
  have hC := (show ([0, 2, 5, 6, 7, 8, 9, 10, 11] : List Nat).map (fun i : Nat => (kWX5_named_start256 cB cI cL cBB cII cSh h_this a_this this_taped this_code w_2 w_3 w_94 w_95 this_bitAt this_k this_e1 this_du this_dv f_this_roots f_this_cubes f_this_start224 f_this_start256 f_this_turns f_this_round f_96 f_97 f_98 f_99 f_100)[i]?) = List.map some (kWX5_finish cB cI cL cBB cII cSh h_this a_this this_taped this_code w_2 w_3 w_94 w_95 this_bitAt this_k this_e1 this_du this_dv f_this_cubes f_this_turns f_this_round f_96 f_97 f_98 f_99 f_100) from rfl)
  have hPc := kb_Psub hP ([0, 2, 5, 6, 7, 8, 9, 10, 11] : List Nat) hC
  have hDc := kb_Dsub hD ([0, 2, 5, 6, 7, 8, 9, 10, 11] : List Nat) hC (by simp [kb_nd])
  refine kb_call0 (va_runV (As := []) (rest := []) C0 (kcX5_finish l D cB cI cL cBB cII cSh h_this a_this _ this_taped this_code w_2 w_3 w_94 w_95 this_bitAt this_k this_e1 this_du this_dv f_this_cubes f_this_turns f_this_round f_96 f_97 f_98 f_99 f_100 (w_102, w_103, f_104, f_105, f_106, f_107, f_108) hu_109) (cwV 0 hts (kb_gV km_676 km_678 kp_23 km_6 km_679) rfl rfl rfl (by decide +kernel) ⟨Nat.le_of_ble_eq_true rfl, Nat.le_of_ble_eq_true rfl⟩) ⟨kb_P_bl, va_recv hK hP (ci := 5) (q0 := 0) rfl rfl, (fun U hU hW => ⟨rfl, by rw [hU], by rw [hU]; exact hPc, va_K.moved hW.alike hK, kb_N_to hW hN, hDc.weaken (fun _ _ _ _ => trivial)⟩)⟩ rfl rfl hl.1 rfl (lv_room (Nat.le_of_ble_eq_true rfl)) kdX5_named_99 ⟨Nat.le_of_ble_eq_true rfl, Nat.le_of_ble_eq_true rfl⟩) hP hD hS hA ([0, 2, 5, 6, 7, 8, 9, 10, 11] : List Nat) hC rfl (fun H locs hP hD hS => ?_)
  have hP : va_P D kCl (kWX5_named_start256 cB cI cL cBB cII cSh h_this a_this this_taped this_code w_2 w_3 w_102 w_103 this_bitAt this_k this_e1 this_du this_dv f_this_roots f_this_cubes f_this_start224 f_this_start256 f_this_turns f_this_round f_104 f_105 f_106 f_107 f_108) H := hP
  have hD : va_D A (kWX5_named_start256 cB cI cL cBB cII cSh h_this a_this this_taped this_code w_2 w_3 w_102 w_103 this_bitAt this_k this_e1 this_du this_dv f_this_roots f_this_cubes f_this_start224 f_this_start256 f_this_turns f_this_round f_104 f_105 f_106 f_107 f_108) := hD
  refine lv_iconst (v := 0) hx hb kdX5_named_102 (by decide) ?_
  refine lv_istore (lv' := [(4, .int (0 : Int32)), (0, .ref h_this), (1, .ref (a_this 8)), (2, .int p2), (3, .int p3)]) hx hb kdX5_named_103 hl (by decide) rfl (fun ls hl => ?_)
  obtain ⟨r_117, hr_117, h⟩ := kb_o_s h
  refine klX5_named_start256_105 C0 hlocks hK hN hA (by decide) (by decide) h_this a_this this_taped this_code w_2 w_3 w_102 w_103 this_bitAt this_k this_e1 this_du this_dv f_this_roots f_this_cubes f_this_start224 f_this_turns f_this_round f_104 f_105 f_106 f_107 f_108 100000 (0 : Int32) f_this_start256 r_117 hr_117 _ _ _ hP hD hS (lv_sub hl [1, 2, 0] rfl) (fun x4p105_115 f_this_start256p105_116 er_117 H locs ls hP hD hS hl => ?_)
  subst er_117
  obtain rfl := Option.some.inj h
  exact W.vret hx hb hr (fun t ht hW => ⟨⟨rfl, by rw [ht]; exact hP, va_K.moved hW.alike hK, hD⟩, hS.F ht⟩) hS.2.2 kdX5_named_129

-- 504.ModuleKem.Kem.holdsItsHash.lean.txt
abbrev kWX1_holdsItsHash (cB cI cL cBB cII cSh : ClassId) (h_this : Nat) (a_this : Nat → Nat) (a_this_sponge : Nat → Nat) (h_a1 : Nat) (h_a2 : Nat) (n_a2 : Nat) (this_sponge_rate : Int32) (this_sponge_place : Int32) (f_this_sponge_lanes : Nat → Int64) (f_this_sponge_moved : Nat → Int64) (f_this_sponge_columns : Nat → Int64) (f_this_sponge_turns : Nat → Int32) (f_this_sponge_targets : Nat → Int32) (f_this_sponge_roundConstants : Nat → Int64) (f_this_hash : Nat → Int32) (a1_rank : Int32) (a1_keyNoise : Int32) (a1_vectorBits : Int32) (a1_scalarBits : Int32) (f_a2 : Nat → Int32) : va_W := [(h_this, koX1 a_this), ((a_this 0), koX4 a_this_sponge this_sponge_rate this_sponge_place), ((a_this_sponge 0), .inl (cL, 25, .inr (.inl f_this_sponge_lanes))), ((a_this_sponge 1), .inl (cL, 25, .inr (.inl f_this_sponge_moved))), ((a_this_sponge 2), .inl (cL, 5, .inr (.inl f_this_sponge_columns))), ((a_this_sponge 3), .inl (cI, 25, .inl f_this_sponge_turns)), ((a_this_sponge 4), .inl (cI, 25, .inl f_this_sponge_targets)), ((a_this_sponge 5), .inl (cL, 24, .inr (.inl f_this_sponge_roundConstants))), ((a_this 9), .inl (cB, 32, .inl f_this_hash)), (h_a1, koX3  a1_rank a1_keyNoise a1_vectorBits a1_scalarBits), (h_a2, .inl (cB, n_a2, .inl f_a2))]
def krX1_holdsItsHash : Room := { frames := 3, cells := 0, slots := 0, locals := 79 }
set_option maxHeartbeats 4000000 in
set_option maxRecDepth 100000 in
theorem kcX1_holdsItsHash (l : Launch) (D : va_G) (cB cI cL cBB cII cSh : ClassId) (h_this h_a1 h_a2 : Nat) (a_this a_this_sponge : Nat → Nat) (sz : Nat) (n_a2 : Nat) (this_sponge_rate : Int32) (this_sponge_place : Int32) (f_this_sponge_lanes : Nat → Int64) (f_this_sponge_moved : Nat → Int64) (f_this_sponge_columns : Nat → Int64) (f_this_sponge_turns : Nat → Int32) (f_this_sponge_targets : Nat → Int32) (f_this_sponge_roundConstants : Nat → Int64) (f_this_hash : Nat → Int32) (a1_rank : Int32) (a1_keyNoise : Int32) (a1_vectorBits : Int32) (a1_scalarBits : Int32) (f_a2 : Nat → Int32) (out : Int32 × Int32 × Int32 × (Nat → Int64) × (Nat → Int64) × (Nat → Int64) × (Nat → Int32)) (h : kFX1_holdsItsHash n_a2 f_this_sponge_lanes f_this_sponge_moved f_this_sponge_columns f_this_sponge_turns f_this_sponge_targets f_this_sponge_roundConstants f_this_hash a1_rank f_a2 = some out) : Met l kyX1_holdsItsHash kwX1_holdsItsHash krX1_holdsItsHash (kb_P D kCl (kb_T cB cI cL cBB cII cSh) [.ref h_this, .ref h_a1, .ref h_a2] (kWX1_holdsItsHash cB cI cL cBB cII cSh h_this a_this a_this_sponge h_a1 h_a2 n_a2 this_sponge_rate this_sponge_place f_this_sponge_lanes f_this_sponge_moved f_this_sponge_columns f_this_sponge_turns f_this_sponge_targets f_this_sponge_roundConstants f_this_hash a1_rank a1_keyNoise a1_vectorBits a1_scalarBits f_a2) sz) (kb_Q D kCl (kb_T cB cI cL cBB cII cSh) (va_A (kWX1_holdsItsHash cB cI cL cBB cII cSh h_this a_this a_this_sponge h_a1 h_a2 n_a2 this_sponge_rate this_sponge_place f_this_sponge_lanes f_this_sponge_moved f_this_sponge_columns f_this_sponge_turns f_this_sponge_targets f_this_sponge_roundConstants f_this_hash a1_rank a1_keyNoise a1_vectorBits a1_scalarBits f_a2) sz) (some (.int out.1)) (kWX1_holdsItsHash cB cI cL cBB cII cSh h_this a_this a_this_sponge h_a1 h_a2 n_a2 out.2.2.1 out.2.1 out.2.2.2.1 out.2.2.2.2.1 out.2.2.2.2.2.1 f_this_sponge_turns f_this_sponge_targets f_this_sponge_roundConstants out.2.2.2.2.2.2 a1_rank a1_keyNoise a1_vectorBits a1_scalarBits f_a2)) 0 0 (va_A (kWX1_holdsItsHash cB cI cL cBB cII cSh h_this a_this a_this_sponge h_a1 h_a2 n_a2 this_sponge_rate this_sponge_place f_this_sponge_lanes f_this_sponge_moved f_this_sponge_columns f_this_sponge_turns f_this_sponge_targets f_this_sponge_roundConstants f_this_hash a1_rank a1_keyNoise a1_vectorBits a1_scalarBits f_a2) sz) := by
  refine Met.ofW (cc := prog_3_method_5_code) (maxL := 3) (ret := (some .boolean)) (by decide) rfl ?_
  intro p e s m args below meth c s₁ B hml hv
  obtain ⟨rfl, hsz, hP, hK, hN, hD0⟩ := hv
  have hx := B.exec
  have hb := B.bytes
  have hr := B.returns
  have hts0 := atoms_spec (ws := kwX1_holdsItsHash) B.pre
  have hts : ∀ w ∈ kwA, w.before _ s = true := fun w h => hts0 w (List.mem_cons_of_mem _ h)
  have hown : s.vm.findClass kRX1 = some m.cls := findClass_of_methodNamed B.named
  have hlocks := B.notSynchronized
  subst hsz
  have hD := hD0.self (sz := s.heap.size)
  generalize hAe : va_A (kWX1_holdsItsHash cB cI cL cBB cII cSh h_this a_this a_this_sponge h_a1 h_a2 n_a2 this_sponge_rate this_sponge_place f_this_sponge_lanes f_this_sponge_moved f_this_sponge_columns f_this_sponge_turns f_this_sponge_targets f_this_sponge_roundConstants f_this_hash a1_rank a1_keyNoise a1_vectorBits a1_scalarBits f_a2) s.heap.size = A at hD ⊢
  have hA : ∀ q : Nat, s.heap.size ≤ q → A q := fun q h => by rw [← hAe]; exact Or.inr h
  have hS : va_S A s.heap s.heap [] := va_S.rf
  have C0 : CallFix p m c prog_3_method_5_code 3 s _ kwA kRX1 := ⟨hx, hb, hml, hown, hts⟩
  have hl := lv_entry ([.ref h_this, .ref h_a1, .ref h_a2]) (n := 3) (Nat.le_of_ble_eq_true rfl)
  rw [lg_entry_eq]
  generalize (lg_sl ([.ref h_this, .ref h_a1, .ref h_a2]) ++ List.replicate (3 - (lg_sl ([.ref h_this, .ref h_a1, .ref h_a2])).length) Slot.unset).toArray = ls at hl ⊢
  have hl : lv_has ls 3 [(0, .ref h_this), (1, .ref h_a1), (2, .ref h_a2)] := hl
  unfold kFX1_holdsItsHash at h
  refine lv_aload_n hx hb kdX1_holdsItsHash_0 rfl (lv_at hl 0 rfl) ?_
  refine lv_aload_n hx hb kdX1_holdsItsHash_1 rfl (lv_at hl 2 rfl) ?_
  refine lv_aload_n hx hb kdX1_holdsItsHash_2 rfl (lv_at hl 1 rfl) ?_
  obtain ⟨u_2, hu_2, h⟩ := kb_o_s h
  obtain ⟨r_1, rfl⟩ : ∃ z, z = u_2 := ⟨_, rfl⟩
  have hC := (show ([9] : List Nat).map (fun i : Nat => (kWX1_holdsItsHash cB cI cL cBB cII cSh h_this a_this a_this_sponge h_a1 h_a2 n_a2 this_sponge_rate this_sponge_place f_this_sponge_lanes f_this_sponge_moved f_this_sponge_columns f_this_sponge_turns f_this_sponge_targets f_this_sponge_roundConstants f_this_hash a1_rank a1_keyNoise a1_vectorBits a1_scalarBits f_a2)[i]?) = List.map some (kWX3_numbersSize cB cI cL cBB cII cSh h_a1 a1_rank a1_keyNoise a1_vectorBits a1_scalarBits) from rfl)
  have hPc := kb_Psub hP ([9] : List Nat) hC
  have hDc := kb_Dsub hD ([9] : List Nat) hC (by simp [kb_nd])
  refine kb_call0 (va_runV (As := []) (rest := [.ref h_a2, .ref h_this]) C0 (kcX3_numbersSize l D cB cI cL cBB cII cSh h_a1 _ a1_rank a1_keyNoise a1_vectorBits a1_scalarBits r_1 hu_2) (cwV 0 hts (kb_gV km_464 km_465 km_466 km_2 km_467) rfl rfl rfl (by decide +kernel) ⟨Nat.le_of_ble_eq_true rfl, Nat.le_of_ble_eq_true rfl⟩) ⟨kb_P_bl, va_recv hK hP (ci := 3) (q0 := 9) rfl rfl, (fun U hU hW => ⟨rfl, by rw [hU], by rw [hU]; exact hPc, va_K.moved hW.alike hK, kb_N_to hW hN, hDc.weaken (fun _ _ _ _ => trivial)⟩)⟩ rfl rfl hl.1 rfl (lv_room (Nat.le_of_ble_eq_true rfl)) kdX1_holdsItsHash_3 ⟨Nat.le_of_ble_eq_true rfl, Nat.le_of_ble_eq_true rfl⟩) hP hD hS hA ([9] : List Nat) hC rfl (fun H locs hP hD hS => ?_)
  have hP : va_P D kCl (kWX1_holdsItsHash cB cI cL cBB cII cSh h_this a_this a_this_sponge h_a1 h_a2 n_a2 this_sponge_rate this_sponge_place f_this_sponge_lanes f_this_sponge_moved f_this_sponge_columns f_this_sponge_turns f_this_sponge_targets f_this_sponge_roundConstants f_this_hash a1_rank a1_keyNoise a1_vectorBits a1_scalarBits f_a2) H := hP
  have hD : va_D A (kWX1_holdsItsHash cB cI cL cBB cII cSh h_this a_this a_this_sponge h_a1 h_a2 n_a2 this_sponge_rate this_sponge_place f_this_sponge_lanes f_this_sponge_moved f_this_sponge_columns f_this_sponge_turns f_this_sponge_targets f_this_sponge_roundConstants f_this_hash a1_rank a1_keyNoise a1_vectorBits a1_scalarBits f_a2) := hD
  refine lv_aload_n hx hb kdX1_holdsItsHash_6 rfl (lv_at hl 1 rfl) ?_
  obtain ⟨u_4, hu_4, h⟩ := kb_o_s h
  obtain ⟨r_3, rfl⟩ : ∃ z, z = u_4 := ⟨_, rfl⟩
  have hC := (show ([9] : List Nat).map (fun i : Nat => (kWX1_holdsItsHash cB cI cL cBB cII cSh h_this a_this a_this_sponge h_a1 h_a2 n_a2 this_sponge_rate this_sponge_place f_this_sponge_lanes f_this_sponge_moved f_this_sponge_columns f_this_sponge_turns f_this_sponge_targets f_this_sponge_roundConstants f_this_hash a1_rank a1_keyNoise a1_vectorBits a1_scalarBits f_a2)[i]?) = List.map some (kWX3_publicSize cB cI cL cBB cII cSh h_a1 a1_rank a1_keyNoise a1_vectorBits a1_scalarBits) from rfl)
  have hPc := kb_Psub hP ([9] : List Nat) hC
  have hDc := kb_Dsub hD ([9] : List Nat) hC (by simp [kb_nd])
  refine kb_call0 (va_runV (As := []) (rest := [.int r_1, .ref h_a2, .ref h_this]) C0 (kcX3_publicSize l D cB cI cL cBB cII cSh h_a1 _ a1_rank a1_keyNoise a1_vectorBits a1_scalarBits r_3 hu_4) (cwV 0 hts (kb_gV km_469 km_470 km_471 km_2 km_472) rfl rfl rfl (by decide +kernel) ⟨Nat.le_of_ble_eq_true rfl, Nat.le_of_ble_eq_true rfl⟩) ⟨kb_P_bl, va_recv hK hP (ci := 3) (q0 := 9) rfl rfl, (fun U hU hW => ⟨rfl, by rw [hU], by rw [hU]; exact hPc, va_K.moved hW.alike hK, kb_N_to hW hN, hDc.weaken (fun _ _ _ _ => trivial)⟩)⟩ rfl rfl hl.1 rfl (lv_room (Nat.le_of_ble_eq_true rfl)) kdX1_holdsItsHash_7 ⟨Nat.le_of_ble_eq_true rfl, Nat.le_of_ble_eq_true rfl⟩) hP hD hS hA ([9] : List Nat) hC rfl (fun H locs hP hD hS => ?_)
  have hP : va_P D kCl (kWX1_holdsItsHash cB cI cL cBB cII cSh h_this a_this a_this_sponge h_a1 h_a2 n_a2 this_sponge_rate this_sponge_place f_this_sponge_lanes f_this_sponge_moved f_this_sponge_columns f_this_sponge_turns f_this_sponge_targets f_this_sponge_roundConstants f_this_hash a1_rank a1_keyNoise a1_vectorBits a1_scalarBits f_a2) H := hP
  have hD : va_D A (kWX1_holdsItsHash cB cI cL cBB cII cSh h_this a_this a_this_sponge h_a1 h_a2 n_a2 this_sponge_rate this_sponge_place f_this_sponge_lanes f_this_sponge_moved f_this_sponge_columns f_this_sponge_turns f_this_sponge_targets f_this_sponge_roundConstants f_this_hash a1_rank a1_keyNoise a1_vectorBits a1_scalarBits f_a2) := hD
  obtain ⟨u_11, hu_11, h⟩ := kb_o_s h
  obtain ⟨w_5, w_6, f_7, f_8, f_9, f_10⟩ := u_11
  have hC := (show ([0, 1, 2, 3, 4, 5, 6, 7, 8, 10] : List Nat).map (fun i : Nat => (kWX1_holdsItsHash cB cI cL cBB cII cSh h_this a_this a_this_sponge h_a1 h_a2 n_a2 this_sponge_rate this_sponge_place f_this_sponge_lanes f_this_sponge_moved f_this_sponge_columns f_this_sponge_turns f_this_sponge_targets f_this_sponge_roundConstants f_this_hash a1_rank a1_keyNoise a1_vectorBits a1_scalarBits f_a2)[i]?) = List.map some (kWX1_fillHash cB cI cL cBB cII cSh h_this a_this a_this_sponge h_a2 n_a2 this_sponge_rate this_sponge_place f_this_sponge_lanes f_this_sponge_moved f_this_sponge_columns f_this_sponge_turns f_this_sponge_targets f_this_sponge_roundConstants f_this_hash f_a2) from rfl)
  have hPc := kb_Psub hP ([0, 1, 2, 3, 4, 5, 6, 7, 8, 10] : List Nat) hC
  have hDc := kb_Dsub hD ([0, 1, 2, 3, 4, 5, 6, 7, 8, 10] : List Nat) hC (by simp [kb_nd])
  refine kb_call0 (va_runV (As := [.ref h_a2, .int r_1, .int r_3]) (rest := []) C0 (kcX1_fillHash l D cB cI cL cBB cII cSh h_this h_a2 a_this a_this_sponge _ r_1 r_3 n_a2 this_sponge_rate this_sponge_place f_this_sponge_lanes f_this_sponge_moved f_this_sponge_columns f_this_sponge_turns f_this_sponge_targets f_this_sponge_roundConstants f_this_hash f_a2 (w_5, w_6, f_7, f_8, f_9, f_10) hu_11) (cwV 3 hts (kb_gV km_474 km_476 kp_30 km_3 km_477) rfl rfl rfl (by decide +kernel) ⟨Nat.le_of_ble_eq_true rfl, Nat.le_of_ble_eq_true rfl⟩) ⟨kb_P_bl, va_recv hK hP (ci := 1) (q0 := 0) rfl rfl, (fun U hU hW => ⟨rfl, by rw [hU], by rw [hU]; exact hPc, va_K.moved hW.alike hK, kb_N_to hW hN, hDc.weaken (fun _ _ _ _ => trivial)⟩)⟩ rfl rfl hl.1 rfl (lv_room (Nat.le_of_ble_eq_true rfl)) kdX1_holdsItsHash_10 ⟨Nat.le_of_ble_eq_true rfl, Nat.le_of_ble_eq_true rfl⟩) hP hD hS hA ([0, 1, 2, 3, 4, 5, 6, 7, 8, 10] : List Nat) hC rfl (fun H locs hP hD hS => ?_)
  have hP : va_P D kCl (kWX1_holdsItsHash cB cI cL cBB cII cSh h_this a_this a_this_sponge h_a1 h_a2 n_a2 w_6 w_5 f_7 f_8 f_9 f_this_sponge_turns f_this_sponge_targets f_this_sponge_roundConstants f_10 a1_rank a1_keyNoise a1_vectorBits a1_scalarBits f_a2) H := hP
  have hD : va_D A (kWX1_holdsItsHash cB cI cL cBB cII cSh h_this a_this a_this_sponge h_a1 h_a2 n_a2 w_6 w_5 f_7 f_8 f_9 f_this_sponge_turns f_this_sponge_targets f_this_sponge_roundConstants f_10 a1_rank a1_keyNoise a1_vectorBits a1_scalarBits f_a2) := hD
  refine lv_aload_n hx hb kdX1_holdsItsHash_13 rfl (lv_at hl 2 rfl) ?_
  refine lv_aload_n hx hb kdX1_holdsItsHash_14 rfl (lv_at hl 1 rfl) ?_
  obtain ⟨u_13, hu_13, h⟩ := kb_o_s h
  obtain ⟨r_12, rfl⟩ : ∃ z, z = u_13 := ⟨_, rfl⟩
  have hC := (show ([9] : List Nat).map (fun i : Nat => (kWX1_holdsItsHash cB cI cL cBB cII cSh h_this a_this a_this_sponge h_a1 h_a2 n_a2 w_6 w_5 f_7 f_8 f_9 f_this_sponge_turns f_this_sponge_targets f_this_sponge_roundConstants f_10 a1_rank a1_keyNoise a1_vectorBits a1_scalarBits f_a2)[i]?) = List.map some (kWX3_hashPlace cB cI cL cBB cII cSh h_a1 a1_rank a1_keyNoise a1_vectorBits a1_scalarBits) from rfl)
  have hPc := kb_Psub hP ([9] : List Nat) hC
  have hDc := kb_Dsub hD ([9] : List Nat) hC (by simp [kb_nd])
  refine kb_call0 (va_runV (As := []) (rest := [.ref h_a2]) C0 (kcX3_hashPlace l D cB cI cL cBB cII cSh h_a1 _ a1_rank a1_keyNoise a1_vectorBits a1_scalarBits r_12 hu_13) (cwV 0 hts (kb_gV km_478 km_479 km_480 km_2 km_481) rfl rfl rfl (by decide +kernel) ⟨Nat.le_of_ble_eq_true rfl, Nat.le_of_ble_eq_true rfl⟩) ⟨kb_P_bl, va_recv hK hP (ci := 3) (q0 := 9) rfl rfl, (fun U hU hW => ⟨rfl, by rw [hU], by rw [hU]; exact hPc, va_K.moved hW.alike hK, kb_N_to hW hN, hDc.weaken (fun _ _ _ _ => trivial)⟩)⟩ rfl rfl hl.1 rfl (lv_room (Nat.le_of_ble_eq_true rfl)) kdX1_holdsItsHash_15 ⟨Nat.le_of_ble_eq_true rfl, Nat.le_of_ble_eq_true rfl⟩) hP hD hS hA ([9] : List Nat) hC rfl (fun H locs hP hD hS => ?_)
  have hP : va_P D kCl (kWX1_holdsItsHash cB cI cL cBB cII cSh h_this a_this a_this_sponge h_a1 h_a2 n_a2 w_6 w_5 f_7 f_8 f_9 f_this_sponge_turns f_this_sponge_targets f_this_sponge_roundConstants f_10 a1_rank a1_keyNoise a1_vectorBits a1_scalarBits f_a2) H := hP
  have hD : va_D A (kWX1_holdsItsHash cB cI cL cBB cII cSh h_this a_this a_this_sponge h_a1 h_a2 n_a2 w_6 w_5 f_7 f_8 f_9 f_this_sponge_turns f_this_sponge_targets f_this_sponge_roundConstants f_10 a1_rank a1_keyNoise a1_vectorBits a1_scalarBits f_a2) := hD
  refine lv_aload_n hx hb kdX1_holdsItsHash_18 rfl (lv_at hl 0 rfl) ?_
  refine va_get (ci := 1) (v := .ref (a_this 9)) (C := kRX1) (T := kTX1) (N := 13) hx hb hts kinX1 hown hK hP 0 rfl rfl 9 (by decide) (hts _ km_128) (fun _ h9 => h9) rfl kdX1_holdsItsHash_19 ?_
  refine lv_bipush (v := 32) hx hb kdX1_holdsItsHash_22 (by decide) ?_
  obtain ⟨u_15, hu_15, h⟩ := kb_o_s h
  obtain ⟨r_14, rfl⟩ : ∃ z, z = u_15 := ⟨_, rfl⟩
  have hC := (show ([10, 8] : List Nat).map (fun i : Nat => (kWX1_holdsItsHash cB cI cL cBB cII cSh h_this a_this a_this_sponge h_a1 h_a2 n_a2 w_6 w_5 f_7 f_8 f_9 f_this_sponge_turns f_this_sponge_targets f_this_sponge_roundConstants f_10 a1_rank a1_keyNoise a1_vectorBits a1_scalarBits f_a2)[i]?) = List.map some (kWX0_startAlike cB cI cL cBB cII cSh h_a2 n_a2 (a_this 9) 32 f_a2 f_10) from rfl)
  have hPc := kb_Psub hP ([10, 8] : List Nat) hC
  have hDc := kb_Dsub hD ([10, 8] : List Nat) hC (by simp [kb_nd])
  refine kb_call0 (va_runSN (As := [.ref h_a2, .int r_12, .ref (a_this 9), .int (32 : Int32)]) (rest := []) C0 (kcX0_startAlike l D cB cI cL cBB cII cSh h_a2 (a_this 9) _ r_12 (32 : Int32) n_a2 32 f_a2 f_10 r_14 hu_15) ⟨va_cnB 4 hts (kb_gA km_344) rfl rfl rfl (kb_nest (w := .methodLinkNest kRX1 145 kyX0_startAlike "ModuleKem") hN (by decide +kernel)) (hts _ km_1) (by decide +kernel) ⟨Nat.le_of_ble_eq_true rfl, Nat.le_of_ble_eq_true rfl⟩, (hts _ km_343), trivial⟩ ⟨kb_P_bl, (fun U hU hW => ⟨rfl, by rw [hU], by rw [hU]; exact hPc, va_K.moved hW.alike hK, kb_N_to hW hN, hDc.weaken (fun _ _ _ _ => trivial)⟩)⟩ rfl rfl hl.1 rfl (lv_room (Nat.le_of_ble_eq_true rfl)) kdX1_holdsItsHash_24 ⟨Nat.le_of_ble_eq_true rfl, Nat.le_of_ble_eq_true rfl⟩) hP hD hS hA ([10, 8] : List Nat) hC rfl (fun H locs hP hD hS => ?_)
  have hP : va_P D kCl (kWX1_holdsItsHash cB cI cL cBB cII cSh h_this a_this a_this_sponge h_a1 h_a2 n_a2 w_6 w_5 f_7 f_8 f_9 f_this_sponge_turns f_this_sponge_targets f_this_sponge_roundConstants f_10 a1_rank a1_keyNoise a1_vectorBits a1_scalarBits f_a2) H := hP
  have hD : va_D A (kWX1_holdsItsHash cB cI cL cBB cII cSh h_this a_this a_this_sponge h_a1 h_a2 n_a2 w_6 w_5 f_7 f_8 f_9 f_this_sponge_turns f_this_sponge_targets f_this_sponge_roundConstants f_10 a1_rank a1_keyNoise a1_vectorBits a1_scalarBits f_a2) := hD
  obtain ⟨g_16, h⟩ := kb_g_s h
  obtain rfl := Option.some.inj h
  exact W.zret (v := r_14) (ty := .boolean) hx hb hr (kb_z_n g_16) (fun t ht hW => ⟨⟨rfl, by rw [ht]; exact hP, va_K.moved hW.alike hK, hD⟩, hS.F ht⟩) hS.2.2 kdX1_holdsItsHash_27
