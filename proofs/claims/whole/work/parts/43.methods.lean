-- 475.ModuleKem.alter.lean.txt
abbrev kWX0_alter (cB cI cL cBB cII cSh : ClassId) (h_this : Nat) (a_this : Nat → Nat) (r_this_slots : Nat → Nat) (this_tapeSize : Int32) (f_this_sizes : Nat → Int32) (m_this_slots : Nat → Nat → Int32) : va_W := ([(h_this, koX0 a_this this_tapeSize), ((a_this 0), .inl (cBB, 8, .inr (.inr (.inr (.inr (kb_rf r_this_slots 8)))))), ((a_this 1), .inl (cI, 8, .inl f_this_sizes))] ++ (kb_gw r_this_slots 8 (fun i => .inl (cB, 8192, .inl (m_this_slots i))) ++ []))
def krX0_alter : Room := { frames := 7, cells := 2, slots := 12, locals := 112 }
set_option maxHeartbeats 4000000 in
set_option maxRecDepth 100000 in
theorem kcX0_alter (l : Launch) (hl9 : l.stackTraces = false) (D : va_G) (cB cI cL cBB cII cSh : ClassId) (h_this : Nat) (a_this r_this_slots : Nat → Nat) (sz : Nat) (p1 : Int32) (p2 : Int32) (p3 : Int32) (this_tapeSize : Int32) (f_this_sizes : Nat → Int32) (m_this_slots : Nat → Nat → Int32) (out : (Int32 × (Nat → Nat → Int32)) ⊕ (String × ((Nat → Nat → Int32)))) (h : kFX0_alter p1 p2 p3 f_this_sizes m_this_slots = some out) : vx_Met l kyX0_alter kwX0_alter krX0_alter (kb_PX D kCl (kb_T cB cI cL cBB cII cSh) [.ref h_this, .int p1, .int p2, .int p3] (kWX0_alter cB cI cL cBB cII cSh h_this a_this r_this_slots this_tapeSize f_this_sizes m_this_slots) sz) (kb_QX D kCl (kb_T cB cI cL cBB cII cSh) (va_A (kWX0_alter cB cI cL cBB cII cSh h_this a_this r_this_slots this_tapeSize f_this_sizes m_this_slots) sz) out (fun o => (some (.int o.1))) (fun o => (kWX0_alter cB cI cL cBB cII cSh h_this a_this r_this_slots this_tapeSize f_this_sizes o.2))) (kb_XX D kCl (kb_T cB cI cL cBB cII cSh) (va_A (kWX0_alter cB cI cL cBB cII cSh h_this a_this r_this_slots this_tapeSize f_this_sizes m_this_slots) sz) out (fun x => (kWX0_alter cB cI cL cBB cII cSh h_this a_this r_this_slots this_tapeSize f_this_sizes x))) 2 12 (va_A (kWX0_alter cB cI cL cBB cII cSh h_this a_this r_this_slots this_tapeSize f_this_sizes m_this_slots) sz) := by
  refine vx_ofW (cc := prog_1_method_6_code) (maxL := 5) (ret := (some .int)) (by decide) rfl ?_
  intro p e s m args below meth c s₁ B hml hno hv
  obtain ⟨⟨rfl, hsz, hP, hK, hN, hD0⟩, hZ⟩ := hv
  have hx := B.exec
  have hb := B.bytes
  have hr := B.returns
  have hts0 := atoms_spec (ws := kwX0_alter) B.pre
  have hts : ∀ w ∈ kwA, w.before _ s = true := fun w h => hts0 w (List.mem_cons_of_mem _ h)
  have hown : s.vm.findClass kRX0 = some m.cls := findClass_of_methodNamed B.named
  have hlocks := B.notSynchronized
  subst hsz
  have hD := hD0.self (sz := s.heap.size)
  generalize hAe : va_A (kWX0_alter cB cI cL cBB cII cSh h_this a_this r_this_slots this_tapeSize f_this_sizes m_this_slots) s.heap.size = A at hD hZ ⊢
  have hA : ∀ q : Nat, s.heap.size ≤ q → A q := fun q h => by rw [← hAe]; exact Or.inr h
  have hS : va_S A s.heap s.heap [] := va_S.rf
  have C0 : CallFix p m c prog_1_method_6_code 5 s _ kwA kRX0 := ⟨hx, hb, hml, hown, hts⟩
  have hl := lv_entry ([.ref h_this, .int p1, .int p2, .int p3]) (n := 5) (Nat.le_of_ble_eq_true rfl)
  rw [lg_entry_eq]
  generalize (lg_sl ([.ref h_this, .int p1, .int p2, .int p3]) ++ List.replicate (5 - (lg_sl ([.ref h_this, .int p1, .int p2, .int p3])).length) Slot.unset).toArray = ls at hl ⊢
  have hl : lv_has ls 5 [(0, .ref h_this), (1, .int p1), (2, .int p2), (3, .int p3)] := hl
  unfold kFX0_alter at h
  refine lv_iload_n hx hb kdX0_alter_0 rfl (lv_at hl 1 rfl) ?_
  obtain ⟨u_1, hu_1, h⟩ := kb_o_s h
  have hC := (show ([] : List Nat).map (fun i : Nat => (kWX0_alter cB cI cL cBB cII cSh h_this a_this r_this_slots this_tapeSize f_this_sizes m_this_slots)[i]?) = List.map some (kWX0_checkSlot cB cI cL cBB cII cSh) from rfl)
  have hPc := kb_Psub hP ([] : List Nat) hC
  have hDc := kb_Dsub hD ([] : List Nat) hC (by simp [kb_nd])
  have hC2 : ([] : List Nat).map (fun i : Nat => (kWX0_alter cB cI cL cBB cII cSh h_this a_this r_this_slots this_tapeSize f_this_sizes m_this_slots)[i]?) = (kb_pick [] (kWX0_checkSlot cB cI cL cBB cII cSh)).map some := rfl
  refine kb_callx (vx_runS (As := [.int p1]) (rest := []) C0 (kcX0_checkSlot l hl9 D cB cI cL cBB cII cSh  _ p1 u_1 hu_1) (va_cwS 1 hts (kb_gS km_267 km_268 km_1 km_269) rfl rfl rfl (by decide +kernel) ⟨Nat.le_of_ble_eq_true rfl, Nat.le_of_ble_eq_true rfl⟩) ⟨kb_PX_bl, (fun U hU hW => ⟨⟨rfl, by rw [hU], by rw [hU]; exact hPc, va_K.moved hW.alike hK, kb_N_to hW hN, hDc.weaken (fun _ _ _ _ => trivial)⟩, kb_Z_to hZ hS (va_free (wc := (kWX0_checkSlot cB cI cL cBB cII cSh)) hD hS hA ([] : List Nat) hC) hU hW⟩)⟩ rfl rfl hl.1 rfl (lv_room (Nat.le_of_ble_eq_true rfl)) kdX0_alter_1 ⟨Nat.le_of_ble_eq_true rfl, Nat.le_of_ble_eq_true rfl⟩) hP hD hS hA [] [] [] hC2 rfl rfl (by simp [kb_nd]) (fun _ => rfl) (fun _ => rfl) (fun x ce q H locs eu hP hD hS hce hcv hcl => ?_) (fun o H locs eu hP hD hS => ?_)
  · subst eu
    have h := kb_s_ir h
    have hP : va_P D kCl (kWX0_alter cB cI cL cBB cII cSh h_this a_this r_this_slots this_tapeSize f_this_sizes m_this_slots) H := hP
    have hD : va_D A (kWX0_alter cB cI cL cBB cII cSh h_this a_this r_this_slots this_tapeSize f_this_sizes m_this_slots) := hD
    obtain rfl := Option.some.inj h
    exact vx_out (E := x.1) (fun x hx9 => (hno x hx9).elim) hlocks hce hcv hcl (fun t ht ha => ⟨_, rfl, by rw [ht]; exact hP, va_K.moved ha hK, hD, hS.F ht⟩) hS.2.2 (by decide) (by decide)
  · subst eu
    have h := kb_s_il h
    have hP : va_P D kCl (kWX0_alter cB cI cL cBB cII cSh h_this a_this r_this_slots this_tapeSize f_this_sizes m_this_slots) H := hP
    have hD : va_D A (kWX0_alter cB cI cL cBB cII cSh h_this a_this r_this_slots this_tapeSize f_this_sizes m_this_slots) := hD
    refine lv_iload_n hx hb kdX0_alter_4 rfl (lv_at hl 3 rfl) ?_
    refine lv_if_lt (tgt := 15) hx hb kdX0_alter_5 (by decide) (fun c_2 => ?_) (fun c_2 => ?_)
    · have h := kb_b_t c_2 h
      obtain rfl := Option.some.inj h
      obtain ⟨sa, hZs⟩ := hZ.2.2 (kRX0, 69, "a byte is 0 .. 255") (by simp [kb_STR])
      exact vx_throwS (own := kRX0) (cls := "java/lang/IllegalArgumentException") (names := ["java/lang/RuntimeException", "java/lang/Exception"]) hx hb hl9 hown (by decide +kernel) (by decide +kernel) (hts _ km_270) (hts _ km_11) hZs (kb_hat hts hN (by decide +kernel)) (by decide +kernel) hZ.1 hZ.2.1 hS (hl.1.trans hml.symm) kdX0_alter_15 kdX0_alter_18 kdX0_alter_19 kdX0_alter_21 kdX0_alter_24 (fun x hx9 => (hno x hx9).elim) (Nat.le_of_ble_eq_true rfl) (Nat.le_of_ble_eq_true rfl) (by decide) (by decide) hlocks (fun t ha hsz hk => ⟨_, rfl, hP.kept (fun k q hq => hk q.1 (hP k q hq).lt), va_K.moved ha hK, hD, Nat.le_trans hS.1 hsz, fun q h1 h2 => (hk q (Nat.lt_of_lt_of_le h1 hS.1)).trans (hS.2.1 q h1 h2)⟩) hS.2.2 (by decide) (by decide)
    · have h := kb_b_f c_2 h
      refine lv_iload_n hx hb kdX0_alter_8 rfl (lv_at hl 3 rfl) ?_
      refine lv_sipush (v := 255) hx hb kdX0_alter_9 (by decide) ?_
      refine lv_icmp_le (tgt := 25) hx hb kdX0_alter_12 (by decide) (fun c_3 => ?_) (fun c_3 => ?_)
      · have h := kb_b_t c_3 h
        refine lv_aload_n hx hb kdX0_alter_25 rfl (lv_at hl 0 rfl) ?_
        refine lv_iload_n hx hb kdX0_alter_26 rfl (lv_at hl 1 rfl) ?_
        refine lv_iload_n hx hb kdX0_alter_27 rfl (lv_at hl 2 rfl) ?_
        obtain ⟨u_4, hu_4, h⟩ := kb_o_s h
        have hC := (show ([0, 2] : List Nat).map (fun i : Nat => (kWX0_alter cB cI cL cBB cII cSh h_this a_this r_this_slots this_tapeSize f_this_sizes m_this_slots)[i]?) = List.map some (kWX0_checkPlace cB cI cL cBB cII cSh h_this a_this this_tapeSize f_this_sizes) from rfl)
        have hPc := kb_Psub hP ([0, 2] : List Nat) hC
        have hDc := kb_Dsub hD ([0, 2] : List Nat) hC (by simp [kb_nd])
        have hC2 : ([0, 2] : List Nat).map (fun i : Nat => (kWX0_alter cB cI cL cBB cII cSh h_this a_this r_this_slots this_tapeSize f_this_sizes m_this_slots)[i]?) = (kb_pick [0, 1] (kWX0_checkPlace cB cI cL cBB cII cSh h_this a_this this_tapeSize f_this_sizes)).map some := rfl
        refine kb_callx (vx_runV (As := [.int p1, .int p2]) (rest := []) C0 (kcX0_checkPlace l hl9 D cB cI cL cBB cII cSh h_this a_this _ p1 p2 this_tapeSize f_this_sizes u_4 hu_4) (cwV 2 hts (kb_gV km_316 km_318 kp_12 km_1 km_319) rfl rfl rfl (by decide +kernel) ⟨Nat.le_of_ble_eq_true rfl, Nat.le_of_ble_eq_true rfl⟩) ⟨kb_PX_bl, va_recv hK hP (ci := 0) (q0 := 0) rfl rfl, (fun U hU hW => ⟨⟨rfl, by rw [hU], by rw [hU]; exact hPc, va_K.moved hW.alike hK, kb_N_to hW hN, hDc.weaken (fun _ _ _ _ => trivial)⟩, kb_Z_to hZ hS (va_free (wc := (kWX0_checkPlace cB cI cL cBB cII cSh h_this a_this this_tapeSize f_this_sizes)) hD hS hA ([0, 2] : List Nat) hC) hU hW⟩)⟩ rfl rfl hl.1 rfl (lv_room (Nat.le_of_ble_eq_true rfl)) kdX0_alter_28 ⟨Nat.le_of_ble_eq_true rfl, Nat.le_of_ble_eq_true rfl⟩) hP hD hS hA [0, 2] [0, 1] [0, 1] hC2 rfl rfl (by simp [kb_nd]) (fun _ => rfl) (fun _ => rfl) (fun x ce q H locs eu hP hD hS hce hcv hcl => ?_) (fun o H locs eu hP hD hS => ?_)
        · subst eu
          have h := kb_s_ir h
          have hP : va_P D kCl (kWX0_alter cB cI cL cBB cII cSh h_this a_this r_this_slots this_tapeSize f_this_sizes m_this_slots) H := hP
          have hD : va_D A (kWX0_alter cB cI cL cBB cII cSh h_this a_this r_this_slots this_tapeSize f_this_sizes m_this_slots) := hD
          obtain rfl := Option.some.inj h
          exact vx_out (E := x.1) (fun x hx9 => (hno x hx9).elim) hlocks hce hcv hcl (fun t ht ha => ⟨_, rfl, by rw [ht]; exact hP, va_K.moved ha hK, hD, hS.F ht⟩) hS.2.2 (by decide) (by decide)
        · subst eu
          have h := kb_s_il h
          have hP : va_P D kCl (kWX0_alter cB cI cL cBB cII cSh h_this a_this r_this_slots this_tapeSize f_this_sizes m_this_slots) H := hP
          have hD : va_D A (kWX0_alter cB cI cL cBB cII cSh h_this a_this r_this_slots this_tapeSize f_this_sizes m_this_slots) := hD
          refine lv_aload_n hx hb kdX0_alter_31 rfl (lv_at hl 0 rfl) ?_
          refine va_get (ci := 0) (v := .ref (a_this 0)) (C := kRX0) (T := kTX0) (N := 6) hx hb hts kinX0 hown hK hP 0 rfl rfl 0 (by decide) (hts _ km_159) (fun _ h9 => h9) rfl kdX0_alter_32 ?_
          refine lv_iload_n hx hb kdX0_alter_35 rfl (lv_at hl 1 rfl) ?_
          obtain ⟨g_5, h⟩ := kb_g_s h
          refine kb_aald (j := p1.toNatClampNeg) hx hb hK hP 1 3 rfl rfl rfl rfl (kb_in_v g_5) kdX0_alter_36 ?_
          refine lv_iload_n hx hb kdX0_alter_37 rfl (lv_at hl 2 rfl) ?_
          obtain ⟨g_6, h⟩ := kb_g_s h
          refine va_bald hx hb hK hP (3 + p1.toNatClampNeg) 0 (kb_pl_r rfl (kb_pl_l (kb_gw_at (kb_in_lt g_5)))) rfl (kb_in_v g_6) kdX0_alter_38 ?_
          refine lv_sipush (v := 255) hx hb kdX0_alter_39 (by decide) ?_
          refine lv_iand hx hb kdX0_alter_42 ?_
          refine lv_iload_n hx hb kdX0_alter_43 rfl (lv_at hl 3 rfl) ?_
          refine lv_ixor hx hb kdX0_alter_44 ?_
          refine lv_topi (fun x4_7 ex4_7 => ?_)
          have h := kb_n_s ex4_7 h
          refine lv_istore (lv' := [(4, .int x4_7), (0, .ref h_this), (1, .int p1), (2, .int p2), (3, .int p3)]) hx hb kdX0_alter_45 hl (by decide) rfl (fun ls hl => ?_)
          refine lv_aload_n hx hb kdX0_alter_47 rfl (lv_at hl 1 rfl) ?_
          refine va_get (ci := 0) (v := .ref (a_this 0)) (C := kRX0) (T := kTX0) (N := 6) hx hb hts kinX0 hown hK hP 0 rfl rfl 0 (by decide) (hts _ km_159) (fun _ h9 => h9) rfl kdX0_alter_48 ?_
          refine lv_iload_n hx hb kdX0_alter_51 rfl (lv_at hl 2 rfl) ?_
          obtain ⟨g_8, h⟩ := kb_g_s h
          refine kb_aald (j := p1.toNatClampNeg) hx hb hK hP 1 3 rfl rfl rfl rfl (kb_in_v g_8) kdX0_alter_52 ?_
          refine lv_iload_n hx hb kdX0_alter_53 rfl (lv_at hl 3 rfl) ?_
          refine lv_iload hx hb kdX0_alter_54 (lv_at hl 0 rfl) ?_
          refine lv_i2b (v := (x4_7.toInt8.toInt32)) hx hb kdX0_alter_56 rfl ?_
          obtain ⟨g_9, h⟩ := kb_g_s h
          refine va_bast hx hb hK hP hD hS (3 + p1.toNatClampNeg) 0 (kb_pl_r rfl (kb_pl_l (kb_gw_at (kb_in_lt g_8)))) rfl (kb_in_v g_9) kdX0_alter_57 (fun H locs hP hD hS => ?_)
          unfold kWX0_alter at hP; rw [kb_set_r (n := 3) (by rfl), kb_set_l (by rw [kb_gw_len]; exact (kb_in_lt g_8)), kb_gw_st (kb_in_lt g_8), kb_up_c (fun z => .inl (cB, 8192, .inl z))] at hP
          unfold kWX0_alter at hD; rw [kb_set_r (n := 3) (by rfl), kb_set_l (by rw [kb_gw_len]; exact (kb_in_lt g_8)), kb_gw_st (kb_in_lt g_8), kb_up_c (fun z => .inl (cB, 8192, .inl z))] at hD
          obtain ⟨m_10, em_10⟩ : ∃ y, y = va_up m_this_slots p1.toNatClampNeg (upd (m_this_slots p1.toNatClampNeg) p2.toNatClampNeg (vp_nar .byte (x4_7.toInt8.toInt32))) := ⟨_, rfl⟩
          have h := kb_n_s em_10 h
          have hP : va_P D kCl (kWX0_alter cB cI cL cBB cII cSh h_this a_this r_this_slots this_tapeSize f_this_sizes m_10) H := by rw [em_10]; exact hP
          have hD : va_D A (kWX0_alter cB cI cL cBB cII cSh h_this a_this r_this_slots this_tapeSize f_this_sizes m_10) := by rw [em_10]; exact hD
          refine lv_iload hx hb kdX0_alter_58 (lv_at hl 0 rfl) ?_
          obtain rfl := Option.some.inj h
          refine vx_ret ?_
          refine W.widen (k := 2) (n := 12) (by decide) (by decide) ?_
          exact W.iret (v := x4_7) hx hb hr (fun t ht hW => ⟨_, rfl, ⟨rfl, by rw [ht]; exact hP, va_K.moved hW.alike hK, hD⟩, hS.F ht⟩) hS.2.2 kdX0_alter_60
      · have h := kb_b_f c_3 h
        obtain rfl := Option.some.inj h
        obtain ⟨sa, hZs⟩ := hZ.2.2 (kRX0, 69, "a byte is 0 .. 255") (by simp [kb_STR])
        exact vx_throwS (own := kRX0) (cls := "java/lang/IllegalArgumentException") (names := ["java/lang/RuntimeException", "java/lang/Exception"]) hx hb hl9 hown (by decide +kernel) (by decide +kernel) (hts _ km_270) (hts _ km_11) hZs (kb_hat hts hN (by decide +kernel)) (by decide +kernel) hZ.1 hZ.2.1 hS (hl.1.trans hml.symm) kdX0_alter_15 kdX0_alter_18 kdX0_alter_19 kdX0_alter_21 kdX0_alter_24 (fun x hx9 => (hno x hx9).elim) (Nat.le_of_ble_eq_true rfl) (Nat.le_of_ble_eq_true rfl) (by decide) (by decide) hlocks (fun t ha hsz hk => ⟨_, rfl, hP.kept (fun k q hq => hk q.1 (hP k q hq).lt), va_K.moved ha hK, hD, Nat.le_trans hS.1 hsz, fun q h1 h2 => (hk q (Nat.lt_of_lt_of_le h1 hS.1)).trans (hS.2.1 q h1 h2)⟩) hS.2.2 (by decide) (by decide)

-- 476.ModuleKem.length.lean.txt
abbrev kWX0_length (cB cI cL cBB cII cSh : ClassId) (h_this : Nat) (a_this : Nat → Nat) (this_tapeSize : Int32) (f_this_sizes : Nat → Int32) : va_W := [(h_this, koX0 a_this this_tapeSize), ((a_this 1), .inl (cI, 8, .inl f_this_sizes))]
def krX0_length : Room := { frames := 7, cells := 1, slots := 6, locals := 110 }
set_option maxHeartbeats 4000000 in
set_option maxRecDepth 100000 in
theorem kcX0_length (l : Launch) (hl9 : l.stackTraces = false) (D : va_G) (cB cI cL cBB cII cSh : ClassId) (h_this : Nat) (a_this : Nat → Nat) (sz : Nat) (p1 : Int32) (this_tapeSize : Int32) (f_this_sizes : Nat → Int32) (out : (Int32) ⊕ (String × (Unit))) (h : kFX0_length p1 f_this_sizes = some out) : vx_Met l kyX0_length kwX0_length krX0_length (kb_PX D kCl (kb_T cB cI cL cBB cII cSh) [.ref h_this, .int p1] (kWX0_length cB cI cL cBB cII cSh h_this a_this this_tapeSize f_this_sizes) sz) (kb_QX D kCl (kb_T cB cI cL cBB cII cSh) (va_A (kWX0_length cB cI cL cBB cII cSh h_this a_this this_tapeSize f_this_sizes) sz) out (fun o => (some (.int o))) (fun o => (kWX0_length cB cI cL cBB cII cSh h_this a_this this_tapeSize f_this_sizes))) (kb_XX D kCl (kb_T cB cI cL cBB cII cSh) (va_A (kWX0_length cB cI cL cBB cII cSh h_this a_this this_tapeSize f_this_sizes) sz) out (fun x => (kWX0_length cB cI cL cBB cII cSh h_this a_this this_tapeSize f_this_sizes))) 1 6 (va_A (kWX0_length cB cI cL cBB cII cSh h_this a_this this_tapeSize f_this_sizes) sz) := by
  refine vx_ofW (cc := prog_1_method_7_code) (maxL := 2) (ret := (some .int)) (by decide) rfl ?_
  intro p e s m args below meth c s₁ B hml hno hv
  obtain ⟨⟨rfl, hsz, hP, hK, hN, hD0⟩, hZ⟩ := hv
  have hx := B.exec
  have hb := B.bytes
  have hr := B.returns
  have hts0 := atoms_spec (ws := kwX0_length) B.pre
  have hts : ∀ w ∈ kwA, w.before _ s = true := fun w h => hts0 w (List.mem_cons_of_mem _ h)
  have hown : s.vm.findClass kRX0 = some m.cls := findClass_of_methodNamed B.named
  have hlocks := B.notSynchronized
  subst hsz
  have hD := hD0.self (sz := s.heap.size)
  generalize hAe : va_A (kWX0_length cB cI cL cBB cII cSh h_this a_this this_tapeSize f_this_sizes) s.heap.size = A at hD hZ ⊢
  have hA : ∀ q : Nat, s.heap.size ≤ q → A q := fun q h => by rw [← hAe]; exact Or.inr h
  have hS : va_S A s.heap s.heap [] := va_S.rf
  have C0 : CallFix p m c prog_1_method_7_code 2 s _ kwA kRX0 := ⟨hx, hb, hml, hown, hts⟩
  have hl := lv_entry ([.ref h_this, .int p1]) (n := 2) (Nat.le_of_ble_eq_true rfl)
  rw [lg_entry_eq]
  generalize (lg_sl ([.ref h_this, .int p1]) ++ List.replicate (2 - (lg_sl ([.ref h_this, .int p1])).length) Slot.unset).toArray = ls at hl ⊢
  have hl : lv_has ls 2 [(0, .ref h_this), (1, .int p1)] := hl
  unfold kFX0_length at h
  refine lv_iload_n hx hb kdX0_length_0 rfl (lv_at hl 1 rfl) ?_
  obtain ⟨u_1, hu_1, h⟩ := kb_o_s h
  have hC := (show ([] : List Nat).map (fun i : Nat => (kWX0_length cB cI cL cBB cII cSh h_this a_this this_tapeSize f_this_sizes)[i]?) = List.map some (kWX0_checkSlot cB cI cL cBB cII cSh) from rfl)
  have hPc := kb_Psub hP ([] : List Nat) hC
  have hDc := kb_Dsub hD ([] : List Nat) hC (by simp [kb_nd])
  have hC2 : ([] : List Nat).map (fun i : Nat => (kWX0_length cB cI cL cBB cII cSh h_this a_this this_tapeSize f_this_sizes)[i]?) = (kb_pick [] (kWX0_checkSlot cB cI cL cBB cII cSh)).map some := rfl
  refine kb_callx (vx_runS (As := [.int p1]) (rest := []) C0 (kcX0_checkSlot l hl9 D cB cI cL cBB cII cSh  _ p1 u_1 hu_1) (va_cwS 1 hts (kb_gS km_267 km_268 km_1 km_269) rfl rfl rfl (by decide +kernel) ⟨Nat.le_of_ble_eq_true rfl, Nat.le_of_ble_eq_true rfl⟩) ⟨kb_PX_bl, (fun U hU hW => ⟨⟨rfl, by rw [hU], by rw [hU]; exact hPc, va_K.moved hW.alike hK, kb_N_to hW hN, hDc.weaken (fun _ _ _ _ => trivial)⟩, kb_Z_to hZ hS (va_free (wc := (kWX0_checkSlot cB cI cL cBB cII cSh)) hD hS hA ([] : List Nat) hC) hU hW⟩)⟩ rfl rfl hl.1 rfl (lv_room (Nat.le_of_ble_eq_true rfl)) kdX0_length_1 ⟨Nat.le_of_ble_eq_true rfl, Nat.le_of_ble_eq_true rfl⟩) hP hD hS hA [] [] [] hC2 rfl rfl (by simp [kb_nd]) (fun _ => rfl) (fun _ => rfl) (fun x ce q H locs eu hP hD hS hce hcv hcl => ?_) (fun o H locs eu hP hD hS => ?_)
  · subst eu
    have h := kb_s_ir h
    have hP : va_P D kCl (kWX0_length cB cI cL cBB cII cSh h_this a_this this_tapeSize f_this_sizes) H := hP
    have hD : va_D A (kWX0_length cB cI cL cBB cII cSh h_this a_this this_tapeSize f_this_sizes) := hD
    obtain rfl := Option.some.inj h
    exact vx_out (E := x.1) (fun x hx9 => (hno x hx9).elim) hlocks hce hcv hcl (fun t ht ha => ⟨_, rfl, by rw [ht]; exact hP, va_K.moved ha hK, hD, hS.F ht⟩) hS.2.2 (by decide) (by decide)
  · subst eu
    have h := kb_s_il h
    have hP : va_P D kCl (kWX0_length cB cI cL cBB cII cSh h_this a_this this_tapeSize f_this_sizes) H := hP
    have hD : va_D A (kWX0_length cB cI cL cBB cII cSh h_this a_this this_tapeSize f_this_sizes) := hD
    refine lv_aload_n hx hb kdX0_length_4 rfl (lv_at hl 0 rfl) ?_
    refine va_get (ci := 0) (v := .ref (a_this 1)) (C := kRX0) (T := kTX0) (N := 6) hx hb hts kinX0 hown hK hP 0 rfl rfl 1 (by decide) (hts _ km_160) (fun _ h9 => h9) rfl kdX0_length_5 ?_
    refine lv_iload_n hx hb kdX0_length_8 rfl (lv_at hl 1 rfl) ?_
    obtain ⟨g_2, h⟩ := kb_g_s h
    refine va_iald hx hb hK hP 1 1 rfl rfl (kb_in_v g_2) kdX0_length_9 ?_
    obtain rfl := Option.some.inj h
    refine vx_ret ?_
    refine W.widen (k := 1) (n := 6) (by decide) (by decide) ?_
    exact W.iret (v := (f_this_sizes p1.toNatClampNeg)) hx hb hr (fun t ht hW => ⟨_, rfl, ⟨rfl, by rw [ht]; exact hP, va_K.moved hW.alike hK, hD⟩, hS.F ht⟩) hS.2.2 kdX0_length_10

-- 477.ModuleKem.word.lean.txt
abbrev kWX0_word (cB cI cL cBB cII cSh : ClassId) (h_this : Nat) (a_this : Nat → Nat) (r_this_slots : Nat → Nat) (this_tapeSize : Int32) (f_this_sizes : Nat → Int32) (m_this_slots : Nat → Nat → Int32) : va_W := ([(h_this, koX0 a_this this_tapeSize), ((a_this 0), .inl (cBB, 8, .inr (.inr (.inr (.inr (kb_rf r_this_slots 8)))))), ((a_this 1), .inl (cI, 8, .inl f_this_sizes))] ++ (kb_gw r_this_slots 8 (fun i => .inl (cB, 8192, .inl (m_this_slots i))) ++ []))
def krX0_word : Room := { frames := 7, cells := 2, slots := 12, locals := 112 }
set_option maxHeartbeats 4000000 in
set_option maxRecDepth 100000 in
theorem klX0_word_15 {p : Program} {l : Launch} {e : Env} {s : State} {m : MethodId} {args : Array Value} {below : List Frame} {meth : Method} {c : Code} {cells slots : Nat} {Q : State → Prop} {D : va_G} {cB cI cL cBB cII cSh : ClassId} {A : Nat → Prop} (C0 : CallFix p m c prog_1_method_8_code 7 s args kwA kRX0) (hlocks : meth.locks = false) (hK : va_K D kCl (kb_T cB cI cL cBB cII cSh) s) (hN : kb_N s) (hA : ∀ q, s.heap.size ≤ q → A q) (hcR : cells ≤ krX0_word.cells) (hsR : slots ≤ krX0_word.slots) (h_this : Nat) (a_this r_this_slots : Nat → Nat) (p1 : Int32) (p2 : Int32) (this_tapeSize : Int32) (f_this_sizes : Nat → Int32) (m_this_slots : Nat → Nat → Int32) :
    ∀ (fuel : Nat) (x3p15 : Int64) (x5p15 : Int32) (r : Int64 × Int32), kb_w (fun u : Int64 × Int32 => kSX0_word_15 p1 p2 f_this_sizes m_this_slots u.1 u.2) fuel (x3p15, x5p15) = some r → ∀ (H : Heap) (locs : List Loc) (ls : Array Slot), va_P D kCl (kWX0_word cB cI cL cBB cII cSh h_this a_this r_this_slots this_tapeSize f_this_sizes m_this_slots) H → va_D A (kWX0_word cB cI cL cBB cII cSh h_this a_this r_this_slots this_tapeSize f_this_sizes m_this_slots) → va_S A s.heap H locs → lv_has ls 7 [(0, .ref h_this), (1, .int p1), (2, .int p2), (3, .long x3p15), (5, .int x5p15)] → (∀ (x3p15' : Int64) (x5p15' : Int32), r = (x3p15', x5p15') → ∀ (H : Heap) (locs : List Loc) (ls : Array Slot), va_P D kCl (kWX0_word cB cI cL cBB cII cSh h_this a_this r_this_slots this_tapeSize f_this_sizes m_this_slots) H → va_D A (kWX0_word cB cI cL cBB cII cSh h_this a_this r_this_slots this_tapeSize f_this_sizes m_this_slots) → va_S A s.heap H locs → lv_has ls 7 [(0, .ref h_this), (1, .int p1), (2, .int p2), (3, .long x3p15'), (5, .int x5p15')] → W p l e krX0_word s m args below meth c H locs cells slots Q (F0 m 69 ls [])) → W p l e krX0_word s m args below meth c H locs cells slots Q (F0 m 15 ls []) := by
  obtain ⟨hx, hb, hml, hown, hts⟩ := id C0
  intro fuel
  induction fuel with
  | zero =>
    intro x3p15 x5p15 r h
    exact absurd h (kb_w_z _ _ _)
  | succ fuel ih =>
    intro x3p15 x5p15 r h H locs ls hP hD hS hl hk0
    obtain ⟨o, h, ho⟩ := kb_w_s h
    have h : kSX0_word_15 p1 p2 f_this_sizes m_this_slots x3p15 x5p15 = some o := h
    unfold kSX0_word_15 at h
    refine lv_iload hx hb kdX0_word_15 (lv_at hl 4 rfl) ?_
    refine lv_iload_n hx hb kdX0_word_17 rfl (lv_at hl 2 rfl) ?_
    refine lv_bipush (v := 8) hx hb kdX0_word_18 (by decide) ?_
    refine lv_iadd hx hb kdX0_word_20 ?_
    refine lv_icmp_ge (tgt := 69) hx hb kdX0_word_21 (by decide) (fun c_3 => ?_) (fun c_3 => ?_)
    · have h := kb_b_t c_3 h
      obtain rfl := Option.some.inj h
      exact hk0 x3p15 x5p15 ho.symm _ _ _ hP hD hS (lv_sub hl [0, 1, 2, 3, 4] rfl)
    · have h := kb_b_f c_3 h
      refine lv_iload hx hb kdX0_word_24 (lv_at hl 4 rfl) ?_
      refine lv_aload_n hx hb kdX0_word_26 rfl (lv_at hl 0 rfl) ?_
      refine va_get (ci := 0) (v := .ref (a_this 1)) (C := kRX0) (T := kTX0) (N := 6) hx hb hts kinX0 hown hK hP 0 rfl rfl 1 (by decide) (hts _ km_160) (fun _ h9 => h9) rfl kdX0_word_27 ?_
      refine lv_iload_n hx hb kdX0_word_30 rfl (lv_at hl 1 rfl) ?_
      obtain ⟨g_4, h⟩ := kb_g_s h
      refine va_iald hx hb hK hP 2 1 rfl rfl (kb_in_v g_4) kdX0_word_31 ?_
      refine lv_icmp_ge (tgt := 51) hx hb kdX0_word_32 (by decide) (fun c_5 => ?_) (fun c_5 => ?_)
      · have h := kb_b_t c_5 h
        refine lv_iconst (v := 0) hx hb kdX0_word_51 (by decide) ?_
        refine lv_istore (lv' := [(6, .int (0 : Int32)), (0, .ref h_this), (1, .int p1), (2, .int p2), (3, .long x3p15), (5, .int x5p15)]) hx hb kdX0_word_52 hl (by decide) rfl (fun ls hl => ?_)
        refine lv_lload_n hx hb kdX0_word_54 rfl (lv_at hl 4 rfl) ?_
        refine lv_bipush (v := 8) hx hb kdX0_word_55 (by decide) ?_
        refine lv_lshl (v := (x3p15 <<< ((8 : Int32).toInt64 &&& 63))) hx hb kdX0_word_57 rfl ?_
        refine lv_iload hx hb kdX0_word_58 (lv_at hl 0 rfl) ?_
        refine lv_i2l (v := ((0 : Int32).toInt64)) hx hb kdX0_word_60 rfl ?_
        refine lv_lor hx hb kdX0_word_61 ?_
        refine lv_topl (fun x3_6 ex3_6 => ?_)
        have h := kb_n_s ex3_6 h
        refine lv_lstore_n (lv' := [(3, .long x3_6), (6, .int (0 : Int32)), (0, .ref h_this), (1, .int p1), (2, .int p2), (5, .int x5p15)]) hx hb kdX0_word_62 rfl hl (by decide) rfl (fun ls hl => ?_)
        obtain ⟨x5_7, ex5_7⟩ : ∃ y : Int32, y = x5p15 + Int32.ofInt 1 := ⟨_, rfl⟩
        have h := kb_n_s ex5_7 h
        refine lv_iinc (v := x5_7) (lv' := [(5, .int x5_7), (3, .long x3_6), (6, .int (0 : Int32)), (0, .ref h_this), (1, .int p1), (2, .int p2)]) hx hb kdX0_word_63 hl (k := 5) rfl ex5_7.symm (by decide) rfl (fun ls hl => ?_)
        refine lv_goto (tgt := 15) hx hb kdX0_word_66 (by decide) ?_
        obtain rfl := Option.some.inj h
        exact ih x3_6 x5_7 r ho _ _ _ hP hD hS (lv_sub hl [3, 4, 5, 1, 0] rfl) hk0
      · have h := kb_b_f c_5 h
        refine lv_aload_n hx hb kdX0_word_35 rfl (lv_at hl 0 rfl) ?_
        refine va_get (ci := 0) (v := .ref (a_this 0)) (C := kRX0) (T := kTX0) (N := 6) hx hb hts kinX0 hown hK hP 0 rfl rfl 0 (by decide) (hts _ km_159) (fun _ h9 => h9) rfl kdX0_word_36 ?_
        refine lv_iload_n hx hb kdX0_word_39 rfl (lv_at hl 1 rfl) ?_
        obtain ⟨g_8, h⟩ := kb_g_s h
        refine kb_aald (j := p1.toNatClampNeg) hx hb hK hP 1 3 rfl rfl rfl rfl (kb_in_v g_8) kdX0_word_40 ?_
        refine lv_iload hx hb kdX0_word_41 (lv_at hl 4 rfl) ?_
        obtain ⟨g_9, h⟩ := kb_g_s h
        refine va_bald hx hb hK hP (3 + p1.toNatClampNeg) 0 (kb_pl_r rfl (kb_pl_l (kb_gw_at (kb_in_lt g_8)))) rfl (kb_in_v g_9) kdX0_word_43 ?_
        refine lv_sipush (v := 255) hx hb kdX0_word_44 (by decide) ?_
        refine lv_iand hx hb kdX0_word_47 ?_
        refine lv_goto (tgt := 52) hx hb kdX0_word_48 (by decide) ?_
        refine lv_topi (fun x6_10 ex6_10 => ?_)
        have h := kb_n_s ex6_10 h
        refine lv_istore (lv' := [(6, .int x6_10), (0, .ref h_this), (1, .int p1), (2, .int p2), (3, .long x3p15), (5, .int x5p15)]) hx hb kdX0_word_52 hl (by decide) rfl (fun ls hl => ?_)
        refine lv_lload_n hx hb kdX0_word_54 rfl (lv_at hl 4 rfl) ?_
        refine lv_bipush (v := 8) hx hb kdX0_word_55 (by decide) ?_
        refine lv_lshl (v := (x3p15 <<< ((8 : Int32).toInt64 &&& 63))) hx hb kdX0_word_57 rfl ?_
        refine lv_iload hx hb kdX0_word_58 (lv_at hl 0 rfl) ?_
        refine lv_i2l (v := (x6_10.toInt64)) hx hb kdX0_word_60 rfl ?_
        refine lv_lor hx hb kdX0_word_61 ?_
        refine lv_topl (fun x3_11 ex3_11 => ?_)
        have h := kb_n_s ex3_11 h
        refine lv_lstore_n (lv' := [(3, .long x3_11), (6, .int x6_10), (0, .ref h_this), (1, .int p1), (2, .int p2), (5, .int x5p15)]) hx hb kdX0_word_62 rfl hl (by decide) rfl (fun ls hl => ?_)
        obtain ⟨x5_12, ex5_12⟩ : ∃ y : Int32, y = x5p15 + Int32.ofInt 1 := ⟨_, rfl⟩
        have h := kb_n_s ex5_12 h
        refine lv_iinc (v := x5_12) (lv' := [(5, .int x5_12), (3, .long x3_11), (6, .int x6_10), (0, .ref h_this), (1, .int p1), (2, .int p2)]) hx hb kdX0_word_63 hl (k := 5) rfl ex5_12.symm (by decide) rfl (fun ls hl => ?_)
        refine lv_goto (tgt := 15) hx hb kdX0_word_66 (by decide) ?_
        obtain rfl := Option.some.inj h
        exact ih x3_11 x5_12 r ho _ _ _ hP hD hS (lv_sub hl [3, 4, 5, 1, 0] rfl) hk0
set_option maxHeartbeats 4000000 in
set_option maxRecDepth 100000 in
theorem kcX0_word (l : Launch) (hl9 : l.stackTraces = false) (D : va_G) (cB cI cL cBB cII cSh : ClassId) (h_this : Nat) (a_this r_this_slots : Nat → Nat) (sz : Nat) (p1 : Int32) (p2 : Int32) (this_tapeSize : Int32) (f_this_sizes : Nat → Int32) (m_this_slots : Nat → Nat → Int32) (out : (Int64) ⊕ (String × (Unit))) (h : kFX0_word p1 p2 f_this_sizes m_this_slots = some out) : vx_Met l kyX0_word kwX0_word krX0_word (kb_PX D kCl (kb_T cB cI cL cBB cII cSh) [.ref h_this, .int p1, .int p2] (kWX0_word cB cI cL cBB cII cSh h_this a_this r_this_slots this_tapeSize f_this_sizes m_this_slots) sz) (kb_QX D kCl (kb_T cB cI cL cBB cII cSh) (va_A (kWX0_word cB cI cL cBB cII cSh h_this a_this r_this_slots this_tapeSize f_this_sizes m_this_slots) sz) out (fun o => (some (.long o))) (fun o => (kWX0_word cB cI cL cBB cII cSh h_this a_this r_this_slots this_tapeSize f_this_sizes m_this_slots))) (kb_XX D kCl (kb_T cB cI cL cBB cII cSh) (va_A (kWX0_word cB cI cL cBB cII cSh h_this a_this r_this_slots this_tapeSize f_this_sizes m_this_slots) sz) out (fun x => (kWX0_word cB cI cL cBB cII cSh h_this a_this r_this_slots this_tapeSize f_this_sizes m_this_slots))) 2 12 (va_A (kWX0_word cB cI cL cBB cII cSh h_this a_this r_this_slots this_tapeSize f_this_sizes m_this_slots) sz) := by
  refine vx_ofW (cc := prog_1_method_8_code) (maxL := 7) (ret := (some .long)) (by decide) rfl ?_
  intro p e s m args below meth c s₁ B hml hno hv
  obtain ⟨⟨rfl, hsz, hP, hK, hN, hD0⟩, hZ⟩ := hv
  have hx := B.exec
  have hb := B.bytes
  have hr := B.returns
  have hts0 := atoms_spec (ws := kwX0_word) B.pre
  have hts : ∀ w ∈ kwA, w.before _ s = true := fun w h => hts0 w (List.mem_cons_of_mem _ h)
  have hown : s.vm.findClass kRX0 = some m.cls := findClass_of_methodNamed B.named
  have hlocks := B.notSynchronized
  subst hsz
  have hD := hD0.self (sz := s.heap.size)
  generalize hAe : va_A (kWX0_word cB cI cL cBB cII cSh h_this a_this r_this_slots this_tapeSize f_this_sizes m_this_slots) s.heap.size = A at hD hZ ⊢
  have hA : ∀ q : Nat, s.heap.size ≤ q → A q := fun q h => by rw [← hAe]; exact Or.inr h
  have hS : va_S A s.heap s.heap [] := va_S.rf
  have C0 : CallFix p m c prog_1_method_8_code 7 s _ kwA kRX0 := ⟨hx, hb, hml, hown, hts⟩
  have hl := lv_entry ([.ref h_this, .int p1, .int p2]) (n := 7) (Nat.le_of_ble_eq_true rfl)
  rw [lg_entry_eq]
  generalize (lg_sl ([.ref h_this, .int p1, .int p2]) ++ List.replicate (7 - (lg_sl ([.ref h_this, .int p1, .int p2])).length) Slot.unset).toArray = ls at hl ⊢
  have hl : lv_has ls 7 [(0, .ref h_this), (1, .int p1), (2, .int p2)] := hl
  unfold kFX0_word at h
  refine lv_iload_n hx hb kdX0_word_0 rfl (lv_at hl 1 rfl) ?_
  obtain ⟨u_1, hu_1, h⟩ := kb_o_s h
  have hC := (show ([] : List Nat).map (fun i : Nat => (kWX0_word cB cI cL cBB cII cSh h_this a_this r_this_slots this_tapeSize f_this_sizes m_this_slots)[i]?) = List.map some (kWX0_checkSlot cB cI cL cBB cII cSh) from rfl)
  have hPc := kb_Psub hP ([] : List Nat) hC
  have hDc := kb_Dsub hD ([] : List Nat) hC (by simp [kb_nd])
  have hC2 : ([] : List Nat).map (fun i : Nat => (kWX0_word cB cI cL cBB cII cSh h_this a_this r_this_slots this_tapeSize f_this_sizes m_this_slots)[i]?) = (kb_pick [] (kWX0_checkSlot cB cI cL cBB cII cSh)).map some := rfl
  refine kb_callx (vx_runS (As := [.int p1]) (rest := []) C0 (kcX0_checkSlot l hl9 D cB cI cL cBB cII cSh  _ p1 u_1 hu_1) (va_cwS 1 hts (kb_gS km_267 km_268 km_1 km_269) rfl rfl rfl (by decide +kernel) ⟨Nat.le_of_ble_eq_true rfl, Nat.le_of_ble_eq_true rfl⟩) ⟨kb_PX_bl, (fun U hU hW => ⟨⟨rfl, by rw [hU], by rw [hU]; exact hPc, va_K.moved hW.alike hK, kb_N_to hW hN, hDc.weaken (fun _ _ _ _ => trivial)⟩, kb_Z_to hZ hS (va_free (wc := (kWX0_checkSlot cB cI cL cBB cII cSh)) hD hS hA ([] : List Nat) hC) hU hW⟩)⟩ rfl rfl hl.1 rfl (lv_room (Nat.le_of_ble_eq_true rfl)) kdX0_word_1 ⟨Nat.le_of_ble_eq_true rfl, Nat.le_of_ble_eq_true rfl⟩) hP hD hS hA [] [] [] hC2 rfl rfl (by simp [kb_nd]) (fun _ => rfl) (fun _ => rfl) (fun x ce q H locs eu hP hD hS hce hcv hcl => ?_) (fun o H locs eu hP hD hS => ?_)
  · subst eu
    have h := kb_s_ir h
    have hP : va_P D kCl (kWX0_word cB cI cL cBB cII cSh h_this a_this r_this_slots this_tapeSize f_this_sizes m_this_slots) H := hP
    have hD : va_D A (kWX0_word cB cI cL cBB cII cSh h_this a_this r_this_slots this_tapeSize f_this_sizes m_this_slots) := hD
    obtain rfl := Option.some.inj h
    exact vx_out (E := x.1) (fun x hx9 => (hno x hx9).elim) hlocks hce hcv hcl (fun t ht ha => ⟨_, rfl, by rw [ht]; exact hP, va_K.moved ha hK, hD, hS.F ht⟩) hS.2.2 (by decide) (by decide)
  · subst eu
    have h := kb_s_il h
    have hP : va_P D kCl (kWX0_word cB cI cL cBB cII cSh h_this a_this r_this_slots this_tapeSize f_this_sizes m_this_slots) H := hP
    have hD : va_D A (kWX0_word cB cI cL cBB cII cSh h_this a_this r_this_slots this_tapeSize f_this_sizes m_this_slots) := hD
    refine lv_aload_n hx hb kdX0_word_4 rfl (lv_at hl 0 rfl) ?_
    refine lv_iload_n hx hb kdX0_word_5 rfl (lv_at hl 1 rfl) ?_
    refine lv_iload_n hx hb kdX0_word_6 rfl (lv_at hl 2 rfl) ?_
    obtain ⟨u_2, hu_2, h⟩ := kb_o_s h
    have hC := (show ([0, 2] : List Nat).map (fun i : Nat => (kWX0_word cB cI cL cBB cII cSh h_this a_this r_this_slots this_tapeSize f_this_sizes m_this_slots)[i]?) = List.map some (kWX0_checkPlace cB cI cL cBB cII cSh h_this a_this this_tapeSize f_this_sizes) from rfl)
    have hPc := kb_Psub hP ([0, 2] : List Nat) hC
    have hDc := kb_Dsub hD ([0, 2] : List Nat) hC (by simp [kb_nd])
    have hC2 : ([0, 2] : List Nat).map (fun i : Nat => (kWX0_word cB cI cL cBB cII cSh h_this a_this r_this_slots this_tapeSize f_this_sizes m_this_slots)[i]?) = (kb_pick [0, 1] (kWX0_checkPlace cB cI cL cBB cII cSh h_this a_this this_tapeSize f_this_sizes)).map some := rfl
    refine kb_callx (vx_runV (As := [.int p1, .int p2]) (rest := []) C0 (kcX0_checkPlace l hl9 D cB cI cL cBB cII cSh h_this a_this _ p1 p2 this_tapeSize f_this_sizes u_2 hu_2) (cwV 2 hts (kb_gV km_316 km_318 kp_12 km_1 km_319) rfl rfl rfl (by decide +kernel) ⟨Nat.le_of_ble_eq_true rfl, Nat.le_of_ble_eq_true rfl⟩) ⟨kb_PX_bl, va_recv hK hP (ci := 0) (q0 := 0) rfl rfl, (fun U hU hW => ⟨⟨rfl, by rw [hU], by rw [hU]; exact hPc, va_K.moved hW.alike hK, kb_N_to hW hN, hDc.weaken (fun _ _ _ _ => trivial)⟩, kb_Z_to hZ hS (va_free (wc := (kWX0_checkPlace cB cI cL cBB cII cSh h_this a_this this_tapeSize f_this_sizes)) hD hS hA ([0, 2] : List Nat) hC) hU hW⟩)⟩ rfl rfl hl.1 rfl (lv_room (Nat.le_of_ble_eq_true rfl)) kdX0_word_7 ⟨Nat.le_of_ble_eq_true rfl, Nat.le_of_ble_eq_true rfl⟩) hP hD hS hA [0, 2] [0, 1] [0, 1] hC2 rfl rfl (by simp [kb_nd]) (fun _ => rfl) (fun _ => rfl) (fun x ce q H locs eu hP hD hS hce hcv hcl => ?_) (fun o H locs eu hP hD hS => ?_)
    · subst eu
      have h := kb_s_ir h
      have hP : va_P D kCl (kWX0_word cB cI cL cBB cII cSh h_this a_this r_this_slots this_tapeSize f_this_sizes m_this_slots) H := hP
      have hD : va_D A (kWX0_word cB cI cL cBB cII cSh h_this a_this r_this_slots this_tapeSize f_this_sizes m_this_slots) := hD
      obtain rfl := Option.some.inj h
      exact vx_out (E := x.1) (fun x hx9 => (hno x hx9).elim) hlocks hce hcv hcl (fun t ht ha => ⟨_, rfl, by rw [ht]; exact hP, va_K.moved ha hK, hD, hS.F ht⟩) hS.2.2 (by decide) (by decide)
    · subst eu
      have h := kb_s_il h
      have hP : va_P D kCl (kWX0_word cB cI cL cBB cII cSh h_this a_this r_this_slots this_tapeSize f_this_sizes m_this_slots) H := hP
      have hD : va_D A (kWX0_word cB cI cL cBB cII cSh h_this a_this r_this_slots this_tapeSize f_this_sizes m_this_slots) := hD
      refine lv_lconst (v := 0) hx hb kdX0_word_10 (by decide) ?_
      refine lv_lstore_n (lv' := [(3, .long (0 : Int64)), (0, .ref h_this), (1, .int p1), (2, .int p2)]) hx hb kdX0_word_11 rfl hl (by decide) rfl (fun ls hl => ?_)
      refine lv_iload_n hx hb kdX0_word_12 rfl (lv_at hl 3 rfl) ?_
      refine lv_istore (lv' := [(5, .int p2), (3, .long (0 : Int64)), (0, .ref h_this), (1, .int p1), (2, .int p2)]) hx hb kdX0_word_13 hl (by decide) rfl (fun ls hl => ?_)
      obtain ⟨r_15, hr_15, h⟩ := kb_o_s h
      refine klX0_word_15 C0 hlocks hK hN hA (by decide) (by decide) h_this a_this r_this_slots p1 p2 this_tapeSize f_this_sizes m_this_slots 100000 (0 : Int64) p2 r_15 hr_15 _ _ _ hP hD hS (lv_sub hl [2, 3, 4, 1, 0] rfl) (fun x3p15_13 x5p15_14 er_15 H locs ls hP hD hS hl => ?_)
      subst er_15
      refine lv_lload_n hx hb kdX0_word_69 rfl (lv_at hl 3 rfl) ?_
      obtain rfl := Option.some.inj h
      refine vx_ret ?_
      refine W.widen (k := 2) (n := 12) (by decide) (by decide) ?_
      exact W.lret (v := x3p15_13) hx hb hr (fun t ht hW => ⟨_, rfl, ⟨rfl, by rw [ht]; exact hP, va_K.moved hW.alike hK, hD⟩, hS.F ht⟩) hS.2.2 kdX0_word_70

-- 478.ModuleKem.same.lean.txt
abbrev kWX0_same (cB cI cL cBB cII cSh : ClassId) (h_this : Nat) (a_this : Nat → Nat) (r_this_slots : Nat → Nat) (this_tapeSize : Int32) (f_this_sizes : Nat → Int32) (m_this_slots : Nat → Nat → Int32) : va_W := ([(h_this, koX0 a_this this_tapeSize), ((a_this 0), .inl (cBB, 8, .inr (.inr (.inr (.inr (kb_rf r_this_slots 8)))))), ((a_this 1), .inl (cI, 8, .inl f_this_sizes))] ++ (kb_gw r_this_slots 8 (fun i => .inl (cB, 8192, .inl (m_this_slots i))) ++ []))
def krX0_same : Room := { frames := 7, cells := 2, slots := 12, locals := 110 }
set_option maxHeartbeats 4000000 in
set_option maxRecDepth 100000 in
theorem kcX0_same (l : Launch) (hl9 : l.stackTraces = false) (D : va_G) (cB cI cL cBB cII cSh : ClassId) (h_this : Nat) (a_this r_this_slots : Nat → Nat) (sz : Nat) (p1 : Int32) (p2 : Int32) (this_tapeSize : Int32) (f_this_sizes : Nat → Int32) (m_this_slots : Nat → Nat → Int32) (out : (Int32) ⊕ (String × (Unit))) (h : kFX0_same p1 p2 f_this_sizes m_this_slots = some out) : vx_Met l kyX0_same kwX0_same krX0_same (kb_PX D kCl (kb_T cB cI cL cBB cII cSh) [.ref h_this, .int p1, .int p2] (kWX0_same cB cI cL cBB cII cSh h_this a_this r_this_slots this_tapeSize f_this_sizes m_this_slots) sz) (kb_QX D kCl (kb_T cB cI cL cBB cII cSh) (va_A (kWX0_same cB cI cL cBB cII cSh h_this a_this r_this_slots this_tapeSize f_this_sizes m_this_slots) sz) out (fun o => (some (.int o))) (fun o => (kWX0_same cB cI cL cBB cII cSh h_this a_this r_this_slots this_tapeSize f_this_sizes m_this_slots))) (kb_XX D kCl (kb_T cB cI cL cBB cII cSh) (va_A (kWX0_same cB cI cL cBB cII cSh h_this a_this r_this_slots this_tapeSize f_this_sizes m_this_slots) sz) out (fun x => (kWX0_same cB cI cL cBB cII cSh h_this a_this r_this_slots this_tapeSize f_this_sizes m_this_slots))) 2 12 (va_A (kWX0_same cB cI cL cBB cII cSh h_this a_this r_this_slots this_tapeSize f_this_sizes m_this_slots) sz) := by
  refine vx_ofW (cc := prog_1_method_9_code) (maxL := 3) (ret := (some .boolean)) (by decide) rfl ?_
  intro p e s m args below meth c s₁ B hml hno hv
  obtain ⟨⟨rfl, hsz, hP, hK, hN, hD0⟩, hZ⟩ := hv
  have hx := B.exec
  have hb := B.bytes
  have hr := B.returns
  have hts0 := atoms_spec (ws := kwX0_same) B.pre
  have hts : ∀ w ∈ kwA, w.before _ s = true := fun w h => hts0 w (List.mem_cons_of_mem _ h)
  have hown : s.vm.findClass kRX0 = some m.cls := findClass_of_methodNamed B.named
  have hlocks := B.notSynchronized
  subst hsz
  have hD := hD0.self (sz := s.heap.size)
  generalize hAe : va_A (kWX0_same cB cI cL cBB cII cSh h_this a_this r_this_slots this_tapeSize f_this_sizes m_this_slots) s.heap.size = A at hD hZ ⊢
  have hA : ∀ q : Nat, s.heap.size ≤ q → A q := fun q h => by rw [← hAe]; exact Or.inr h
  have hS : va_S A s.heap s.heap [] := va_S.rf
  have C0 : CallFix p m c prog_1_method_9_code 3 s _ kwA kRX0 := ⟨hx, hb, hml, hown, hts⟩
  have hl := lv_entry ([.ref h_this, .int p1, .int p2]) (n := 3) (Nat.le_of_ble_eq_true rfl)
  rw [lg_entry_eq]
  generalize (lg_sl ([.ref h_this, .int p1, .int p2]) ++ List.replicate (3 - (lg_sl ([.ref h_this, .int p1, .int p2])).length) Slot.unset).toArray = ls at hl ⊢
  have hl : lv_has ls 3 [(0, .ref h_this), (1, .int p1), (2, .int p2)] := hl
  unfold kFX0_same at h
  refine lv_iload_n hx hb kdX0_same_0 rfl (lv_at hl 1 rfl) ?_
  obtain ⟨u_1, hu_1, h⟩ := kb_o_s h
  have hC := (show ([] : List Nat).map (fun i : Nat => (kWX0_same cB cI cL cBB cII cSh h_this a_this r_this_slots this_tapeSize f_this_sizes m_this_slots)[i]?) = List.map some (kWX0_checkSlot cB cI cL cBB cII cSh) from rfl)
  have hPc := kb_Psub hP ([] : List Nat) hC
  have hDc := kb_Dsub hD ([] : List Nat) hC (by simp [kb_nd])
  have hC2 : ([] : List Nat).map (fun i : Nat => (kWX0_same cB cI cL cBB cII cSh h_this a_this r_this_slots this_tapeSize f_this_sizes m_this_slots)[i]?) = (kb_pick [] (kWX0_checkSlot cB cI cL cBB cII cSh)).map some := rfl
  refine kb_callx (vx_runS (As := [.int p1]) (rest := []) C0 (kcX0_checkSlot l hl9 D cB cI cL cBB cII cSh  _ p1 u_1 hu_1) (va_cwS 1 hts (kb_gS km_267 km_268 km_1 km_269) rfl rfl rfl (by decide +kernel) ⟨Nat.le_of_ble_eq_true rfl, Nat.le_of_ble_eq_true rfl⟩) ⟨kb_PX_bl, (fun U hU hW => ⟨⟨rfl, by rw [hU], by rw [hU]; exact hPc, va_K.moved hW.alike hK, kb_N_to hW hN, hDc.weaken (fun _ _ _ _ => trivial)⟩, kb_Z_to hZ hS (va_free (wc := (kWX0_checkSlot cB cI cL cBB cII cSh)) hD hS hA ([] : List Nat) hC) hU hW⟩)⟩ rfl rfl hl.1 rfl (lv_room (Nat.le_of_ble_eq_true rfl)) kdX0_same_1 ⟨Nat.le_of_ble_eq_true rfl, Nat.le_of_ble_eq_true rfl⟩) hP hD hS hA [] [] [] hC2 rfl rfl (by simp [kb_nd]) (fun _ => rfl) (fun _ => rfl) (fun x ce q H locs eu hP hD hS hce hcv hcl => ?_) (fun o H locs eu hP hD hS => ?_)
  · subst eu
    have h := kb_s_ir h
    have hP : va_P D kCl (kWX0_same cB cI cL cBB cII cSh h_this a_this r_this_slots this_tapeSize f_this_sizes m_this_slots) H := hP
    have hD : va_D A (kWX0_same cB cI cL cBB cII cSh h_this a_this r_this_slots this_tapeSize f_this_sizes m_this_slots) := hD
    obtain rfl := Option.some.inj h
    exact vx_out (E := x.1) (fun x hx9 => (hno x hx9).elim) hlocks hce hcv hcl (fun t ht ha => ⟨_, rfl, by rw [ht]; exact hP, va_K.moved ha hK, hD, hS.F ht⟩) hS.2.2 (by decide) (by decide)
  · subst eu
    have h := kb_s_il h
    have hP : va_P D kCl (kWX0_same cB cI cL cBB cII cSh h_this a_this r_this_slots this_tapeSize f_this_sizes m_this_slots) H := hP
    have hD : va_D A (kWX0_same cB cI cL cBB cII cSh h_this a_this r_this_slots this_tapeSize f_this_sizes m_this_slots) := hD
    refine lv_iload_n hx hb kdX0_same_4 rfl (lv_at hl 2 rfl) ?_
    obtain ⟨u_2, hu_2, h⟩ := kb_o_s h
    have hC := (show ([] : List Nat).map (fun i : Nat => (kWX0_same cB cI cL cBB cII cSh h_this a_this r_this_slots this_tapeSize f_this_sizes m_this_slots)[i]?) = List.map some (kWX0_checkSlot cB cI cL cBB cII cSh) from rfl)
    have hPc := kb_Psub hP ([] : List Nat) hC
    have hDc := kb_Dsub hD ([] : List Nat) hC (by simp [kb_nd])
    have hC2 : ([] : List Nat).map (fun i : Nat => (kWX0_same cB cI cL cBB cII cSh h_this a_this r_this_slots this_tapeSize f_this_sizes m_this_slots)[i]?) = (kb_pick [] (kWX0_checkSlot cB cI cL cBB cII cSh)).map some := rfl
    refine kb_callx (vx_runS (As := [.int p2]) (rest := []) C0 (kcX0_checkSlot l hl9 D cB cI cL cBB cII cSh  _ p2 u_2 hu_2) (va_cwS 1 hts (kb_gS km_267 km_268 km_1 km_269) rfl rfl rfl (by decide +kernel) ⟨Nat.le_of_ble_eq_true rfl, Nat.le_of_ble_eq_true rfl⟩) ⟨kb_PX_bl, (fun U hU hW => ⟨⟨rfl, by rw [hU], by rw [hU]; exact hPc, va_K.moved hW.alike hK, kb_N_to hW hN, hDc.weaken (fun _ _ _ _ => trivial)⟩, kb_Z_to hZ hS (va_free (wc := (kWX0_checkSlot cB cI cL cBB cII cSh)) hD hS hA ([] : List Nat) hC) hU hW⟩)⟩ rfl rfl hl.1 rfl (lv_room (Nat.le_of_ble_eq_true rfl)) kdX0_same_5 ⟨Nat.le_of_ble_eq_true rfl, Nat.le_of_ble_eq_true rfl⟩) hP hD hS hA [] [] [] hC2 rfl rfl (by simp [kb_nd]) (fun _ => rfl) (fun _ => rfl) (fun x ce q H locs eu hP hD hS hce hcv hcl => ?_) (fun o H locs eu hP hD hS => ?_)
    · subst eu
      have h := kb_s_ir h
      have hP : va_P D kCl (kWX0_same cB cI cL cBB cII cSh h_this a_this r_this_slots this_tapeSize f_this_sizes m_this_slots) H := hP
      have hD : va_D A (kWX0_same cB cI cL cBB cII cSh h_this a_this r_this_slots this_tapeSize f_this_sizes m_this_slots) := hD
      obtain rfl := Option.some.inj h
      exact vx_out (E := x.1) (fun x hx9 => (hno x hx9).elim) hlocks hce hcv hcl (fun t ht ha => ⟨_, rfl, by rw [ht]; exact hP, va_K.moved ha hK, hD, hS.F ht⟩) hS.2.2 (by decide) (by decide)
    · subst eu
      have h := kb_s_il h
      have hP : va_P D kCl (kWX0_same cB cI cL cBB cII cSh h_this a_this r_this_slots this_tapeSize f_this_sizes m_this_slots) H := hP
      have hD : va_D A (kWX0_same cB cI cL cBB cII cSh h_this a_this r_this_slots this_tapeSize f_this_sizes m_this_slots) := hD
      refine lv_aload_n hx hb kdX0_same_8 rfl (lv_at hl 0 rfl) ?_
      refine va_get (ci := 0) (v := .ref (a_this 1)) (C := kRX0) (T := kTX0) (N := 6) hx hb hts kinX0 hown hK hP 0 rfl rfl 1 (by decide) (hts _ km_160) (fun _ h9 => h9) rfl kdX0_same_9 ?_
      refine lv_iload_n hx hb kdX0_same_12 rfl (lv_at hl 1 rfl) ?_
      obtain ⟨g_3, h⟩ := kb_g_s h
      refine va_iald hx hb hK hP 2 1 rfl rfl (kb_in_v g_3) kdX0_same_13 ?_
      refine lv_aload_n hx hb kdX0_same_14 rfl (lv_at hl 0 rfl) ?_
      refine va_get (ci := 0) (v := .ref (a_this 1)) (C := kRX0) (T := kTX0) (N := 6) hx hb hts kinX0 hown hK hP 0 rfl rfl 1 (by decide) (hts _ km_160) (fun _ h9 => h9) rfl kdX0_same_15 ?_
      refine lv_iload_n hx hb kdX0_same_18 rfl (lv_at hl 2 rfl) ?_
      obtain ⟨g_4, h⟩ := kb_g_s h
      refine va_iald hx hb hK hP 2 1 rfl rfl (kb_in_v g_4) kdX0_same_19 ?_
      refine lv_icmp_ne (tgt := 52) hx hb kdX0_same_20 (by decide) (fun c_5 => ?_) (fun c_5 => ?_)
      · have h := kb_b_f c_5 h
        refine lv_iconst (v := 0) hx hb kdX0_same_52 (by decide) ?_
        obtain rfl := Option.some.inj h
        refine vx_ret ?_
        refine W.widen (k := 2) (n := 12) (by decide) (by decide) ?_
        exact W.zret (v := (0 : Int32)) (ty := .boolean) hx hb hr (by decide) (fun t ht hW => ⟨_, rfl, ⟨rfl, by rw [ht]; exact hP, va_K.moved hW.alike hK, hD⟩, hS.F ht⟩) hS.2.2 kdX0_same_53
      · have h := kb_b_t c_5 h
        refine lv_aload_n hx hb kdX0_same_23 rfl (lv_at hl 0 rfl) ?_
        refine va_get (ci := 0) (v := .ref (a_this 0)) (C := kRX0) (T := kTX0) (N := 6) hx hb hts kinX0 hown hK hP 0 rfl rfl 0 (by decide) (hts _ km_159) (fun _ h9 => h9) rfl kdX0_same_24 ?_
        refine lv_iload_n hx hb kdX0_same_27 rfl (lv_at hl 1 rfl) ?_
        obtain ⟨g_6, h⟩ := kb_g_s h
        refine kb_aald (j := p1.toNatClampNeg) hx hb hK hP 1 3 rfl rfl rfl rfl (kb_in_v g_6) kdX0_same_28 ?_
        refine lv_iconst (v := 0) hx hb kdX0_same_29 (by decide) ?_
        refine lv_aload_n hx hb kdX0_same_30 rfl (lv_at hl 0 rfl) ?_
        refine va_get (ci := 0) (v := .ref (a_this 0)) (C := kRX0) (T := kTX0) (N := 6) hx hb hts kinX0 hown hK hP 0 rfl rfl 0 (by decide) (hts _ km_159) (fun _ h9 => h9) rfl kdX0_same_31 ?_
        refine lv_iload_n hx hb kdX0_same_34 rfl (lv_at hl 2 rfl) ?_
        obtain ⟨g_7, h⟩ := kb_g_s h
        refine kb_aald (j := p2.toNatClampNeg) hx hb hK hP 1 3 rfl rfl rfl rfl (kb_in_v g_7) kdX0_same_35 ?_
        refine lv_aload_n hx hb kdX0_same_36 rfl (lv_at hl 0 rfl) ?_
        refine va_get (ci := 0) (v := .ref (a_this 1)) (C := kRX0) (T := kTX0) (N := 6) hx hb hts kinX0 hown hK hP 0 rfl rfl 1 (by decide) (hts _ km_160) (fun _ h9 => h9) rfl kdX0_same_37 ?_
        refine lv_iload_n hx hb kdX0_same_40 rfl (lv_at hl 1 rfl) ?_
        obtain ⟨g_8, h⟩ := kb_g_s h
        refine va_iald hx hb hK hP 2 1 rfl rfl (kb_in_v g_8) kdX0_same_41 ?_
        by_cases c_9 : p1.toNatClampNeg = p2.toNatClampNeg
        · have h := kb_b_t c_9 h
          rw [← c_9]
          obtain ⟨u_11, hu_11, h⟩ := kb_o_s h
          obtain ⟨r_10, rfl⟩ : ∃ z, z = u_11 := ⟨_, rfl⟩
          have hC := (show ([(3 + p1.toNatClampNeg)] : List Nat).map (fun i : Nat => (kWX0_same cB cI cL cBB cII cSh h_this a_this r_this_slots this_tapeSize f_this_sizes m_this_slots)[i]?) = List.map some (kWX0_startAlikeS cB cI cL cBB cII cSh (r_this_slots p1.toNatClampNeg) 8192 (m_this_slots p1.toNatClampNeg)) from (kb_c (kb_pl_r rfl (kb_pl_l (kb_gw_at (kb_in_lt g_6)))) rfl))
          have hPc := kb_Psub hP ([(3 + p1.toNatClampNeg)] : List Nat) hC
          have hDc := kb_Dsub hD ([(3 + p1.toNatClampNeg)] : List Nat) hC (by simp [kb_nd] <;> omega)
          have hC2 : ([(3 + p1.toNatClampNeg)] : List Nat).map (fun i : Nat => (kWX0_same cB cI cL cBB cII cSh h_this a_this r_this_slots this_tapeSize f_this_sizes m_this_slots)[i]?) = (kb_pick [0] (kWX0_startAlikeS cB cI cL cBB cII cSh (r_this_slots p1.toNatClampNeg) 8192 (m_this_slots p1.toNatClampNeg))).map some := (kb_c (kb_pl_r rfl (kb_pl_l (kb_gw_at (kb_in_lt g_6)))) rfl)
          refine kb_callp (va_runS (As := [.ref (r_this_slots p1.toNatClampNeg), .int (0 : Int32), .ref (r_this_slots p1.toNatClampNeg), .int (f_this_sizes p1.toNatClampNeg)]) (rest := []) C0 (kcX0_startAlikeS l D cB cI cL cBB cII cSh (r_this_slots p1.toNatClampNeg) _ (0 : Int32) (f_this_sizes p1.toNatClampNeg) 8192 (m_this_slots p1.toNatClampNeg) r_10 hu_11) (va_cwS 4 hts (kb_gS km_342 km_343 km_1 km_344) rfl rfl rfl (by decide +kernel) ⟨Nat.le_of_ble_eq_true rfl, Nat.le_of_ble_eq_true rfl⟩) ⟨kb_P_bl, (fun U hU hW => ⟨rfl, by rw [hU], by rw [hU]; exact hPc, va_K.moved hW.alike hK, kb_N_to hW hN, hDc.weaken (fun _ _ _ _ => trivial)⟩)⟩ rfl rfl hl.1 rfl (lv_room (Nat.le_of_ble_eq_true rfl)) kdX0_same_42 ⟨Nat.le_of_ble_eq_true rfl, Nat.le_of_ble_eq_true rfl⟩) hP hD hS hA [(3 + p1.toNatClampNeg)] [0] [0] hC2 rfl rfl (by simp [kb_nd]) rfl (fun H locs hP hD hS => ?_)
          have hP : va_P D kCl (kb_put (kWX0_same cB cI cL cBB cII cSh h_this a_this r_this_slots this_tapeSize f_this_sizes m_this_slots) [(3 + p1.toNatClampNeg)] [(r_this_slots p1.toNatClampNeg, .inl (cB, 8192, .inl (m_this_slots p1.toNatClampNeg)))]) H := hP
          have hD : va_D A (kb_put (kWX0_same cB cI cL cBB cII cSh h_this a_this r_this_slots this_tapeSize f_this_sizes m_this_slots) [(3 + p1.toNatClampNeg)] [(r_this_slots p1.toNatClampNeg, .inl (cB, 8192, .inl (m_this_slots p1.toNatClampNeg)))]) := hD
          have eW_12 : (kWX0_same cB cI cL cBB cII cSh h_this a_this r_this_slots this_tapeSize f_this_sizes m_this_slots).set (3 + p1.toNatClampNeg) (r_this_slots p1.toNatClampNeg, .inl (cB, 8192, .inl (m_this_slots p1.toNatClampNeg))) = (kWX0_same cB cI cL cBB cII cSh h_this a_this r_this_slots this_tapeSize f_this_sizes m_this_slots) := kb_same (kb_pl_r rfl (kb_pl_l (kb_gw_at (kb_in_lt g_6))))
          have hP : va_P D kCl (kWX0_same cB cI cL cBB cII cSh h_this a_this r_this_slots this_tapeSize f_this_sizes m_this_slots) H := by rw [kb_put_c, eW_12, kb_put_n] at hP; exact hP
          have hD : va_D A (kWX0_same cB cI cL cBB cII cSh h_this a_this r_this_slots this_tapeSize f_this_sizes m_this_slots) := by rw [kb_put_c, eW_12, kb_put_n] at hD; exact hD
          refine lv_if_eq (tgt := 52) hx hb kdX0_same_45 (by decide) (fun c_13 => ?_) (fun c_13 => ?_)
          · have h := kb_b_t c_13 h
            refine lv_iconst (v := 0) hx hb kdX0_same_52 (by decide) ?_
            obtain rfl := Option.some.inj h
            refine vx_ret ?_
            refine W.widen (k := 2) (n := 12) (by decide) (by decide) ?_
            exact W.zret (v := (0 : Int32)) (ty := .boolean) hx hb hr (by decide) (fun t ht hW => ⟨_, rfl, ⟨rfl, by rw [ht]; exact hP, va_K.moved hW.alike hK, hD⟩, hS.F ht⟩) hS.2.2 kdX0_same_53
          · have h := kb_b_f c_13 h
            refine lv_iconst (v := 1) hx hb kdX0_same_48 (by decide) ?_
            refine lv_goto (tgt := 53) hx hb kdX0_same_49 (by decide) ?_
            obtain rfl := Option.some.inj h
            refine vx_ret ?_
            refine W.widen (k := 2) (n := 12) (by decide) (by decide) ?_
            exact W.zret (v := (1 : Int32)) (ty := .boolean) hx hb hr (by decide) (fun t ht hW => ⟨_, rfl, ⟨rfl, by rw [ht]; exact hP, va_K.moved hW.alike hK, hD⟩, hS.F ht⟩) hS.2.2 kdX0_same_53
        · have h := kb_b_f c_9 h
          obtain ⟨g_14, h⟩ := kb_g_s h
          obtain ⟨u_16, hu_16, h⟩ := kb_o_s h
          obtain ⟨r_15, rfl⟩ : ∃ z, z = u_16 := ⟨_, rfl⟩
          have qg_14 := of_decide_eq_true g_14
          have hC := (show ([(3 + p1.toNatClampNeg), (3 + p2.toNatClampNeg)] : List Nat).map (fun i : Nat => (kWX0_same cB cI cL cBB cII cSh h_this a_this r_this_slots this_tapeSize f_this_sizes m_this_slots)[i]?) = List.map some (kWX0_startAlike cB cI cL cBB cII cSh (r_this_slots p1.toNatClampNeg) 8192 (r_this_slots p2.toNatClampNeg) 8192 (m_this_slots p1.toNatClampNeg) (m_this_slots p2.toNatClampNeg)) from (kb_c (kb_pl_r rfl (kb_pl_l (kb_gw_at (kb_in_lt g_6)))) (kb_c (kb_pl_r rfl (kb_pl_l (kb_gw_at (kb_in_lt g_7)))) rfl)))
          have hPc := kb_Psub hP ([(3 + p1.toNatClampNeg), (3 + p2.toNatClampNeg)] : List Nat) hC
          have hDc := kb_Dsub hD ([(3 + p1.toNatClampNeg), (3 + p2.toNatClampNeg)] : List Nat) hC (by simp [kb_nd] <;> omega)
          have hC2 : ([(3 + p1.toNatClampNeg), (3 + p2.toNatClampNeg)] : List Nat).map (fun i : Nat => (kWX0_same cB cI cL cBB cII cSh h_this a_this r_this_slots this_tapeSize f_this_sizes m_this_slots)[i]?) = (kb_pick [0, 1] (kWX0_startAlike cB cI cL cBB cII cSh (r_this_slots p1.toNatClampNeg) 8192 (r_this_slots p2.toNatClampNeg) 8192 (m_this_slots p1.toNatClampNeg) (m_this_slots p2.toNatClampNeg))).map some := (kb_c (kb_pl_r rfl (kb_pl_l (kb_gw_at (kb_in_lt g_6)))) (kb_c (kb_pl_r rfl (kb_pl_l (kb_gw_at (kb_in_lt g_7)))) rfl))
          refine kb_callp (va_runS (As := [.ref (r_this_slots p1.toNatClampNeg), .int (0 : Int32), .ref (r_this_slots p2.toNatClampNeg), .int (f_this_sizes p1.toNatClampNeg)]) (rest := []) C0 (kcX0_startAlike l D cB cI cL cBB cII cSh (r_this_slots p1.toNatClampNeg) (r_this_slots p2.toNatClampNeg) _ (0 : Int32) (f_this_sizes p1.toNatClampNeg) 8192 8192 (m_this_slots p1.toNatClampNeg) (m_this_slots p2.toNatClampNeg) r_15 hu_16) (va_cwS 4 hts (kb_gS km_342 km_343 km_1 km_344) rfl rfl rfl (by decide +kernel) ⟨Nat.le_of_ble_eq_true rfl, Nat.le_of_ble_eq_true rfl⟩) ⟨kb_P_bl, (fun U hU hW => ⟨rfl, by rw [hU], by rw [hU]; exact hPc, va_K.moved hW.alike hK, kb_N_to hW hN, hDc.weaken (fun _ _ _ _ => trivial)⟩)⟩ rfl rfl hl.1 rfl (lv_room (Nat.le_of_ble_eq_true rfl)) kdX0_same_42 ⟨Nat.le_of_ble_eq_true rfl, Nat.le_of_ble_eq_true rfl⟩) hP hD hS hA [(3 + p1.toNatClampNeg), (3 + p2.toNatClampNeg)] [0, 1] [0, 1] hC2 rfl rfl (by simp [kb_nd]) rfl (fun H locs hP hD hS => ?_)
          have hP : va_P D kCl (kb_put (kWX0_same cB cI cL cBB cII cSh h_this a_this r_this_slots this_tapeSize f_this_sizes m_this_slots) [(3 + p1.toNatClampNeg), (3 + p2.toNatClampNeg)] [(r_this_slots p1.toNatClampNeg, .inl (cB, 8192, .inl (m_this_slots p1.toNatClampNeg))), (r_this_slots p2.toNatClampNeg, .inl (cB, 8192, .inl (m_this_slots p2.toNatClampNeg)))]) H := hP
          have hD : va_D A (kb_put (kWX0_same cB cI cL cBB cII cSh h_this a_this r_this_slots this_tapeSize f_this_sizes m_this_slots) [(3 + p1.toNatClampNeg), (3 + p2.toNatClampNeg)] [(r_this_slots p1.toNatClampNeg, .inl (cB, 8192, .inl (m_this_slots p1.toNatClampNeg))), (r_this_slots p2.toNatClampNeg, .inl (cB, 8192, .inl (m_this_slots p2.toNatClampNeg)))]) := hD
          have eW_17 : (kWX0_same cB cI cL cBB cII cSh h_this a_this r_this_slots this_tapeSize f_this_sizes m_this_slots).set (3 + p1.toNatClampNeg) (r_this_slots p1.toNatClampNeg, .inl (cB, 8192, .inl (m_this_slots p1.toNatClampNeg))) = (kWX0_same cB cI cL cBB cII cSh h_this a_this r_this_slots this_tapeSize f_this_sizes m_this_slots) := kb_same (kb_pl_r rfl (kb_pl_l (kb_gw_at (kb_in_lt g_6))))
          have hP : va_P D kCl (kb_put (kWX0_same cB cI cL cBB cII cSh h_this a_this r_this_slots this_tapeSize f_this_sizes m_this_slots) [(3 + p2.toNatClampNeg)] [(r_this_slots p2.toNatClampNeg, .inl (cB, 8192, .inl (m_this_slots p2.toNatClampNeg)))]) H := by rw [kb_put_c, eW_17] at hP; exact hP
          have hD : va_D A (kb_put (kWX0_same cB cI cL cBB cII cSh h_this a_this r_this_slots this_tapeSize f_this_sizes m_this_slots) [(3 + p2.toNatClampNeg)] [(r_this_slots p2.toNatClampNeg, .inl (cB, 8192, .inl (m_this_slots p2.toNatClampNeg)))]) := by rw [kb_put_c, eW_17] at hD; exact hD
          have eW_18 : (kWX0_same cB cI cL cBB cII cSh h_this a_this r_this_slots this_tapeSize f_this_sizes m_this_slots).set (3 + p2.toNatClampNeg) (r_this_slots p2.toNatClampNeg, .inl (cB, 8192, .inl (m_this_slots p2.toNatClampNeg))) = (kWX0_same cB cI cL cBB cII cSh h_this a_this r_this_slots this_tapeSize f_this_sizes m_this_slots) := kb_same (kb_pl_r rfl (kb_pl_l (kb_gw_at (kb_in_lt g_7))))
          have hP : va_P D kCl (kWX0_same cB cI cL cBB cII cSh h_this a_this r_this_slots this_tapeSize f_this_sizes m_this_slots) H := by rw [kb_put_c, eW_18, kb_put_n] at hP; exact hP
          have hD : va_D A (kWX0_same cB cI cL cBB cII cSh h_this a_this r_this_slots this_tapeSize f_this_sizes m_this_slots) := by rw [kb_put_c, eW_18, kb_put_n] at hD; exact hD
          refine lv_if_eq (tgt := 52) hx hb kdX0_same_45 (by decide) (fun c_19 => ?_) (fun c_19 => ?_)
          · have h := kb_b_t c_19 h
            refine lv_iconst (v := 0) hx hb kdX0_same_52 (by decide) ?_
            obtain rfl := Option.some.inj h
            refine vx_ret ?_
            refine W.widen (k := 2) (n := 12) (by decide) (by decide) ?_
            exact W.zret (v := (0 : Int32)) (ty := .boolean) hx hb hr (by decide) (fun t ht hW => ⟨_, rfl, ⟨rfl, by rw [ht]; exact hP, va_K.moved hW.alike hK, hD⟩, hS.F ht⟩) hS.2.2 kdX0_same_53
          · have h := kb_b_f c_19 h
            refine lv_iconst (v := 1) hx hb kdX0_same_48 (by decide) ?_
            refine lv_goto (tgt := 53) hx hb kdX0_same_49 (by decide) ?_
            obtain rfl := Option.some.inj h
            refine vx_ret ?_
            refine W.widen (k := 2) (n := 12) (by decide) (by decide) ?_
            exact W.zret (v := (1 : Int32)) (ty := .boolean) hx hb hr (by decide) (fun t ht hW => ⟨_, rfl, ⟨rfl, by rw [ht]; exact hP, va_K.moved hW.alike hK, hD⟩, hS.F ht⟩) hS.2.2 kdX0_same_53

-- 479.ModuleKemModel.feed.lean.txt
abbrev kWX5_feed (cB cI cL cBB cII cSh : ClassId) (h_this : Nat) (a_this : Nat → Nat) (this_taped : Int32) (this_code : Int32) (this_kind : Int32) (this_rate : Int32) (this_filled : Int32) (this_total : Int64) (this_bitAt : Int32) (this_k : Int32) (this_e1 : Int32) (this_du : Int32) (this_dv : Int32) (f_this_tape : Nat → Int32) : va_W := [(h_this, koX5 a_this this_taped this_code this_kind this_rate this_filled this_total this_bitAt this_k this_e1 this_du this_dv), ((a_this 0), .inl (cB, 8192, .inl f_this_tape))]
def krX5_feed : Room := { frames := 1, cells := 0, slots := 0, locals := 22 }
set_option maxHeartbeats 4000000 in
set_option maxRecDepth 100000 in
theorem kjX5_feed_19 {p : Program} {l : Launch} {e : Env} {s : State} {m : MethodId} {args : Array Value} {below : List Frame} {meth : Method} {c : Code} {D : va_G} {cB cI cL cBB cII cSh : ClassId} {A : Nat → Prop} (C0 : CallFix p m c prog_8_method_5_code 6 s args kwA kRX5) (hlocks : meth.locks = false) (hr : meth.sig.returnType = (some .int)) (hK : va_K D kCl (kb_T cB cI cL cBB cII cSh) s) (hN : kb_N s) (hA : ∀ q, s.heap.size ≤ q → A q) (h_this : Nat) (a_this : Nat → Nat) (x1j19 : Int32) (x2j19 : Int32) (x3j19 : Int32) (x4j19 : Int32) (x5j19 : Int32) (this_tapedj19 : Int32) (this_codej19 : Int32) (this_kind : Int32) (this_rate : Int32) (this_filled : Int32) (this_total : Int64) (this_bitAt : Int32) (this_k : Int32) (this_e1 : Int32) (this_du : Int32) (this_dv : Int32) (f_this_tapej19 : Nat → Int32) (y0j19 : Int32) (out : Int32 × Int32 × Int32 × (Nat → Int32)) (h : kJX5_feed_19 x1j19 x2j19 x3j19 x4j19 x5j19 this_tapedj19 f_this_tapej19 y0j19 = some out) (H : Heap) (locs : List Loc) (ls : Array Slot) (hP : va_P D kCl (kWX5_feed cB cI cL cBB cII cSh h_this a_this this_tapedj19 this_codej19 this_kind this_rate this_filled this_total this_bitAt this_k this_e1 this_du this_dv f_this_tapej19) H) (hD : va_D A (kWX5_feed cB cI cL cBB cII cSh h_this a_this this_tapedj19 this_codej19 this_kind this_rate this_filled this_total this_bitAt this_k this_e1 this_du this_dv f_this_tapej19)) (hS : va_S A s.heap H locs) (hl : lv_has ls 6 [(0, .ref h_this), (1, .int x1j19), (2, .int x2j19), (3, .int x3j19), (4, .int x4j19), (5, .int x5j19)]) : W p l e krX5_feed s m args below meth c H locs 0 0 (MQ below (kb_Q D kCl (kb_T cB cI cL cBB cII cSh) A (some (.int out.1)) (kWX5_feed cB cI cL cBB cII cSh h_this a_this out.2.2.1 out.2.1 this_kind this_rate this_filled this_total this_bitAt this_k this_e1 this_du this_dv out.2.2.2)) args s 0 0 A) (F0 m 19 ls [.int y0j19, .ref h_this]) := by
  obtain ⟨hx, hb, hml, hown, hts⟩ := id C0
  unfold kJX5_feed_19 at h
  refine lv_iconst (v := 1) hx hb kdX5_feed_19 (by decide) ?_
  obtain ⟨u_4, hu_4, h⟩ := kb_o_s h
  obtain ⟨r_2, w_3⟩ := u_4
  have hC := (show ([0] : List Nat).map (fun i : Nat => (kWX5_feed cB cI cL cBB cII cSh h_this a_this this_tapedj19 this_codej19 this_kind this_rate this_filled this_total this_bitAt this_k this_e1 this_du this_dv f_this_tapej19)[i]?) = List.map some (kWX5_good cB cI cL cBB cII cSh h_this a_this this_tapedj19 this_codej19 this_kind this_rate this_filled this_total this_bitAt this_k this_e1 this_du this_dv) from rfl)
  have hPc := kb_Psub hP ([0] : List Nat) hC
  have hDc := kb_Dsub hD ([0] : List Nat) hC (by simp [kb_nd])
  refine kb_call0 (va_runV (As := [.int y0j19, .int (1 : Int32)]) (rest := []) C0 (kcX5_good l D cB cI cL cBB cII cSh h_this a_this _ y0j19 (1 : Int32) this_tapedj19 this_codej19 this_kind this_rate this_filled this_total this_bitAt this_k this_e1 this_du this_dv (r_2, w_3) hu_4) (cwV 2 hts (kb_gV km_795 km_797 kp_0 km_6 km_798) rfl rfl rfl (by decide +kernel) ⟨Nat.le_of_ble_eq_true rfl, Nat.le_of_ble_eq_true rfl⟩) ⟨kb_P_bl, va_recv hK hP (ci := 5) (q0 := 0) rfl rfl, (fun U hU hW => ⟨rfl, by rw [hU], by rw [hU]; exact hPc, va_K.moved hW.alike hK, kb_N_to hW hN, hDc.weaken (fun _ _ _ _ => trivial)⟩)⟩ rfl rfl hl.1 rfl (lv_room (Nat.le_of_ble_eq_true rfl)) kdX5_feed_20 ⟨Nat.le_of_ble_eq_true rfl, Nat.le_of_ble_eq_true rfl⟩) hP hD hS hA ([0] : List Nat) hC rfl (fun H locs hP hD hS => ?_)
  have hP : va_P D kCl (kWX5_feed cB cI cL cBB cII cSh h_this a_this this_tapedj19 w_3 this_kind this_rate this_filled this_total this_bitAt this_k this_e1 this_du this_dv f_this_tapej19) H := hP
  have hD : va_D A (kWX5_feed cB cI cL cBB cII cSh h_this a_this this_tapedj19 w_3 this_kind this_rate this_filled this_total this_bitAt this_k this_e1 this_du this_dv f_this_tapej19) := hD
  refine lv_if_ne (tgt := 28) hx hb kdX5_feed_23 (by decide) (fun c_5 => ?_) (fun c_5 => ?_)
  · have h := kb_b_f c_5 h
    refine lv_aload_n hx hb kdX5_feed_28 rfl (lv_at hl 0 rfl) ?_
    refine lv_iload_n hx hb kdX5_feed_29 rfl (lv_at hl 1 rfl) ?_
    obtain ⟨u_8, hu_8, h⟩ := kb_o_s h
    obtain ⟨w_6, f_7⟩ := u_8
    have hC := (show ([0, 1] : List Nat).map (fun i : Nat => (kWX5_feed cB cI cL cBB cII cSh h_this a_this this_tapedj19 w_3 this_kind this_rate this_filled this_total this_bitAt this_k this_e1 this_du this_dv f_this_tapej19)[i]?) = List.map some (kWX5_word cB cI cL cBB cII cSh h_this a_this this_tapedj19 w_3 this_kind this_rate this_filled this_total this_bitAt this_k this_e1 this_du this_dv f_this_tapej19) from rfl)
    have hPc := kb_Psub hP ([0, 1] : List Nat) hC
    have hDc := kb_Dsub hD ([0, 1] : List Nat) hC (by simp [kb_nd])
    refine kb_call0 (va_runV (As := [.int x1j19]) (rest := []) C0 (kcX5_word l D cB cI cL cBB cII cSh h_this a_this _ x1j19 this_tapedj19 w_3 this_kind this_rate this_filled this_total this_bitAt this_k this_e1 this_du this_dv f_this_tapej19 (w_6, f_7) hu_8) (cwV 1 hts (kb_gV km_799 km_801 kp_15 km_6 km_802) rfl rfl rfl (by decide +kernel) ⟨Nat.le_of_ble_eq_true rfl, Nat.le_of_ble_eq_true rfl⟩) ⟨kb_P_bl, va_recv hK hP (ci := 5) (q0 := 0) rfl rfl, (fun U hU hW => ⟨rfl, by rw [hU], by rw [hU]; exact hPc, va_K.moved hW.alike hK, kb_N_to hW hN, hDc.weaken (fun _ _ _ _ => trivial)⟩)⟩ rfl rfl hl.1 rfl (lv_room (Nat.le_of_ble_eq_true rfl)) kdX5_feed_30 ⟨Nat.le_of_ble_eq_true rfl, Nat.le_of_ble_eq_true rfl⟩) hP hD hS hA ([0, 1] : List Nat) hC rfl (fun H locs hP hD hS => ?_)
    have hP : va_P D kCl (kWX5_feed cB cI cL cBB cII cSh h_this a_this w_6 w_3 this_kind this_rate this_filled this_total this_bitAt this_k this_e1 this_du this_dv f_7) H := hP
    have hD : va_D A (kWX5_feed cB cI cL cBB cII cSh h_this a_this w_6 w_3 this_kind this_rate this_filled this_total this_bitAt this_k this_e1 this_du this_dv f_7) := hD
    refine lv_aload_n hx hb kdX5_feed_33 rfl (lv_at hl 0 rfl) ?_
    refine lv_iload_n hx hb kdX5_feed_34 rfl (lv_at hl 2 rfl) ?_
    obtain ⟨u_11, hu_11, h⟩ := kb_o_s h
    obtain ⟨w_9, f_10⟩ := u_11
    have hC := (show ([0, 1] : List Nat).map (fun i : Nat => (kWX5_feed cB cI cL cBB cII cSh h_this a_this w_6 w_3 this_kind this_rate this_filled this_total this_bitAt this_k this_e1 this_du this_dv f_7)[i]?) = List.map some (kWX5_word cB cI cL cBB cII cSh h_this a_this w_6 w_3 this_kind this_rate this_filled this_total this_bitAt this_k this_e1 this_du this_dv f_7) from rfl)
    have hPc := kb_Psub hP ([0, 1] : List Nat) hC
    have hDc := kb_Dsub hD ([0, 1] : List Nat) hC (by simp [kb_nd])
    refine kb_call0 (va_runV (As := [.int x2j19]) (rest := []) C0 (kcX5_word l D cB cI cL cBB cII cSh h_this a_this _ x2j19 w_6 w_3 this_kind this_rate this_filled this_total this_bitAt this_k this_e1 this_du this_dv f_7 (w_9, f_10) hu_11) (cwV 1 hts (kb_gV km_799 km_801 kp_15 km_6 km_802) rfl rfl rfl (by decide +kernel) ⟨Nat.le_of_ble_eq_true rfl, Nat.le_of_ble_eq_true rfl⟩) ⟨kb_P_bl, va_recv hK hP (ci := 5) (q0 := 0) rfl rfl, (fun U hU hW => ⟨rfl, by rw [hU], by rw [hU]; exact hPc, va_K.moved hW.alike hK, kb_N_to hW hN, hDc.weaken (fun _ _ _ _ => trivial)⟩)⟩ rfl rfl hl.1 rfl (lv_room (Nat.le_of_ble_eq_true rfl)) kdX5_feed_35 ⟨Nat.le_of_ble_eq_true rfl, Nat.le_of_ble_eq_true rfl⟩) hP hD hS hA ([0, 1] : List Nat) hC rfl (fun H locs hP hD hS => ?_)
    have hP : va_P D kCl (kWX5_feed cB cI cL cBB cII cSh h_this a_this w_9 w_3 this_kind this_rate this_filled this_total this_bitAt this_k this_e1 this_du this_dv f_10) H := hP
    have hD : va_D A (kWX5_feed cB cI cL cBB cII cSh h_this a_this w_9 w_3 this_kind this_rate this_filled this_total this_bitAt this_k this_e1 this_du this_dv f_10) := hD
    refine lv_aload_n hx hb kdX5_feed_38 rfl (lv_at hl 0 rfl) ?_
    refine lv_iload_n hx hb kdX5_feed_39 rfl (lv_at hl 3 rfl) ?_
    obtain ⟨u_14, hu_14, h⟩ := kb_o_s h
    obtain ⟨w_12, f_13⟩ := u_14
    have hC := (show ([0, 1] : List Nat).map (fun i : Nat => (kWX5_feed cB cI cL cBB cII cSh h_this a_this w_9 w_3 this_kind this_rate this_filled this_total this_bitAt this_k this_e1 this_du this_dv f_10)[i]?) = List.map some (kWX5_word cB cI cL cBB cII cSh h_this a_this w_9 w_3 this_kind this_rate this_filled this_total this_bitAt this_k this_e1 this_du this_dv f_10) from rfl)
    have hPc := kb_Psub hP ([0, 1] : List Nat) hC
    have hDc := kb_Dsub hD ([0, 1] : List Nat) hC (by simp [kb_nd])
    refine kb_call0 (va_runV (As := [.int x3j19]) (rest := []) C0 (kcX5_word l D cB cI cL cBB cII cSh h_this a_this _ x3j19 w_9 w_3 this_kind this_rate this_filled this_total this_bitAt this_k this_e1 this_du this_dv f_10 (w_12, f_13) hu_14) (cwV 1 hts (kb_gV km_799 km_801 kp_15 km_6 km_802) rfl rfl rfl (by decide +kernel) ⟨Nat.le_of_ble_eq_true rfl, Nat.le_of_ble_eq_true rfl⟩) ⟨kb_P_bl, va_recv hK hP (ci := 5) (q0 := 0) rfl rfl, (fun U hU hW => ⟨rfl, by rw [hU], by rw [hU]; exact hPc, va_K.moved hW.alike hK, kb_N_to hW hN, hDc.weaken (fun _ _ _ _ => trivial)⟩)⟩ rfl rfl hl.1 rfl (lv_room (Nat.le_of_ble_eq_true rfl)) kdX5_feed_40 ⟨Nat.le_of_ble_eq_true rfl, Nat.le_of_ble_eq_true rfl⟩) hP hD hS hA ([0, 1] : List Nat) hC rfl (fun H locs hP hD hS => ?_)
    have hP : va_P D kCl (kWX5_feed cB cI cL cBB cII cSh h_this a_this w_12 w_3 this_kind this_rate this_filled this_total this_bitAt this_k this_e1 this_du this_dv f_13) H := hP
    have hD : va_D A (kWX5_feed cB cI cL cBB cII cSh h_this a_this w_12 w_3 this_kind this_rate this_filled this_total this_bitAt this_k this_e1 this_du this_dv f_13) := hD
    refine lv_aload_n hx hb kdX5_feed_43 rfl (lv_at hl 0 rfl) ?_
    refine lv_iload hx hb kdX5_feed_44 (lv_at hl 4 rfl) ?_
    obtain ⟨u_17, hu_17, h⟩ := kb_o_s h
    obtain ⟨w_15, f_16⟩ := u_17
    have hC := (show ([0, 1] : List Nat).map (fun i : Nat => (kWX5_feed cB cI cL cBB cII cSh h_this a_this w_12 w_3 this_kind this_rate this_filled this_total this_bitAt this_k this_e1 this_du this_dv f_13)[i]?) = List.map some (kWX5_word cB cI cL cBB cII cSh h_this a_this w_12 w_3 this_kind this_rate this_filled this_total this_bitAt this_k this_e1 this_du this_dv f_13) from rfl)
    have hPc := kb_Psub hP ([0, 1] : List Nat) hC
    have hDc := kb_Dsub hD ([0, 1] : List Nat) hC (by simp [kb_nd])
    refine kb_call0 (va_runV (As := [.int x4j19]) (rest := []) C0 (kcX5_word l D cB cI cL cBB cII cSh h_this a_this _ x4j19 w_12 w_3 this_kind this_rate this_filled this_total this_bitAt this_k this_e1 this_du this_dv f_13 (w_15, f_16) hu_17) (cwV 1 hts (kb_gV km_799 km_801 kp_15 km_6 km_802) rfl rfl rfl (by decide +kernel) ⟨Nat.le_of_ble_eq_true rfl, Nat.le_of_ble_eq_true rfl⟩) ⟨kb_P_bl, va_recv hK hP (ci := 5) (q0 := 0) rfl rfl, (fun U hU hW => ⟨rfl, by rw [hU], by rw [hU]; exact hPc, va_K.moved hW.alike hK, kb_N_to hW hN, hDc.weaken (fun _ _ _ _ => trivial)⟩)⟩ rfl rfl hl.1 rfl (lv_room (Nat.le_of_ble_eq_true rfl)) kdX5_feed_46 ⟨Nat.le_of_ble_eq_true rfl, Nat.le_of_ble_eq_true rfl⟩) hP hD hS hA ([0, 1] : List Nat) hC rfl (fun H locs hP hD hS => ?_)
    have hP : va_P D kCl (kWX5_feed cB cI cL cBB cII cSh h_this a_this w_15 w_3 this_kind this_rate this_filled this_total this_bitAt this_k this_e1 this_du this_dv f_16) H := hP
    have hD : va_D A (kWX5_feed cB cI cL cBB cII cSh h_this a_this w_15 w_3 this_kind this_rate this_filled this_total this_bitAt this_k this_e1 this_du this_dv f_16) := hD
    refine lv_aload_n hx hb kdX5_feed_49 rfl (lv_at hl 0 rfl) ?_
    refine lv_iload hx hb kdX5_feed_50 (lv_at hl 5 rfl) ?_
    obtain ⟨u_20, hu_20, h⟩ := kb_o_s h
    obtain ⟨w_18, f_19⟩ := u_20
    have hC := (show ([0, 1] : List Nat).map (fun i : Nat => (kWX5_feed cB cI cL cBB cII cSh h_this a_this w_15 w_3 this_kind this_rate this_filled this_total this_bitAt this_k this_e1 this_du this_dv f_16)[i]?) = List.map some (kWX5_word cB cI cL cBB cII cSh h_this a_this w_15 w_3 this_kind this_rate this_filled this_total this_bitAt this_k this_e1 this_du this_dv f_16) from rfl)
    have hPc := kb_Psub hP ([0, 1] : List Nat) hC
    have hDc := kb_Dsub hD ([0, 1] : List Nat) hC (by simp [kb_nd])
    refine kb_call0 (va_runV (As := [.int x5j19]) (rest := []) C0 (kcX5_word l D cB cI cL cBB cII cSh h_this a_this _ x5j19 w_15 w_3 this_kind this_rate this_filled this_total this_bitAt this_k this_e1 this_du this_dv f_16 (w_18, f_19) hu_20) (cwV 1 hts (kb_gV km_799 km_801 kp_15 km_6 km_802) rfl rfl rfl (by decide +kernel) ⟨Nat.le_of_ble_eq_true rfl, Nat.le_of_ble_eq_true rfl⟩) ⟨kb_P_bl, va_recv hK hP (ci := 5) (q0 := 0) rfl rfl, (fun U hU hW => ⟨rfl, by rw [hU], by rw [hU]; exact hPc, va_K.moved hW.alike hK, kb_N_to hW hN, hDc.weaken (fun _ _ _ _ => trivial)⟩)⟩ rfl rfl hl.1 rfl (lv_room (Nat.le_of_ble_eq_true rfl)) kdX5_feed_52 ⟨Nat.le_of_ble_eq_true rfl, Nat.le_of_ble_eq_true rfl⟩) hP hD hS hA ([0, 1] : List Nat) hC rfl (fun H locs hP hD hS => ?_)
    have hP : va_P D kCl (kWX5_feed cB cI cL cBB cII cSh h_this a_this w_18 w_3 this_kind this_rate this_filled this_total this_bitAt this_k this_e1 this_du this_dv f_19) H := hP
    have hD : va_D A (kWX5_feed cB cI cL cBB cII cSh h_this a_this w_18 w_3 this_kind this_rate this_filled this_total this_bitAt this_k this_e1 this_du this_dv f_19) := hD
    refine lv_aload_n hx hb kdX5_feed_55 rfl (lv_at hl 0 rfl) ?_
    refine va_get (ci := 5) (v := .int w_18) (C := kRX5) (T := kTX5) (N := 35) hx hb hts kinX5 hown hK hP 0 rfl rfl 3 (by decide) (hts _ km_684) (fun _ h9 => h9) rfl kdX5_feed_56 ?_
    obtain rfl := Option.some.inj h
    exact W.iret (v := w_18) hx hb hr (fun t ht hW => ⟨⟨rfl, by rw [ht]; exact hP, va_K.moved hW.alike hK, hD⟩, hS.F ht⟩) hS.2.2 kdX5_feed_59
  · have h := kb_b_t c_5 h
    refine lv_iconst (v := 0) hx hb kdX5_feed_26 (by decide) ?_
    obtain rfl := Option.some.inj h
    exact W.iret (v := (0 : Int32)) hx hb hr (fun t ht hW => ⟨⟨rfl, by rw [ht]; exact hP, va_K.moved hW.alike hK, hD⟩, hS.F ht⟩) hS.2.2 kdX5_feed_27
set_option maxHeartbeats 4000000 in
set_option maxRecDepth 100000 in
theorem kcX5_feed (l : Launch) (D : va_G) (cB cI cL cBB cII cSh : ClassId) (h_this : Nat) (a_this : Nat → Nat) (sz : Nat) (p1 : Int32) (p2 : Int32) (p3 : Int32) (p4 : Int32) (p5 : Int32) (this_taped : Int32) (this_code : Int32) (this_kind : Int32) (this_rate : Int32) (this_filled : Int32) (this_total : Int64) (this_bitAt : Int32) (this_k : Int32) (this_e1 : Int32) (this_du : Int32) (this_dv : Int32) (f_this_tape : Nat → Int32) (out : Int32 × Int32 × Int32 × (Nat → Int32)) (h : kFX5_feed p1 p2 p3 p4 p5 this_taped f_this_tape = some out) : Met l kyX5_feed kwX5_feed krX5_feed (kb_P D kCl (kb_T cB cI cL cBB cII cSh) [.ref h_this, .int p1, .int p2, .int p3, .int p4, .int p5] (kWX5_feed cB cI cL cBB cII cSh h_this a_this this_taped this_code this_kind this_rate this_filled this_total this_bitAt this_k this_e1 this_du this_dv f_this_tape) sz) (kb_Q D kCl (kb_T cB cI cL cBB cII cSh) (va_A (kWX5_feed cB cI cL cBB cII cSh h_this a_this this_taped this_code this_kind this_rate this_filled this_total this_bitAt this_k this_e1 this_du this_dv f_this_tape) sz) (some (.int out.1)) (kWX5_feed cB cI cL cBB cII cSh h_this a_this out.2.2.1 out.2.1 this_kind this_rate this_filled this_total this_bitAt this_k this_e1 this_du this_dv out.2.2.2)) 0 0 (va_A (kWX5_feed cB cI cL cBB cII cSh h_this a_this this_taped this_code this_kind this_rate this_filled this_total this_bitAt this_k this_e1 this_du this_dv f_this_tape) sz) := by
  refine Met.ofW (cc := prog_8_method_5_code) (maxL := 6) (ret := (some .int)) (by decide) rfl ?_
  intro p e s m args below meth c s₁ B hml hv
  obtain ⟨rfl, hsz, hP, hK, hN, hD0⟩ := hv
  have hx := B.exec
  have hb := B.bytes
  have hr := B.returns
  have hts0 := atoms_spec (ws := kwX5_feed) B.pre
  have hts : ∀ w ∈ kwA, w.before _ s = true := fun w h => hts0 w (List.mem_cons_of_mem _ h)
  have hown : s.vm.findClass kRX5 = some m.cls := findClass_of_methodNamed B.named
  have hlocks := B.notSynchronized
  subst hsz
  have hD := hD0.self (sz := s.heap.size)
  generalize hAe : va_A (kWX5_feed cB cI cL cBB cII cSh h_this a_this this_taped this_code this_kind this_rate this_filled this_total this_bitAt this_k this_e1 this_du this_dv f_this_tape) s.heap.size = A at hD ⊢
  have hA : ∀ q : Nat, s.heap.size ≤ q → A q := fun q h => by rw [← hAe]; exact Or.inr h
  have hS : va_S A s.heap s.heap [] := va_S.rf
  have C0 : CallFix p m c prog_8_method_5_code 6 s _ kwA kRX5 := ⟨hx, hb, hml, hown, hts⟩
  have hl := lv_entry ([.ref h_this, .int p1, .int p2, .int p3, .int p4, .int p5]) (n := 6) (Nat.le_of_ble_eq_true rfl)
  rw [lg_entry_eq]
  generalize (lg_sl ([.ref h_this, .int p1, .int p2, .int p3, .int p4, .int p5]) ++ List.replicate (6 - (lg_sl ([.ref h_this, .int p1, .int p2, .int p3, .int p4, .int p5])).length) Slot.unset).toArray = ls at hl ⊢
  have hl : lv_has ls 6 [(0, .ref h_this), (1, .int p1), (2, .int p2), (3, .int p3), (4, .int p4), (5, .int p5)] := hl
  unfold kFX5_feed at h
  refine lv_aload_n hx hb kdX5_feed_0 rfl (lv_at hl 0 rfl) ?_
  refine lv_aload_n hx hb kdX5_feed_1 rfl (lv_at hl 0 rfl) ?_
  refine va_get (ci := 5) (v := .int this_taped) (C := kRX5) (T := kTX5) (N := 35) hx hb hts kinX5 hown hK hP 0 rfl rfl 3 (by decide) (hts _ km_684) (fun _ h9 => h9) rfl kdX5_feed_2 ?_
  refine lv_bipush (v := 20) hx hb kdX5_feed_5 (by decide) ?_
  refine lv_iadd hx hb kdX5_feed_7 ?_
  refine lv_sipush (v := 8192) hx hb kdX5_feed_8 (by decide) ?_
  refine lv_icmp_gt (tgt := 18) hx hb kdX5_feed_11 (by decide) (fun c_1 => ?_) (fun c_1 => ?_)
  · have h := kb_b_t c_1 h
    refine lv_iconst (v := 0) hx hb kdX5_feed_18 (by decide) ?_
    exact kjX5_feed_19 C0 hlocks hr hK hN hA h_this a_this p1 p2 p3 p4 p5 this_taped this_code this_kind this_rate this_filled this_total this_bitAt this_k this_e1 this_du this_dv f_this_tape (0 : Int32) _ h _ _ _ hP hD hS (lv_sub hl [0, 1, 2, 3, 4, 5] rfl)
  · have h := kb_b_f c_1 h
    refine lv_iconst (v := 1) hx hb kdX5_feed_14 (by decide) ?_
    refine lv_goto (tgt := 19) hx hb kdX5_feed_15 (by decide) ?_
    exact kjX5_feed_19 C0 hlocks hr hK hN hA h_this a_this p1 p2 p3 p4 p5 this_taped this_code this_kind this_rate this_filled this_total this_bitAt this_k this_e1 this_du this_dv f_this_tape (1 : Int32) _ h _ _ _ hP hD hS (lv_sub hl [0, 1, 2, 3, 4, 5] rfl)

-- 480.ModuleKemModel.permute.lean.txt
abbrev kWX5_permute (cB cI cL cBB cII cSh : ClassId) (h_this : Nat) (a_this : Nat → Nat) (this_taped : Int32) (this_code : Int32) (this_kind : Int32) (this_rate : Int32) (this_filled : Int32) (this_total : Int64) (this_bitAt : Int32) (this_k : Int32) (this_e1 : Int32) (this_du : Int32) (this_dv : Int32) (f_this_turns : Nat → Int32) (f_this_round : Nat → Int64) (f_this_state : Nat → Int64) (f_this_other : Nat → Int64) (f_this_column : Nat → Int64) : va_W := [(h_this, koX5 a_this this_taped this_code this_kind this_rate this_filled this_total this_bitAt this_k this_e1 this_du this_dv), ((a_this 11), .inl (cI, 25, .inl f_this_turns)), ((a_this 12), .inl (cL, 24, .inr (.inl f_this_round))), ((a_this 13), .inl (cL, 25, .inr (.inl f_this_state))), ((a_this 14), .inl (cL, 25, .inr (.inl f_this_other))), ((a_this 15), .inl (cL, 5, .inr (.inl f_this_column)))]
def krX5_permute : Room := { frames := 1, cells := 0, slots := 0, locals := 22 }
set_option maxHeartbeats 4000000 in
set_option maxRecDepth 100000 in
theorem klX5_permute_24 {p : Program} {l : Launch} {e : Env} {s : State} {m : MethodId} {args : Array Value} {below : List Frame} {meth : Method} {c : Code} {cells slots : Nat} {Q : State → Prop} {D : va_G} {cB cI cL cBB cII cSh : ClassId} {A : Nat → Prop} (C0 : CallFix p m c prog_8_method_29_code 4 s args kwA kRX5) (hlocks : meth.locks = false) (hK : va_K D kCl (kb_T cB cI cL cBB cII cSh) s) (hN : kb_N s) (hA : ∀ q, s.heap.size ≤ q → A q) (hcR : cells ≤ krX5_permute.cells) (hsR : slots ≤ krX5_permute.slots) (h_this : Nat) (a_this : Nat → Nat) (x1p2 : Int32) (x2p10 : Int32) (this_taped : Int32) (this_code : Int32) (this_kind : Int32) (this_rate : Int32) (this_filled : Int32) (this_total : Int64) (this_bitAt : Int32) (this_k : Int32) (this_e1 : Int32) (this_du : Int32) (this_dv : Int32) (f_this_turns : Nat → Int32) (f_this_round : Nat → Int64) (f_this_statep2 : Nat → Int64) (f_this_otherp2 : Nat → Int64) :
    ∀ (fuel : Nat) (x3p24 : Int32) (f_this_columnp24 : Nat → Int64) (r : Int32 × (Nat → Int64)), kb_w (fun u : Int32 × (Nat → Int64) => kSX5_permute_24 x2p10 f_this_statep2 u.1 u.2) fuel (x3p24, f_this_columnp24) = some r → ∀ (H : Heap) (locs : List Loc) (ls : Array Slot), va_P D kCl (kWX5_permute cB cI cL cBB cII cSh h_this a_this this_taped this_code this_kind this_rate this_filled this_total this_bitAt this_k this_e1 this_du this_dv f_this_turns f_this_round f_this_statep2 f_this_otherp2 f_this_columnp24) H → va_D A (kWX5_permute cB cI cL cBB cII cSh h_this a_this this_taped this_code this_kind this_rate this_filled this_total this_bitAt this_k this_e1 this_du this_dv f_this_turns f_this_round f_this_statep2 f_this_otherp2 f_this_columnp24) → va_S A s.heap H locs → lv_has ls 4 [(0, .ref h_this), (1, .int x1p2), (2, .int x2p10), (3, .int x3p24)] → (∀ (x3p24' : Int32) (f_this_columnp24' : Nat → Int64), r = (x3p24', f_this_columnp24') → ∀ (H : Heap) (locs : List Loc) (ls : Array Slot), va_P D kCl (kWX5_permute cB cI cL cBB cII cSh h_this a_this this_taped this_code this_kind this_rate this_filled this_total this_bitAt this_k this_e1 this_du this_dv f_this_turns f_this_round f_this_statep2 f_this_otherp2 f_this_columnp24') H → va_D A (kWX5_permute cB cI cL cBB cII cSh h_this a_this this_taped this_code this_kind this_rate this_filled this_total this_bitAt this_k this_e1 this_du this_dv f_this_turns f_this_round f_this_statep2 f_this_otherp2 f_this_columnp24') → va_S A s.heap H locs → lv_has ls 4 [(0, .ref h_this), (1, .int x1p2), (2, .int x2p10), (3, .int x3p24')] → W p l e krX5_permute s m args below meth c H locs cells slots Q (F0 m 54 ls [])) → W p l e krX5_permute s m args below meth c H locs cells slots Q (F0 m 24 ls []) := by
  obtain ⟨hx, hb, hml, hown, hts⟩ := id C0
  intro fuel
  induction fuel with
  | zero =>
    intro x3p24 f_this_columnp24 r h
    exact absurd h (kb_w_z _ _ _)
  | succ fuel ih =>
    intro x3p24 f_this_columnp24 r h H locs ls hP hD hS hl hk0
    obtain ⟨o, h, ho⟩ := kb_w_s h
    have h : kSX5_permute_24 x2p10 f_this_statep2 x3p24 f_this_columnp24 = some o := h
    unfold kSX5_permute_24 at h
    refine lv_iload_n hx hb kdX5_permute_24 rfl (lv_at hl 3 rfl) ?_
    refine lv_iconst (v := 5) hx hb kdX5_permute_25 (by decide) ?_
    refine lv_icmp_ge (tgt := 54) hx hb kdX5_permute_26 (by decide) (fun c_5 => ?_) (fun c_5 => ?_)
    · have h := kb_b_t c_5 h
      obtain rfl := Option.some.inj h
      exact hk0 x3p24 f_this_columnp24 ho.symm _ _ _ hP hD hS (lv_sub hl [0, 1, 2, 3] rfl)
    · have h := kb_b_f c_5 h
      refine lv_aload_n hx hb kdX5_permute_29 rfl (lv_at hl 0 rfl) ?_
      refine va_get (ci := 5) (v := .ref (a_this 15)) (C := kRX5) (T := kTX5) (N := 35) hx hb hts kinX5 hown hK hP 0 rfl rfl 15 (by decide) (hts _ km_696) (fun _ h9 => h9) rfl kdX5_permute_30 ?_
      refine lv_iload_n hx hb kdX5_permute_33 rfl (lv_at hl 2 rfl) ?_
      refine lv_dup2_11 hx hb kdX5_permute_34 rfl rfl ?_
      obtain ⟨g_6, h⟩ := kb_g_s h
      refine va_lald hx hb hK hP 5 2 rfl rfl (kb_in_v g_6) kdX5_permute_35 ?_
      refine lv_aload_n hx hb kdX5_permute_36 rfl (lv_at hl 0 rfl) ?_
      refine va_get (ci := 5) (v := .ref (a_this 13)) (C := kRX5) (T := kTX5) (N := 35) hx hb hts kinX5 hown hK hP 0 rfl rfl 13 (by decide) (hts _ km_694) (fun _ h9 => h9) rfl kdX5_permute_37 ?_
      refine lv_iload_n hx hb kdX5_permute_40 rfl (lv_at hl 2 rfl) ?_
      refine lv_iconst (v := 5) hx hb kdX5_permute_41 (by decide) ?_
      refine lv_iload_n hx hb kdX5_permute_42 rfl (lv_at hl 3 rfl) ?_
      refine lv_imul hx hb kdX5_permute_43 ?_
      refine lv_iadd hx hb kdX5_permute_44 ?_
      obtain ⟨g_7, h⟩ := kb_g_s h
      refine va_lald hx hb hK hP 3 2 rfl rfl (kb_in_v g_7) kdX5_permute_45 ?_
      refine lv_lxor hx hb kdX5_permute_46 ?_
      obtain ⟨g_8, h⟩ := kb_g_s h
      refine va_last hx hb hK hP hD hS 5 2 rfl rfl (kb_in_v g_8) kdX5_permute_47 (fun H locs hP hD hS => ?_)
      obtain ⟨f_9, ef_9⟩ : ∃ y, y = vp_updL f_this_columnp24 x2p10.toNatClampNeg ((f_this_columnp24 x2p10.toNatClampNeg) ^^^ (f_this_statep2 (x2p10 + ((5 : Int32) * x3p24)).toNatClampNeg)) := ⟨_, rfl⟩
      have h := kb_n_s ef_9 h
      have hP : va_P D kCl (kWX5_permute cB cI cL cBB cII cSh h_this a_this this_taped this_code this_kind this_rate this_filled this_total this_bitAt this_k this_e1 this_du this_dv f_this_turns f_this_round f_this_statep2 f_this_otherp2 f_9) H := by rw [ef_9]; exact hP
      have hD : va_D A (kWX5_permute cB cI cL cBB cII cSh h_this a_this this_taped this_code this_kind this_rate this_filled this_total this_bitAt this_k this_e1 this_du this_dv f_this_turns f_this_round f_this_statep2 f_this_otherp2 f_9) := by rw [ef_9]; exact hD
      obtain ⟨x3_10, ex3_10⟩ : ∃ y : Int32, y = x3p24 + Int32.ofInt 1 := ⟨_, rfl⟩
      have h := kb_n_s ex3_10 h
      refine lv_iinc (v := x3_10) (lv' := [(3, .int x3_10), (0, .ref h_this), (1, .int x1p2), (2, .int x2p10)]) hx hb kdX5_permute_48 hl (k := 3) rfl ex3_10.symm (by decide) rfl (fun ls hl => ?_)
      refine lv_goto (tgt := 24) hx hb kdX5_permute_51 (by decide) ?_
      obtain rfl := Option.some.inj h
      exact ih x3_10 f_9 r ho _ _ _ hP hD hS (lv_sub hl [1, 2, 3, 0] rfl) hk0
set_option maxHeartbeats 4000000 in
set_option maxRecDepth 100000 in
theorem klX5_permute_10 {p : Program} {l : Launch} {e : Env} {s : State} {m : MethodId} {args : Array Value} {below : List Frame} {meth : Method} {c : Code} {cells slots : Nat} {Q : State → Prop} {D : va_G} {cB cI cL cBB cII cSh : ClassId} {A : Nat → Prop} (C0 : CallFix p m c prog_8_method_29_code 4 s args kwA kRX5) (hlocks : meth.locks = false) (hK : va_K D kCl (kb_T cB cI cL cBB cII cSh) s) (hN : kb_N s) (hA : ∀ q, s.heap.size ≤ q → A q) (hcR : cells ≤ krX5_permute.cells) (hsR : slots ≤ krX5_permute.slots) (h_this : Nat) (a_this : Nat → Nat) (x1p2 : Int32) (this_taped : Int32) (this_code : Int32) (this_kind : Int32) (this_rate : Int32) (this_filled : Int32) (this_total : Int64) (this_bitAt : Int32) (this_k : Int32) (this_e1 : Int32) (this_du : Int32) (this_dv : Int32) (f_this_turns : Nat → Int32) (f_this_round : Nat → Int64) (f_this_statep2 : Nat → Int64) (f_this_otherp2 : Nat → Int64) :
    ∀ (fuel : Nat) (x2p10 : Int32) (f_this_columnp10 : Nat → Int64) (r : Int32 × (Nat → Int64)), kb_w (fun u : Int32 × (Nat → Int64) => kSX5_permute_10 f_this_statep2 u.1 u.2) fuel (x2p10, f_this_columnp10) = some r → ∀ (H : Heap) (locs : List Loc) (ls : Array Slot), va_P D kCl (kWX5_permute cB cI cL cBB cII cSh h_this a_this this_taped this_code this_kind this_rate this_filled this_total this_bitAt this_k this_e1 this_du this_dv f_this_turns f_this_round f_this_statep2 f_this_otherp2 f_this_columnp10) H → va_D A (kWX5_permute cB cI cL cBB cII cSh h_this a_this this_taped this_code this_kind this_rate this_filled this_total this_bitAt this_k this_e1 this_du this_dv f_this_turns f_this_round f_this_statep2 f_this_otherp2 f_this_columnp10) → va_S A s.heap H locs → lv_has ls 4 [(0, .ref h_this), (1, .int x1p2), (2, .int x2p10)] → (∀ (x2p10' : Int32) (f_this_columnp10' : Nat → Int64), r = (x2p10', f_this_columnp10') → ∀ (H : Heap) (locs : List Loc) (ls : Array Slot), va_P D kCl (kWX5_permute cB cI cL cBB cII cSh h_this a_this this_taped this_code this_kind this_rate this_filled this_total this_bitAt this_k this_e1 this_du this_dv f_this_turns f_this_round f_this_statep2 f_this_otherp2 f_this_columnp10') H → va_D A (kWX5_permute cB cI cL cBB cII cSh h_this a_this this_taped this_code this_kind this_rate this_filled this_total this_bitAt this_k this_e1 this_du this_dv f_this_turns f_this_round f_this_statep2 f_this_otherp2 f_this_columnp10') → va_S A s.heap H locs → lv_has ls 4 [(0, .ref h_this), (1, .int x1p2), (2, .int x2p10')] → W p l e krX5_permute s m args below meth c H locs cells slots Q (F0 m 60 ls [])) → W p l e krX5_permute s m args below meth c H locs cells slots Q (F0 m 10 ls []) := by
  obtain ⟨hx, hb, hml, hown, hts⟩ := id C0
  intro fuel
  induction fuel with
  | zero =>
    intro x2p10 f_this_columnp10 r h
    exact absurd h (kb_w_z _ _ _)
  | succ fuel ih =>
    intro x2p10 f_this_columnp10 r h H locs ls hP hD hS hl hk0
    obtain ⟨o, h, ho⟩ := kb_w_s h
    have h : kSX5_permute_10 f_this_statep2 x2p10 f_this_columnp10 = some o := h
    unfold kSX5_permute_10 at h
    refine lv_iload_n hx hb kdX5_permute_10 rfl (lv_at hl 2 rfl) ?_
    refine lv_iconst (v := 5) hx hb kdX5_permute_11 (by decide) ?_
    refine lv_icmp_ge (tgt := 60) hx hb kdX5_permute_12 (by decide) (fun c_2 => ?_) (fun c_2 => ?_)
    · have h := kb_b_t c_2 h
      obtain rfl := Option.some.inj h
      exact hk0 x2p10 f_this_columnp10 ho.symm _ _ _ hP hD hS (lv_sub hl [0, 1, 2] rfl)
    · have h := kb_b_f c_2 h
      refine lv_aload_n hx hb kdX5_permute_15 rfl (lv_at hl 0 rfl) ?_
      refine va_get (ci := 5) (v := .ref (a_this 15)) (C := kRX5) (T := kTX5) (N := 35) hx hb hts kinX5 hown hK hP 0 rfl rfl 15 (by decide) (hts _ km_696) (fun _ h9 => h9) rfl kdX5_permute_16 ?_
      refine lv_iload_n hx hb kdX5_permute_19 rfl (lv_at hl 2 rfl) ?_
      refine lv_lconst (v := 0) hx hb kdX5_permute_20 (by decide) ?_
      obtain ⟨g_3, h⟩ := kb_g_s h
      refine va_last hx hb hK hP hD hS 5 2 rfl rfl (kb_in_v g_3) kdX5_permute_21 (fun H locs hP hD hS => ?_)
      obtain ⟨f_4, ef_4⟩ : ∃ y, y = vp_updL f_this_columnp10 x2p10.toNatClampNeg (0 : Int64) := ⟨_, rfl⟩
      have h := kb_n_s ef_4 h
      have hP : va_P D kCl (kWX5_permute cB cI cL cBB cII cSh h_this a_this this_taped this_code this_kind this_rate this_filled this_total this_bitAt this_k this_e1 this_du this_dv f_this_turns f_this_round f_this_statep2 f_this_otherp2 f_4) H := by rw [ef_4]; exact hP
      have hD : va_D A (kWX5_permute cB cI cL cBB cII cSh h_this a_this this_taped this_code this_kind this_rate this_filled this_total this_bitAt this_k this_e1 this_du this_dv f_this_turns f_this_round f_this_statep2 f_this_otherp2 f_4) := by rw [ef_4]; exact hD
      refine lv_iconst (v := 0) hx hb kdX5_permute_22 (by decide) ?_
      refine lv_istore_n (lv' := [(3, .int (0 : Int32)), (0, .ref h_this), (1, .int x1p2), (2, .int x2p10)]) hx hb kdX5_permute_23 rfl hl (by decide) rfl (fun ls hl => ?_)
      obtain ⟨r_14, hr_14, h⟩ := kb_o_s h
      refine klX5_permute_24 C0 hlocks hK hN hA hcR hsR h_this a_this x1p2 x2p10 this_taped this_code this_kind this_rate this_filled this_total this_bitAt this_k this_e1 this_du this_dv f_this_turns f_this_round f_this_statep2 f_this_otherp2 100000 (0 : Int32) f_4 r_14 hr_14 _ _ _ hP hD hS (lv_sub hl [1, 2, 3, 0] rfl) (fun x3p24_11 f_this_columnp24_12 er_14 H locs ls hP hD hS hl => ?_)
      subst er_14
      obtain ⟨x2_13, ex2_13⟩ : ∃ y : Int32, y = x2p10 + Int32.ofInt 1 := ⟨_, rfl⟩
      have h := kb_n_s ex2_13 h
      refine lv_iinc (v := x2_13) (lv' := [(2, .int x2_13), (0, .ref h_this), (1, .int x1p2), (3, .int x3p24_11)]) hx hb kdX5_permute_54 hl (k := 2) rfl ex2_13.symm (by decide) rfl (fun ls hl => ?_)
      refine lv_goto (tgt := 10) hx hb kdX5_permute_57 (by decide) ?_
      obtain rfl := Option.some.inj h
      exact ih x2_13 f_this_columnp24_12 r ho _ _ _ hP hD hS (lv_sub hl [1, 2, 0] rfl) hk0
set_option maxHeartbeats 4000000 in
set_option maxRecDepth 100000 in
theorem klX5_permute_69 {p : Program} {l : Launch} {e : Env} {s : State} {m : MethodId} {args : Array Value} {below : List Frame} {meth : Method} {c : Code} {cells slots : Nat} {Q : State → Prop} {D : va_G} {cB cI cL cBB cII cSh : ClassId} {A : Nat → Prop} (C0 : CallFix p m c prog_8_method_29_code 4 s args kwA kRX5) (hlocks : meth.locks = false) (hK : va_K D kCl (kb_T cB cI cL cBB cII cSh) s) (hN : kb_N s) (hA : ∀ q, s.heap.size ≤ q → A q) (hcR : cells ≤ krX5_permute.cells) (hsR : slots ≤ krX5_permute.slots) (h_this : Nat) (a_this : Nat → Nat) (x1p2 : Int32) (x2p62 : Int32) (this_taped : Int32) (this_code : Int32) (this_kind : Int32) (this_rate : Int32) (this_filled : Int32) (this_total : Int64) (this_bitAt : Int32) (this_k : Int32) (this_e1 : Int32) (this_du : Int32) (this_dv : Int32) (f_this_turns : Nat → Int32) (f_this_round : Nat → Int64) (f_this_otherp2 : Nat → Int64) (f_this_columnp10_16 : Nat → Int64) :
    ∀ (fuel : Nat) (x3p69 : Int32) (f_this_statep69 : Nat → Int64) (r : Int32 × (Nat → Int64)), kb_w (fun u : Int32 × (Nat → Int64) => kSX5_permute_69 x2p62 f_this_columnp10_16 u.1 u.2) fuel (x3p69, f_this_statep69) = some r → ∀ (H : Heap) (locs : List Loc) (ls : Array Slot), va_P D kCl (kWX5_permute cB cI cL cBB cII cSh h_this a_this this_taped this_code this_kind this_rate this_filled this_total this_bitAt this_k this_e1 this_du this_dv f_this_turns f_this_round f_this_statep69 f_this_otherp2 f_this_columnp10_16) H → va_D A (kWX5_permute cB cI cL cBB cII cSh h_this a_this this_taped this_code this_kind this_rate this_filled this_total this_bitAt this_k this_e1 this_du this_dv f_this_turns f_this_round f_this_statep69 f_this_otherp2 f_this_columnp10_16) → va_S A s.heap H locs → lv_has ls 4 [(0, .ref h_this), (1, .int x1p2), (2, .int x2p62), (3, .int x3p69)] → (∀ (x3p69' : Int32) (f_this_statep69' : Nat → Int64), r = (x3p69', f_this_statep69') → ∀ (H : Heap) (locs : List Loc) (ls : Array Slot), va_P D kCl (kWX5_permute cB cI cL cBB cII cSh h_this a_this this_taped this_code this_kind this_rate this_filled this_total this_bitAt this_k this_e1 this_du this_dv f_this_turns f_this_round f_this_statep69' f_this_otherp2 f_this_columnp10_16) H → va_D A (kWX5_permute cB cI cL cBB cII cSh h_this a_this this_taped this_code this_kind this_rate this_filled this_total this_bitAt this_k this_e1 this_du this_dv f_this_turns f_this_round f_this_statep69' f_this_otherp2 f_this_columnp10_16) → va_S A s.heap H locs → lv_has ls 4 [(0, .ref h_this), (1, .int x1p2), (2, .int x2p62), (3, .int x3p69')] → W p l e krX5_permute s m args below meth c H locs cells slots Q (F0 m 118 ls [])) → W p l e krX5_permute s m args below meth c H locs cells slots Q (F0 m 69 ls []) := by
  obtain ⟨hx, hb, hml, hown, hts⟩ := id C0
  intro fuel
  induction fuel with
  | zero =>
    intro x3p69 f_this_statep69 r h
    exact absurd h (kb_w_z _ _ _)
  | succ fuel ih =>
    intro x3p69 f_this_statep69 r h H locs ls hP hD hS hl hk0
    obtain ⟨o, h, ho⟩ := kb_w_s h
    have h : kSX5_permute_69 x2p62 f_this_columnp10_16 x3p69 f_this_statep69 = some o := h
    unfold kSX5_permute_69 at h
    refine lv_iload_n hx hb kdX5_permute_69 rfl (lv_at hl 3 rfl) ?_
    refine lv_iconst (v := 5) hx hb kdX5_permute_70 (by decide) ?_
    refine lv_icmp_ge (tgt := 118) hx hb kdX5_permute_71 (by decide) (fun c_18 => ?_) (fun c_18 => ?_)
    · have h := kb_b_t c_18 h
      obtain rfl := Option.some.inj h
      exact hk0 x3p69 f_this_statep69 ho.symm _ _ _ hP hD hS (lv_sub hl [0, 1, 2, 3] rfl)
    · have h := kb_b_f c_18 h
      refine lv_aload_n hx hb kdX5_permute_74 rfl (lv_at hl 0 rfl) ?_
      refine va_get (ci := 5) (v := .ref (a_this 13)) (C := kRX5) (T := kTX5) (N := 35) hx hb hts kinX5 hown hK hP 0 rfl rfl 13 (by decide) (hts _ km_694) (fun _ h9 => h9) rfl kdX5_permute_75 ?_
      refine lv_iload_n hx hb kdX5_permute_78 rfl (lv_at hl 2 rfl) ?_
      refine lv_iconst (v := 5) hx hb kdX5_permute_79 (by decide) ?_
      refine lv_iload_n hx hb kdX5_permute_80 rfl (lv_at hl 3 rfl) ?_
      refine lv_imul hx hb kdX5_permute_81 ?_
      refine lv_iadd hx hb kdX5_permute_82 ?_
      refine lv_dup2_11 hx hb kdX5_permute_83 rfl rfl ?_
      obtain ⟨g_19, h⟩ := kb_g_s h
      refine va_lald hx hb hK hP 3 2 rfl rfl (kb_in_v g_19) kdX5_permute_84 ?_
      refine lv_aload_n hx hb kdX5_permute_85 rfl (lv_at hl 0 rfl) ?_
      refine va_get (ci := 5) (v := .ref (a_this 15)) (C := kRX5) (T := kTX5) (N := 35) hx hb hts kinX5 hown hK hP 0 rfl rfl 15 (by decide) (hts _ km_696) (fun _ h9 => h9) rfl kdX5_permute_86 ?_
      refine lv_iload_n hx hb kdX5_permute_89 rfl (lv_at hl 2 rfl) ?_
      refine lv_iconst (v := 4) hx hb kdX5_permute_90 (by decide) ?_
      refine lv_iadd hx hb kdX5_permute_91 ?_
      refine lv_iconst (v := 5) hx hb kdX5_permute_92 (by decide) ?_
      refine lv_irem hx hb kdX5_permute_93 (by decide) ?_
      refine lv_topi (fun q_20 eq_20 => ?_)
      have h := kb_n_s eq_20 h
      obtain ⟨g_21, h⟩ := kb_g_s h
      refine va_lald hx hb hK hP 5 2 rfl rfl (kb_in_v g_21) kdX5_permute_94 ?_
      refine lv_aload_n hx hb kdX5_permute_95 rfl (lv_at hl 0 rfl) ?_
      refine va_get (ci := 5) (v := .ref (a_this 15)) (C := kRX5) (T := kTX5) (N := 35) hx hb hts kinX5 hown hK hP 0 rfl rfl 15 (by decide) (hts _ km_696) (fun _ h9 => h9) rfl kdX5_permute_96 ?_
      refine lv_iload_n hx hb kdX5_permute_99 rfl (lv_at hl 2 rfl) ?_
      refine lv_iconst (v := 1) hx hb kdX5_permute_100 (by decide) ?_
      refine lv_iadd hx hb kdX5_permute_101 ?_
      refine lv_iconst (v := 5) hx hb kdX5_permute_102 (by decide) ?_
      refine lv_irem hx hb kdX5_permute_103 (by decide) ?_
      refine lv_topi (fun q_22 eq_22 => ?_)
      have h := kb_n_s eq_22 h
      obtain ⟨g_23, h⟩ := kb_g_s h
      refine va_lald hx hb hK hP 5 2 rfl rfl (kb_in_v g_23) kdX5_permute_104 ?_
      refine lv_iconst (v := 1) hx hb kdX5_permute_105 (by decide) ?_
      obtain ⟨u_25, hu_25, h⟩ := kb_o_s h
      obtain ⟨r_24, rfl⟩ : ∃ z, z = u_25 := ⟨_, rfl⟩
      have hC := (show ([] : List Nat).map (fun i : Nat => (kWX5_permute cB cI cL cBB cII cSh h_this a_this this_taped this_code this_kind this_rate this_filled this_total this_bitAt this_k this_e1 this_du this_dv f_this_turns f_this_round f_this_statep69 f_this_otherp2 f_this_columnp10_16)[i]?) = List.map some (kWX5_left cB cI cL cBB cII cSh) from rfl)
      have hPc := kb_Psub hP ([] : List Nat) hC
      have hDc := kb_Dsub hD ([] : List Nat) hC (by simp [kb_nd])
      refine kb_call0 (va_runS (As := [.long (f_this_columnp10_16 q_22.toNatClampNeg), .int (1 : Int32)]) (rest := [.long (f_this_columnp10_16 q_20.toNatClampNeg), .long (f_this_statep69 (x2p62 + ((5 : Int32) * x3p69)).toNatClampNeg), .int (x2p62 + ((5 : Int32) * x3p69)), .ref (a_this 13)]) C0 (kcX5_left l D cB cI cL cBB cII cSh  _ (f_this_columnp10_16 q_22.toNatClampNeg) (1 : Int32) r_24 hu_25) (va_cwS 2 hts (kb_gS km_658 km_659 km_6 km_660) rfl rfl rfl (by decide +kernel) ⟨Nat.le_of_ble_eq_true rfl, Nat.le_of_ble_eq_true rfl⟩) ⟨kb_P_bl, (fun U hU hW => ⟨rfl, by rw [hU], by rw [hU]; exact hPc, va_K.moved hW.alike hK, kb_N_to hW hN, hDc.weaken (fun _ _ _ _ => trivial)⟩)⟩ rfl rfl hl.1 rfl (lv_room (Nat.le_of_ble_eq_true rfl)) kdX5_permute_106 ⟨hcR, hsR⟩) hP hD hS hA ([] : List Nat) hC rfl (fun H locs hP hD hS => ?_)
      have hP : va_P D kCl (kWX5_permute cB cI cL cBB cII cSh h_this a_this this_taped this_code this_kind this_rate this_filled this_total this_bitAt this_k this_e1 this_du this_dv f_this_turns f_this_round f_this_statep69 f_this_otherp2 f_this_columnp10_16) H := hP
      have hD : va_D A (kWX5_permute cB cI cL cBB cII cSh h_this a_this this_taped this_code this_kind this_rate this_filled this_total this_bitAt this_k this_e1 this_du this_dv f_this_turns f_this_round f_this_statep69 f_this_otherp2 f_this_columnp10_16) := hD
      refine lv_lxor hx hb kdX5_permute_109 ?_
      refine lv_lxor hx hb kdX5_permute_110 ?_
      obtain ⟨g_26, h⟩ := kb_g_s h
      refine va_last hx hb hK hP hD hS 3 2 rfl rfl (kb_in_v g_26) kdX5_permute_111 (fun H locs hP hD hS => ?_)
      obtain ⟨f_27, ef_27⟩ : ∃ y, y = vp_updL f_this_statep69 (x2p62 + ((5 : Int32) * x3p69)).toNatClampNeg ((f_this_statep69 (x2p62 + ((5 : Int32) * x3p69)).toNatClampNeg) ^^^ ((f_this_columnp10_16 q_20.toNatClampNeg) ^^^ r_24)) := ⟨_, rfl⟩
      have h := kb_n_s ef_27 h
      have hP : va_P D kCl (kWX5_permute cB cI cL cBB cII cSh h_this a_this this_taped this_code this_kind this_rate this_filled this_total this_bitAt this_k this_e1 this_du this_dv f_this_turns f_this_round f_27 f_this_otherp2 f_this_columnp10_16) H := by rw [ef_27]; exact hP
      have hD : va_D A (kWX5_permute cB cI cL cBB cII cSh h_this a_this this_taped this_code this_kind this_rate this_filled this_total this_bitAt this_k this_e1 this_du this_dv f_this_turns f_this_round f_27 f_this_otherp2 f_this_columnp10_16) := by rw [ef_27]; exact hD
      obtain ⟨x3_28, ex3_28⟩ : ∃ y : Int32, y = x3p69 + Int32.ofInt 1 := ⟨_, rfl⟩
      have h := kb_n_s ex3_28 h
      refine lv_iinc (v := x3_28) (lv' := [(3, .int x3_28), (0, .ref h_this), (1, .int x1p2), (2, .int x2p62)]) hx hb kdX5_permute_112 hl (k := 3) rfl ex3_28.symm (by decide) rfl (fun ls hl => ?_)
      refine lv_goto (tgt := 69) hx hb kdX5_permute_115 (by decide) ?_
      obtain rfl := Option.some.inj h
      exact ih x3_28 f_27 r ho _ _ _ hP hD hS (lv_sub hl [1, 2, 3, 0] rfl) hk0
set_option maxHeartbeats 4000000 in
set_option maxRecDepth 100000 in
theorem klX5_permute_62 {p : Program} {l : Launch} {e : Env} {s : State} {m : MethodId} {args : Array Value} {below : List Frame} {meth : Method} {c : Code} {cells slots : Nat} {Q : State → Prop} {D : va_G} {cB cI cL cBB cII cSh : ClassId} {A : Nat → Prop} (C0 : CallFix p m c prog_8_method_29_code 4 s args kwA kRX5) (hlocks : meth.locks = false) (hK : va_K D kCl (kb_T cB cI cL cBB cII cSh) s) (hN : kb_N s) (hA : ∀ q, s.heap.size ≤ q → A q) (hcR : cells ≤ krX5_permute.cells) (hsR : slots ≤ krX5_permute.slots) (h_this : Nat) (a_this : Nat → Nat) (x1p2 : Int32) (this_taped : Int32) (this_code : Int32) (this_kind : Int32) (this_rate : Int32) (this_filled : Int32) (this_total : Int64) (this_bitAt : Int32) (this_k : Int32) (this_e1 : Int32) (this_du : Int32) (this_dv : Int32) (f_this_turns : Nat → Int32) (f_this_round : Nat → Int64) (f_this_otherp2 : Nat → Int64) (f_this_columnp10_16 : Nat → Int64) :
    ∀ (fuel : Nat) (x2p62 : Int32) (f_this_statep62 : Nat → Int64) (r : Int32 × (Nat → Int64)), kb_w (fun u : Int32 × (Nat → Int64) => kSX5_permute_62 f_this_columnp10_16 u.1 u.2) fuel (x2p62, f_this_statep62) = some r → ∀ (H : Heap) (locs : List Loc) (ls : Array Slot), va_P D kCl (kWX5_permute cB cI cL cBB cII cSh h_this a_this this_taped this_code this_kind this_rate this_filled this_total this_bitAt this_k this_e1 this_du this_dv f_this_turns f_this_round f_this_statep62 f_this_otherp2 f_this_columnp10_16) H → va_D A (kWX5_permute cB cI cL cBB cII cSh h_this a_this this_taped this_code this_kind this_rate this_filled this_total this_bitAt this_k this_e1 this_du this_dv f_this_turns f_this_round f_this_statep62 f_this_otherp2 f_this_columnp10_16) → va_S A s.heap H locs → lv_has ls 4 [(0, .ref h_this), (1, .int x1p2), (2, .int x2p62)] → (∀ (x2p62' : Int32) (f_this_statep62' : Nat → Int64), r = (x2p62', f_this_statep62') → ∀ (H : Heap) (locs : List Loc) (ls : Array Slot), va_P D kCl (kWX5_permute cB cI cL cBB cII cSh h_this a_this this_taped this_code this_kind this_rate this_filled this_total this_bitAt this_k this_e1 this_du this_dv f_this_turns f_this_round f_this_statep62' f_this_otherp2 f_this_columnp10_16) H → va_D A (kWX5_permute cB cI cL cBB cII cSh h_this a_this this_taped this_code this_kind this_rate this_filled this_total this_bitAt this_k this_e1 this_du this_dv f_this_turns f_this_round f_this_statep62' f_this_otherp2 f_this_columnp10_16) → va_S A s.heap H locs → lv_has ls 4 [(0, .ref h_this), (1, .int x1p2), (2, .int x2p62')] → W p l e krX5_permute s m args below meth c H locs cells slots Q (F0 m 124 ls [])) → W p l e krX5_permute s m args below meth c H locs cells slots Q (F0 m 62 ls []) := by
  obtain ⟨hx, hb, hml, hown, hts⟩ := id C0
  intro fuel
  induction fuel with
  | zero =>
    intro x2p62 f_this_statep62 r h
    exact absurd h (kb_w_z _ _ _)
  | succ fuel ih =>
    intro x2p62 f_this_statep62 r h H locs ls hP hD hS hl hk0
    obtain ⟨o, h, ho⟩ := kb_w_s h
    have h : kSX5_permute_62 f_this_columnp10_16 x2p62 f_this_statep62 = some o := h
    unfold kSX5_permute_62 at h
    refine lv_iload_n hx hb kdX5_permute_62 rfl (lv_at hl 2 rfl) ?_
    refine lv_iconst (v := 5) hx hb kdX5_permute_63 (by decide) ?_
    refine lv_icmp_ge (tgt := 124) hx hb kdX5_permute_64 (by decide) (fun c_17 => ?_) (fun c_17 => ?_)
    · have h := kb_b_t c_17 h
      obtain rfl := Option.some.inj h
      exact hk0 x2p62 f_this_statep62 ho.symm _ _ _ hP hD hS (lv_sub hl [0, 1, 2] rfl)
    · have h := kb_b_f c_17 h
      refine lv_iconst (v := 0) hx hb kdX5_permute_67 (by decide) ?_
      refine lv_istore_n (lv' := [(3, .int (0 : Int32)), (0, .ref h_this), (1, .int x1p2), (2, .int x2p62)]) hx hb kdX5_permute_68 rfl hl (by decide) rfl (fun ls hl => ?_)
      obtain ⟨r_32, hr_32, h⟩ := kb_o_s h
      refine klX5_permute_69 C0 hlocks hK hN hA hcR hsR h_this a_this x1p2 x2p62 this_taped this_code this_kind this_rate this_filled this_total this_bitAt this_k this_e1 this_du this_dv f_this_turns f_this_round f_this_otherp2 f_this_columnp10_16 100000 (0 : Int32) f_this_statep62 r_32 hr_32 _ _ _ hP hD hS (lv_sub hl [1, 2, 3, 0] rfl) (fun x3p69_29 f_this_statep69_30 er_32 H locs ls hP hD hS hl => ?_)
      subst er_32
      obtain ⟨x2_31, ex2_31⟩ : ∃ y : Int32, y = x2p62 + Int32.ofInt 1 := ⟨_, rfl⟩
      have h := kb_n_s ex2_31 h
      refine lv_iinc (v := x2_31) (lv' := [(2, .int x2_31), (0, .ref h_this), (1, .int x1p2), (3, .int x3p69_29)]) hx hb kdX5_permute_118 hl (k := 2) rfl ex2_31.symm (by decide) rfl (fun ls hl => ?_)
      refine lv_goto (tgt := 62) hx hb kdX5_permute_121 (by decide) ?_
      obtain rfl := Option.some.inj h
      exact ih x2_31 f_this_statep69_30 r ho _ _ _ hP hD hS (lv_sub hl [1, 2, 0] rfl) hk0
set_option maxHeartbeats 4000000 in
set_option maxRecDepth 100000 in
theorem klX5_permute_133 {p : Program} {l : Launch} {e : Env} {s : State} {m : MethodId} {args : Array Value} {below : List Frame} {meth : Method} {c : Code} {cells slots : Nat} {Q : State → Prop} {D : va_G} {cB cI cL cBB cII cSh : ClassId} {A : Nat → Prop} (C0 : CallFix p m c prog_8_method_29_code 4 s args kwA kRX5) (hlocks : meth.locks = false) (hK : va_K D kCl (kb_T cB cI cL cBB cII cSh) s) (hN : kb_N s) (hA : ∀ q, s.heap.size ≤ q → A q) (hcR : cells ≤ krX5_permute.cells) (hsR : slots ≤ krX5_permute.slots) (h_this : Nat) (a_this : Nat → Nat) (x1p2 : Int32) (x2p126 : Int32) (this_taped : Int32) (this_code : Int32) (this_kind : Int32) (this_rate : Int32) (this_filled : Int32) (this_total : Int64) (this_bitAt : Int32) (this_k : Int32) (this_e1 : Int32) (this_du : Int32) (this_dv : Int32) (f_this_turns : Nat → Int32) (f_this_round : Nat → Int64) (f_this_statep62_34 : Nat → Int64) (f_this_columnp10_16 : Nat → Int64) :
    ∀ (fuel : Nat) (x3p133 : Int32) (f_this_otherp133 : Nat → Int64) (r : Int32 × (Nat → Int64)), kb_w (fun u : Int32 × (Nat → Int64) => kSX5_permute_133 x2p126 f_this_turns f_this_statep62_34 u.1 u.2) fuel (x3p133, f_this_otherp133) = some r → ∀ (H : Heap) (locs : List Loc) (ls : Array Slot), va_P D kCl (kWX5_permute cB cI cL cBB cII cSh h_this a_this this_taped this_code this_kind this_rate this_filled this_total this_bitAt this_k this_e1 this_du this_dv f_this_turns f_this_round f_this_statep62_34 f_this_otherp133 f_this_columnp10_16) H → va_D A (kWX5_permute cB cI cL cBB cII cSh h_this a_this this_taped this_code this_kind this_rate this_filled this_total this_bitAt this_k this_e1 this_du this_dv f_this_turns f_this_round f_this_statep62_34 f_this_otherp133 f_this_columnp10_16) → va_S A s.heap H locs → lv_has ls 4 [(0, .ref h_this), (1, .int x1p2), (2, .int x2p126), (3, .int x3p133)] → (∀ (x3p133' : Int32) (f_this_otherp133' : Nat → Int64), r = (x3p133', f_this_otherp133') → ∀ (H : Heap) (locs : List Loc) (ls : Array Slot), va_P D kCl (kWX5_permute cB cI cL cBB cII cSh h_this a_this this_taped this_code this_kind this_rate this_filled this_total this_bitAt this_k this_e1 this_du this_dv f_this_turns f_this_round f_this_statep62_34 f_this_otherp133' f_this_columnp10_16) H → va_D A (kWX5_permute cB cI cL cBB cII cSh h_this a_this this_taped this_code this_kind this_rate this_filled this_total this_bitAt this_k this_e1 this_du this_dv f_this_turns f_this_round f_this_statep62_34 f_this_otherp133' f_this_columnp10_16) → va_S A s.heap H locs → lv_has ls 4 [(0, .ref h_this), (1, .int x1p2), (2, .int x2p126), (3, .int x3p133')] → W p l e krX5_permute s m args below meth c H locs cells slots Q (F0 m 185 ls [])) → W p l e krX5_permute s m args below meth c H locs cells slots Q (F0 m 133 ls []) := by
  obtain ⟨hx, hb, hml, hown, hts⟩ := id C0
  intro fuel
  induction fuel with
  | zero =>
    intro x3p133 f_this_otherp133 r h
    exact absurd h (kb_w_z _ _ _)
  | succ fuel ih =>
    intro x3p133 f_this_otherp133 r h H locs ls hP hD hS hl hk0
    obtain ⟨o, h, ho⟩ := kb_w_s h
    have h : kSX5_permute_133 x2p126 f_this_turns f_this_statep62_34 x3p133 f_this_otherp133 = some o := h
    unfold kSX5_permute_133 at h
    refine lv_iload_n hx hb kdX5_permute_133 rfl (lv_at hl 3 rfl) ?_
    refine lv_iconst (v := 5) hx hb kdX5_permute_134 (by decide) ?_
    refine lv_icmp_ge (tgt := 185) hx hb kdX5_permute_135 (by decide) (fun c_36 => ?_) (fun c_36 => ?_)
    · have h := kb_b_t c_36 h
      obtain rfl := Option.some.inj h
      exact hk0 x3p133 f_this_otherp133 ho.symm _ _ _ hP hD hS (lv_sub hl [0, 1, 2, 3] rfl)
    · have h := kb_b_f c_36 h
      refine lv_aload_n hx hb kdX5_permute_138 rfl (lv_at hl 0 rfl) ?_
      refine va_get (ci := 5) (v := .ref (a_this 14)) (C := kRX5) (T := kTX5) (N := 35) hx hb hts kinX5 hown hK hP 0 rfl rfl 14 (by decide) (hts _ km_695) (fun _ h9 => h9) rfl kdX5_permute_139 ?_
      refine lv_iload_n hx hb kdX5_permute_142 rfl (lv_at hl 3 rfl) ?_
      refine lv_iconst (v := 5) hx hb kdX5_permute_143 (by decide) ?_
      refine lv_iconst (v := 2) hx hb kdX5_permute_144 (by decide) ?_
      refine lv_iload_n hx hb kdX5_permute_145 rfl (lv_at hl 2 rfl) ?_
      refine lv_imul hx hb kdX5_permute_146 ?_
      refine lv_iconst (v := 3) hx hb kdX5_permute_147 (by decide) ?_
      refine lv_iload_n hx hb kdX5_permute_148 rfl (lv_at hl 3 rfl) ?_
      refine lv_imul hx hb kdX5_permute_149 ?_
      refine lv_iadd hx hb kdX5_permute_150 ?_
      refine lv_iconst (v := 5) hx hb kdX5_permute_151 (by decide) ?_
      refine lv_irem hx hb kdX5_permute_152 (by decide) ?_
      refine lv_topi (fun q_37 eq_37 => ?_)
      have h := kb_n_s eq_37 h
      refine lv_imul hx hb kdX5_permute_153 ?_
      refine lv_iadd hx hb kdX5_permute_154 ?_
      refine lv_aload_n hx hb kdX5_permute_155 rfl (lv_at hl 0 rfl) ?_
      refine va_get (ci := 5) (v := .ref (a_this 13)) (C := kRX5) (T := kTX5) (N := 35) hx hb hts kinX5 hown hK hP 0 rfl rfl 13 (by decide) (hts _ km_694) (fun _ h9 => h9) rfl kdX5_permute_156 ?_
      refine lv_iload_n hx hb kdX5_permute_159 rfl (lv_at hl 2 rfl) ?_
      refine lv_iconst (v := 5) hx hb kdX5_permute_160 (by decide) ?_
      refine lv_iload_n hx hb kdX5_permute_161 rfl (lv_at hl 3 rfl) ?_
      refine lv_imul hx hb kdX5_permute_162 ?_
      refine lv_iadd hx hb kdX5_permute_163 ?_
      obtain ⟨g_38, h⟩ := kb_g_s h
      refine va_lald hx hb hK hP 3 2 rfl rfl (kb_in_v g_38) kdX5_permute_164 ?_
      refine lv_aload_n hx hb kdX5_permute_165 rfl (lv_at hl 0 rfl) ?_
      refine va_get (ci := 5) (v := .ref (a_this 11)) (C := kRX5) (T := kTX5) (N := 35) hx hb hts kinX5 hown hK hP 0 rfl rfl 11 (by decide) (hts _ km_692) (fun _ h9 => h9) rfl kdX5_permute_166 ?_
      refine lv_iload_n hx hb kdX5_permute_169 rfl (lv_at hl 2 rfl) ?_
      refine lv_iconst (v := 5) hx hb kdX5_permute_170 (by decide) ?_
      refine lv_iload_n hx hb kdX5_permute_171 rfl (lv_at hl 3 rfl) ?_
      refine lv_imul hx hb kdX5_permute_172 ?_
      refine lv_iadd hx hb kdX5_permute_173 ?_
      obtain ⟨g_39, h⟩ := kb_g_s h
      refine va_iald hx hb hK hP 1 1 rfl rfl (kb_in_v g_39) kdX5_permute_174 ?_
      obtain ⟨u_41, hu_41, h⟩ := kb_o_s h
      obtain ⟨r_40, rfl⟩ : ∃ z, z = u_41 := ⟨_, rfl⟩
      have hC := (show ([] : List Nat).map (fun i : Nat => (kWX5_permute cB cI cL cBB cII cSh h_this a_this this_taped this_code this_kind this_rate this_filled this_total this_bitAt this_k this_e1 this_du this_dv f_this_turns f_this_round f_this_statep62_34 f_this_otherp133 f_this_columnp10_16)[i]?) = List.map some (kWX5_left cB cI cL cBB cII cSh) from rfl)
      have hPc := kb_Psub hP ([] : List Nat) hC
      have hDc := kb_Dsub hD ([] : List Nat) hC (by simp [kb_nd])
      refine kb_call0 (va_runS (As := [.long (f_this_statep62_34 (x2p126 + ((5 : Int32) * x3p133)).toNatClampNeg), .int (f_this_turns (x2p126 + ((5 : Int32) * x3p133)).toNatClampNeg)]) (rest := [.int (x3p133 + ((5 : Int32) * q_37)), .ref (a_this 14)]) C0 (kcX5_left l D cB cI cL cBB cII cSh  _ (f_this_statep62_34 (x2p126 + ((5 : Int32) * x3p133)).toNatClampNeg) (f_this_turns (x2p126 + ((5 : Int32) * x3p133)).toNatClampNeg) r_40 hu_41) (va_cwS 2 hts (kb_gS km_658 km_659 km_6 km_660) rfl rfl rfl (by decide +kernel) ⟨Nat.le_of_ble_eq_true rfl, Nat.le_of_ble_eq_true rfl⟩) ⟨kb_P_bl, (fun U hU hW => ⟨rfl, by rw [hU], by rw [hU]; exact hPc, va_K.moved hW.alike hK, kb_N_to hW hN, hDc.weaken (fun _ _ _ _ => trivial)⟩)⟩ rfl rfl hl.1 rfl (lv_room (Nat.le_of_ble_eq_true rfl)) kdX5_permute_175 ⟨hcR, hsR⟩) hP hD hS hA ([] : List Nat) hC rfl (fun H locs hP hD hS => ?_)
      have hP : va_P D kCl (kWX5_permute cB cI cL cBB cII cSh h_this a_this this_taped this_code this_kind this_rate this_filled this_total this_bitAt this_k this_e1 this_du this_dv f_this_turns f_this_round f_this_statep62_34 f_this_otherp133 f_this_columnp10_16) H := hP
      have hD : va_D A (kWX5_permute cB cI cL cBB cII cSh h_this a_this this_taped this_code this_kind this_rate this_filled this_total this_bitAt this_k this_e1 this_du this_dv f_this_turns f_this_round f_this_statep62_34 f_this_otherp133 f_this_columnp10_16) := hD
      obtain ⟨g_42, h⟩ := kb_g_s h
      refine va_last hx hb hK hP hD hS 4 2 rfl rfl (kb_in_v g_42) kdX5_permute_178 (fun H locs hP hD hS => ?_)
      obtain ⟨f_43, ef_43⟩ : ∃ y, y = vp_updL f_this_otherp133 (x3p133 + ((5 : Int32) * q_37)).toNatClampNeg r_40 := ⟨_, rfl⟩
      have h := kb_n_s ef_43 h
      have hP : va_P D kCl (kWX5_permute cB cI cL cBB cII cSh h_this a_this this_taped this_code this_kind this_rate this_filled this_total this_bitAt this_k this_e1 this_du this_dv f_this_turns f_this_round f_this_statep62_34 f_43 f_this_columnp10_16) H := by rw [ef_43]; exact hP
      have hD : va_D A (kWX5_permute cB cI cL cBB cII cSh h_this a_this this_taped this_code this_kind this_rate this_filled this_total this_bitAt this_k this_e1 this_du this_dv f_this_turns f_this_round f_this_statep62_34 f_43 f_this_columnp10_16) := by rw [ef_43]; exact hD
      obtain ⟨x3_44, ex3_44⟩ : ∃ y : Int32, y = x3p133 + Int32.ofInt 1 := ⟨_, rfl⟩
      have h := kb_n_s ex3_44 h
      refine lv_iinc (v := x3_44) (lv' := [(3, .int x3_44), (0, .ref h_this), (1, .int x1p2), (2, .int x2p126)]) hx hb kdX5_permute_179 hl (k := 3) rfl ex3_44.symm (by decide) rfl (fun ls hl => ?_)
      refine lv_goto (tgt := 133) hx hb kdX5_permute_182 (by decide) ?_
      obtain rfl := Option.some.inj h
      exact ih x3_44 f_43 r ho _ _ _ hP hD hS (lv_sub hl [1, 2, 3, 0] rfl) hk0
set_option maxHeartbeats 4000000 in
set_option maxRecDepth 100000 in
theorem klX5_permute_126 {p : Program} {l : Launch} {e : Env} {s : State} {m : MethodId} {args : Array Value} {below : List Frame} {meth : Method} {c : Code} {cells slots : Nat} {Q : State → Prop} {D : va_G} {cB cI cL cBB cII cSh : ClassId} {A : Nat → Prop} (C0 : CallFix p m c prog_8_method_29_code 4 s args kwA kRX5) (hlocks : meth.locks = false) (hK : va_K D kCl (kb_T cB cI cL cBB cII cSh) s) (hN : kb_N s) (hA : ∀ q, s.heap.size ≤ q → A q) (hcR : cells ≤ krX5_permute.cells) (hsR : slots ≤ krX5_permute.slots) (h_this : Nat) (a_this : Nat → Nat) (x1p2 : Int32) (this_taped : Int32) (this_code : Int32) (this_kind : Int32) (this_rate : Int32) (this_filled : Int32) (this_total : Int64) (this_bitAt : Int32) (this_k : Int32) (this_e1 : Int32) (this_du : Int32) (this_dv : Int32) (f_this_turns : Nat → Int32) (f_this_round : Nat → Int64) (f_this_statep62_34 : Nat → Int64) (f_this_columnp10_16 : Nat → Int64) :
    ∀ (fuel : Nat) (x2p126 : Int32) (f_this_otherp126 : Nat → Int64) (r : Int32 × (Nat → Int64)), kb_w (fun u : Int32 × (Nat → Int64) => kSX5_permute_126 f_this_turns f_this_statep62_34 u.1 u.2) fuel (x2p126, f_this_otherp126) = some r → ∀ (H : Heap) (locs : List Loc) (ls : Array Slot), va_P D kCl (kWX5_permute cB cI cL cBB cII cSh h_this a_this this_taped this_code this_kind this_rate this_filled this_total this_bitAt this_k this_e1 this_du this_dv f_this_turns f_this_round f_this_statep62_34 f_this_otherp126 f_this_columnp10_16) H → va_D A (kWX5_permute cB cI cL cBB cII cSh h_this a_this this_taped this_code this_kind this_rate this_filled this_total this_bitAt this_k this_e1 this_du this_dv f_this_turns f_this_round f_this_statep62_34 f_this_otherp126 f_this_columnp10_16) → va_S A s.heap H locs → lv_has ls 4 [(0, .ref h_this), (1, .int x1p2), (2, .int x2p126)] → (∀ (x2p126' : Int32) (f_this_otherp126' : Nat → Int64), r = (x2p126', f_this_otherp126') → ∀ (H : Heap) (locs : List Loc) (ls : Array Slot), va_P D kCl (kWX5_permute cB cI cL cBB cII cSh h_this a_this this_taped this_code this_kind this_rate this_filled this_total this_bitAt this_k this_e1 this_du this_dv f_this_turns f_this_round f_this_statep62_34 f_this_otherp126' f_this_columnp10_16) H → va_D A (kWX5_permute cB cI cL cBB cII cSh h_this a_this this_taped this_code this_kind this_rate this_filled this_total this_bitAt this_k this_e1 this_du this_dv f_this_turns f_this_round f_this_statep62_34 f_this_otherp126' f_this_columnp10_16) → va_S A s.heap H locs → lv_has ls 4 [(0, .ref h_this), (1, .int x1p2), (2, .int x2p126')] → W p l e krX5_permute s m args below meth c H locs cells slots Q (F0 m 191 ls [])) → W p l e krX5_permute s m args below meth c H locs cells slots Q (F0 m 126 ls []) := by
  obtain ⟨hx, hb, hml, hown, hts⟩ := id C0
  intro fuel
  induction fuel with
  | zero =>
    intro x2p126 f_this_otherp126 r h
    exact absurd h (kb_w_z _ _ _)
  | succ fuel ih =>
    intro x2p126 f_this_otherp126 r h H locs ls hP hD hS hl hk0
    obtain ⟨o, h, ho⟩ := kb_w_s h
    have h : kSX5_permute_126 f_this_turns f_this_statep62_34 x2p126 f_this_otherp126 = some o := h
    unfold kSX5_permute_126 at h
    refine lv_iload_n hx hb kdX5_permute_126 rfl (lv_at hl 2 rfl) ?_
    refine lv_iconst (v := 5) hx hb kdX5_permute_127 (by decide) ?_
    refine lv_icmp_ge (tgt := 191) hx hb kdX5_permute_128 (by decide) (fun c_35 => ?_) (fun c_35 => ?_)
    · have h := kb_b_t c_35 h
      obtain rfl := Option.some.inj h
      exact hk0 x2p126 f_this_otherp126 ho.symm _ _ _ hP hD hS (lv_sub hl [0, 1, 2] rfl)
    · have h := kb_b_f c_35 h
      refine lv_iconst (v := 0) hx hb kdX5_permute_131 (by decide) ?_
      refine lv_istore_n (lv' := [(3, .int (0 : Int32)), (0, .ref h_this), (1, .int x1p2), (2, .int x2p126)]) hx hb kdX5_permute_132 rfl hl (by decide) rfl (fun ls hl => ?_)
      obtain ⟨r_48, hr_48, h⟩ := kb_o_s h
      refine klX5_permute_133 C0 hlocks hK hN hA hcR hsR h_this a_this x1p2 x2p126 this_taped this_code this_kind this_rate this_filled this_total this_bitAt this_k this_e1 this_du this_dv f_this_turns f_this_round f_this_statep62_34 f_this_columnp10_16 100000 (0 : Int32) f_this_otherp126 r_48 hr_48 _ _ _ hP hD hS (lv_sub hl [1, 2, 3, 0] rfl) (fun x3p133_45 f_this_otherp133_46 er_48 H locs ls hP hD hS hl => ?_)
      subst er_48
      obtain ⟨x2_47, ex2_47⟩ : ∃ y : Int32, y = x2p126 + Int32.ofInt 1 := ⟨_, rfl⟩
      have h := kb_n_s ex2_47 h
      refine lv_iinc (v := x2_47) (lv' := [(2, .int x2_47), (0, .ref h_this), (1, .int x1p2), (3, .int x3p133_45)]) hx hb kdX5_permute_185 hl (k := 2) rfl ex2_47.symm (by decide) rfl (fun ls hl => ?_)
      refine lv_goto (tgt := 126) hx hb kdX5_permute_188 (by decide) ?_
      obtain rfl := Option.some.inj h
      exact ih x2_47 f_this_otherp133_46 r ho _ _ _ hP hD hS (lv_sub hl [1, 2, 0] rfl) hk0
set_option maxHeartbeats 4000000 in
set_option maxRecDepth 100000 in
theorem klX5_permute_200 {p : Program} {l : Launch} {e : Env} {s : State} {m : MethodId} {args : Array Value} {below : List Frame} {meth : Method} {c : Code} {cells slots : Nat} {Q : State → Prop} {D : va_G} {cB cI cL cBB cII cSh : ClassId} {A : Nat → Prop} (C0 : CallFix p m c prog_8_method_29_code 4 s args kwA kRX5) (hlocks : meth.locks = false) (hK : va_K D kCl (kb_T cB cI cL cBB cII cSh) s) (hN : kb_N s) (hA : ∀ q, s.heap.size ≤ q → A q) (hcR : cells ≤ krX5_permute.cells) (hsR : slots ≤ krX5_permute.slots) (h_this : Nat) (a_this : Nat → Nat) (x1p2 : Int32) (x2p193 : Int32) (this_taped : Int32) (this_code : Int32) (this_kind : Int32) (this_rate : Int32) (this_filled : Int32) (this_total : Int64) (this_bitAt : Int32) (this_k : Int32) (this_e1 : Int32) (this_du : Int32) (this_dv : Int32) (f_this_turns : Nat → Int32) (f_this_round : Nat → Int64) (f_this_otherp126_50 : Nat → Int64) (f_this_columnp10_16 : Nat → Int64) :
    ∀ (fuel : Nat) (x3p200 : Int32) (f_this_statep200 : Nat → Int64) (r : Int32 × (Nat → Int64)), kb_w (fun u : Int32 × (Nat → Int64) => kSX5_permute_200 x2p193 f_this_otherp126_50 u.1 u.2) fuel (x3p200, f_this_statep200) = some r → ∀ (H : Heap) (locs : List Loc) (ls : Array Slot), va_P D kCl (kWX5_permute cB cI cL cBB cII cSh h_this a_this this_taped this_code this_kind this_rate this_filled this_total this_bitAt this_k this_e1 this_du this_dv f_this_turns f_this_round f_this_statep200 f_this_otherp126_50 f_this_columnp10_16) H → va_D A (kWX5_permute cB cI cL cBB cII cSh h_this a_this this_taped this_code this_kind this_rate this_filled this_total this_bitAt this_k this_e1 this_du this_dv f_this_turns f_this_round f_this_statep200 f_this_otherp126_50 f_this_columnp10_16) → va_S A s.heap H locs → lv_has ls 4 [(0, .ref h_this), (1, .int x1p2), (2, .int x2p193), (3, .int x3p200)] → (∀ (x3p200' : Int32) (f_this_statep200' : Nat → Int64), r = (x3p200', f_this_statep200') → ∀ (H : Heap) (locs : List Loc) (ls : Array Slot), va_P D kCl (kWX5_permute cB cI cL cBB cII cSh h_this a_this this_taped this_code this_kind this_rate this_filled this_total this_bitAt this_k this_e1 this_du this_dv f_this_turns f_this_round f_this_statep200' f_this_otherp126_50 f_this_columnp10_16) H → va_D A (kWX5_permute cB cI cL cBB cII cSh h_this a_this this_taped this_code this_kind this_rate this_filled this_total this_bitAt this_k this_e1 this_du this_dv f_this_turns f_this_round f_this_statep200' f_this_otherp126_50 f_this_columnp10_16) → va_S A s.heap H locs → lv_has ls 4 [(0, .ref h_this), (1, .int x1p2), (2, .int x2p193), (3, .int x3p200')] → W p l e krX5_permute s m args below meth c H locs cells slots Q (F0 m 265 ls [])) → W p l e krX5_permute s m args below meth c H locs cells slots Q (F0 m 200 ls []) := by
  obtain ⟨hx, hb, hml, hown, hts⟩ := id C0
  intro fuel
  induction fuel with
  | zero =>
    intro x3p200 f_this_statep200 r h
    exact absurd h (kb_w_z _ _ _)
  | succ fuel ih =>
    intro x3p200 f_this_statep200 r h H locs ls hP hD hS hl hk0
    obtain ⟨o, h, ho⟩ := kb_w_s h
    have h : kSX5_permute_200 x2p193 f_this_otherp126_50 x3p200 f_this_statep200 = some o := h
    unfold kSX5_permute_200 at h
    refine lv_iload_n hx hb kdX5_permute_200 rfl (lv_at hl 3 rfl) ?_
    refine lv_iconst (v := 5) hx hb kdX5_permute_201 (by decide) ?_
    refine lv_icmp_ge (tgt := 265) hx hb kdX5_permute_202 (by decide) (fun c_52 => ?_) (fun c_52 => ?_)
    · have h := kb_b_t c_52 h
      obtain rfl := Option.some.inj h
      exact hk0 x3p200 f_this_statep200 ho.symm _ _ _ hP hD hS (lv_sub hl [0, 1, 2, 3] rfl)
    · have h := kb_b_f c_52 h
      refine lv_aload_n hx hb kdX5_permute_205 rfl (lv_at hl 0 rfl) ?_
      refine va_get (ci := 5) (v := .ref (a_this 13)) (C := kRX5) (T := kTX5) (N := 35) hx hb hts kinX5 hown hK hP 0 rfl rfl 13 (by decide) (hts _ km_694) (fun _ h9 => h9) rfl kdX5_permute_206 ?_
      refine lv_iload_n hx hb kdX5_permute_209 rfl (lv_at hl 2 rfl) ?_
      refine lv_iconst (v := 5) hx hb kdX5_permute_210 (by decide) ?_
      refine lv_iload_n hx hb kdX5_permute_211 rfl (lv_at hl 3 rfl) ?_
      refine lv_imul hx hb kdX5_permute_212 ?_
      refine lv_iadd hx hb kdX5_permute_213 ?_
      refine lv_aload_n hx hb kdX5_permute_214 rfl (lv_at hl 0 rfl) ?_
      refine va_get (ci := 5) (v := .ref (a_this 14)) (C := kRX5) (T := kTX5) (N := 35) hx hb hts kinX5 hown hK hP 0 rfl rfl 14 (by decide) (hts _ km_695) (fun _ h9 => h9) rfl kdX5_permute_215 ?_
      refine lv_iload_n hx hb kdX5_permute_218 rfl (lv_at hl 2 rfl) ?_
      refine lv_iconst (v := 5) hx hb kdX5_permute_219 (by decide) ?_
      refine lv_iload_n hx hb kdX5_permute_220 rfl (lv_at hl 3 rfl) ?_
      refine lv_imul hx hb kdX5_permute_221 ?_
      refine lv_iadd hx hb kdX5_permute_222 ?_
      obtain ⟨g_53, h⟩ := kb_g_s h
      refine va_lald hx hb hK hP 4 2 rfl rfl (kb_in_v g_53) kdX5_permute_223 ?_
      refine lv_aload_n hx hb kdX5_permute_224 rfl (lv_at hl 0 rfl) ?_
      refine va_get (ci := 5) (v := .ref (a_this 14)) (C := kRX5) (T := kTX5) (N := 35) hx hb hts kinX5 hown hK hP 0 rfl rfl 14 (by decide) (hts _ km_695) (fun _ h9 => h9) rfl kdX5_permute_225 ?_
      refine lv_iload_n hx hb kdX5_permute_228 rfl (lv_at hl 2 rfl) ?_
      refine lv_iconst (v := 1) hx hb kdX5_permute_229 (by decide) ?_
      refine lv_iadd hx hb kdX5_permute_230 ?_
      refine lv_iconst (v := 5) hx hb kdX5_permute_231 (by decide) ?_
      refine lv_irem hx hb kdX5_permute_232 (by decide) ?_
      refine lv_topi (fun q_54 eq_54 => ?_)
      have h := kb_n_s eq_54 h
      refine lv_iconst (v := 5) hx hb kdX5_permute_233 (by decide) ?_
      refine lv_iload_n hx hb kdX5_permute_234 rfl (lv_at hl 3 rfl) ?_
      refine lv_imul hx hb kdX5_permute_235 ?_
      refine lv_iadd hx hb kdX5_permute_236 ?_
      obtain ⟨g_55, h⟩ := kb_g_s h
      refine va_lald hx hb hK hP 4 2 rfl rfl (kb_in_v g_55) kdX5_permute_237 ?_
      refine lv_ldc2 (v := -1) hx hb hown (hts _ km_661) kdX5_permute_238 ?_
      refine lv_lxor hx hb kdX5_permute_241 ?_
      refine lv_aload_n hx hb kdX5_permute_242 rfl (lv_at hl 0 rfl) ?_
      refine va_get (ci := 5) (v := .ref (a_this 14)) (C := kRX5) (T := kTX5) (N := 35) hx hb hts kinX5 hown hK hP 0 rfl rfl 14 (by decide) (hts _ km_695) (fun _ h9 => h9) rfl kdX5_permute_243 ?_
      refine lv_iload_n hx hb kdX5_permute_246 rfl (lv_at hl 2 rfl) ?_
      refine lv_iconst (v := 2) hx hb kdX5_permute_247 (by decide) ?_
      refine lv_iadd hx hb kdX5_permute_248 ?_
      refine lv_iconst (v := 5) hx hb kdX5_permute_249 (by decide) ?_
      refine lv_irem hx hb kdX5_permute_250 (by decide) ?_
      refine lv_topi (fun q_56 eq_56 => ?_)
      have h := kb_n_s eq_56 h
      refine lv_iconst (v := 5) hx hb kdX5_permute_251 (by decide) ?_
      refine lv_iload_n hx hb kdX5_permute_252 rfl (lv_at hl 3 rfl) ?_
      refine lv_imul hx hb kdX5_permute_253 ?_
      refine lv_iadd hx hb kdX5_permute_254 ?_
      obtain ⟨g_57, h⟩ := kb_g_s h
      refine va_lald hx hb hK hP 4 2 rfl rfl (kb_in_v g_57) kdX5_permute_255 ?_
      refine lv_land hx hb kdX5_permute_256 ?_
      refine lv_lxor hx hb kdX5_permute_257 ?_
      obtain ⟨g_58, h⟩ := kb_g_s h
      refine va_last hx hb hK hP hD hS 3 2 rfl rfl (kb_in_v g_58) kdX5_permute_258 (fun H locs hP hD hS => ?_)
      obtain ⟨f_59, ef_59⟩ : ∃ y, y = vp_updL f_this_statep200 (x2p193 + ((5 : Int32) * x3p200)).toNatClampNeg ((f_this_otherp126_50 (x2p193 + ((5 : Int32) * x3p200)).toNatClampNeg) ^^^ (((f_this_otherp126_50 (q_54 + ((5 : Int32) * x3p200)).toNatClampNeg) ^^^ (-1 : Int64)) &&& (f_this_otherp126_50 (q_56 + ((5 : Int32) * x3p200)).toNatClampNeg))) := ⟨_, rfl⟩
      have h := kb_n_s ef_59 h
      have hP : va_P D kCl (kWX5_permute cB cI cL cBB cII cSh h_this a_this this_taped this_code this_kind this_rate this_filled this_total this_bitAt this_k this_e1 this_du this_dv f_this_turns f_this_round f_59 f_this_otherp126_50 f_this_columnp10_16) H := by rw [ef_59]; exact hP
      have hD : va_D A (kWX5_permute cB cI cL cBB cII cSh h_this a_this this_taped this_code this_kind this_rate this_filled this_total this_bitAt this_k this_e1 this_du this_dv f_this_turns f_this_round f_59 f_this_otherp126_50 f_this_columnp10_16) := by rw [ef_59]; exact hD
      obtain ⟨x3_60, ex3_60⟩ : ∃ y : Int32, y = x3p200 + Int32.ofInt 1 := ⟨_, rfl⟩
      have h := kb_n_s ex3_60 h
      refine lv_iinc (v := x3_60) (lv' := [(3, .int x3_60), (0, .ref h_this), (1, .int x1p2), (2, .int x2p193)]) hx hb kdX5_permute_259 hl (k := 3) rfl ex3_60.symm (by decide) rfl (fun ls hl => ?_)
      refine lv_goto (tgt := 200) hx hb kdX5_permute_262 (by decide) ?_
      obtain rfl := Option.some.inj h
      exact ih x3_60 f_59 r ho _ _ _ hP hD hS (lv_sub hl [1, 2, 3, 0] rfl) hk0
set_option maxHeartbeats 4000000 in
set_option maxRecDepth 100000 in
theorem klX5_permute_193 {p : Program} {l : Launch} {e : Env} {s : State} {m : MethodId} {args : Array Value} {below : List Frame} {meth : Method} {c : Code} {cells slots : Nat} {Q : State → Prop} {D : va_G} {cB cI cL cBB cII cSh : ClassId} {A : Nat → Prop} (C0 : CallFix p m c prog_8_method_29_code 4 s args kwA kRX5) (hlocks : meth.locks = false) (hK : va_K D kCl (kb_T cB cI cL cBB cII cSh) s) (hN : kb_N s) (hA : ∀ q, s.heap.size ≤ q → A q) (hcR : cells ≤ krX5_permute.cells) (hsR : slots ≤ krX5_permute.slots) (h_this : Nat) (a_this : Nat → Nat) (x1p2 : Int32) (this_taped : Int32) (this_code : Int32) (this_kind : Int32) (this_rate : Int32) (this_filled : Int32) (this_total : Int64) (this_bitAt : Int32) (this_k : Int32) (this_e1 : Int32) (this_du : Int32) (this_dv : Int32) (f_this_turns : Nat → Int32) (f_this_round : Nat → Int64) (f_this_otherp126_50 : Nat → Int64) (f_this_columnp10_16 : Nat → Int64) :
    ∀ (fuel : Nat) (x2p193 : Int32) (f_this_statep193 : Nat → Int64) (r : Int32 × (Nat → Int64)), kb_w (fun u : Int32 × (Nat → Int64) => kSX5_permute_193 f_this_otherp126_50 u.1 u.2) fuel (x2p193, f_this_statep193) = some r → ∀ (H : Heap) (locs : List Loc) (ls : Array Slot), va_P D kCl (kWX5_permute cB cI cL cBB cII cSh h_this a_this this_taped this_code this_kind this_rate this_filled this_total this_bitAt this_k this_e1 this_du this_dv f_this_turns f_this_round f_this_statep193 f_this_otherp126_50 f_this_columnp10_16) H → va_D A (kWX5_permute cB cI cL cBB cII cSh h_this a_this this_taped this_code this_kind this_rate this_filled this_total this_bitAt this_k this_e1 this_du this_dv f_this_turns f_this_round f_this_statep193 f_this_otherp126_50 f_this_columnp10_16) → va_S A s.heap H locs → lv_has ls 4 [(0, .ref h_this), (1, .int x1p2), (2, .int x2p193)] → (∀ (x2p193' : Int32) (f_this_statep193' : Nat → Int64), r = (x2p193', f_this_statep193') → ∀ (H : Heap) (locs : List Loc) (ls : Array Slot), va_P D kCl (kWX5_permute cB cI cL cBB cII cSh h_this a_this this_taped this_code this_kind this_rate this_filled this_total this_bitAt this_k this_e1 this_du this_dv f_this_turns f_this_round f_this_statep193' f_this_otherp126_50 f_this_columnp10_16) H → va_D A (kWX5_permute cB cI cL cBB cII cSh h_this a_this this_taped this_code this_kind this_rate this_filled this_total this_bitAt this_k this_e1 this_du this_dv f_this_turns f_this_round f_this_statep193' f_this_otherp126_50 f_this_columnp10_16) → va_S A s.heap H locs → lv_has ls 4 [(0, .ref h_this), (1, .int x1p2), (2, .int x2p193')] → W p l e krX5_permute s m args below meth c H locs cells slots Q (F0 m 271 ls [])) → W p l e krX5_permute s m args below meth c H locs cells slots Q (F0 m 193 ls []) := by
  obtain ⟨hx, hb, hml, hown, hts⟩ := id C0
  intro fuel
  induction fuel with
  | zero =>
    intro x2p193 f_this_statep193 r h
    exact absurd h (kb_w_z _ _ _)
  | succ fuel ih =>
    intro x2p193 f_this_statep193 r h H locs ls hP hD hS hl hk0
    obtain ⟨o, h, ho⟩ := kb_w_s h
    have h : kSX5_permute_193 f_this_otherp126_50 x2p193 f_this_statep193 = some o := h
    unfold kSX5_permute_193 at h
    refine lv_iload_n hx hb kdX5_permute_193 rfl (lv_at hl 2 rfl) ?_
    refine lv_iconst (v := 5) hx hb kdX5_permute_194 (by decide) ?_
    refine lv_icmp_ge (tgt := 271) hx hb kdX5_permute_195 (by decide) (fun c_51 => ?_) (fun c_51 => ?_)
    · have h := kb_b_t c_51 h
      obtain rfl := Option.some.inj h
      exact hk0 x2p193 f_this_statep193 ho.symm _ _ _ hP hD hS (lv_sub hl [0, 1, 2] rfl)
    · have h := kb_b_f c_51 h
      refine lv_iconst (v := 0) hx hb kdX5_permute_198 (by decide) ?_
      refine lv_istore_n (lv' := [(3, .int (0 : Int32)), (0, .ref h_this), (1, .int x1p2), (2, .int x2p193)]) hx hb kdX5_permute_199 rfl hl (by decide) rfl (fun ls hl => ?_)
      obtain ⟨r_64, hr_64, h⟩ := kb_o_s h
      refine klX5_permute_200 C0 hlocks hK hN hA hcR hsR h_this a_this x1p2 x2p193 this_taped this_code this_kind this_rate this_filled this_total this_bitAt this_k this_e1 this_du this_dv f_this_turns f_this_round f_this_otherp126_50 f_this_columnp10_16 100000 (0 : Int32) f_this_statep193 r_64 hr_64 _ _ _ hP hD hS (lv_sub hl [1, 2, 3, 0] rfl) (fun x3p200_61 f_this_statep200_62 er_64 H locs ls hP hD hS hl => ?_)
      subst er_64
      obtain ⟨x2_63, ex2_63⟩ : ∃ y : Int32, y = x2p193 + Int32.ofInt 1 := ⟨_, rfl⟩
      have h := kb_n_s ex2_63 h
      refine lv_iinc (v := x2_63) (lv' := [(2, .int x2_63), (0, .ref h_this), (1, .int x1p2), (3, .int x3p200_61)]) hx hb kdX5_permute_265 hl (k := 2) rfl ex2_63.symm (by decide) rfl (fun ls hl => ?_)
      refine lv_goto (tgt := 193) hx hb kdX5_permute_268 (by decide) ?_
      obtain rfl := Option.some.inj h
      exact ih x2_63 f_this_statep200_62 r ho _ _ _ hP hD hS (lv_sub hl [1, 2, 0] rfl) hk0
set_option maxHeartbeats 4000000 in
set_option maxRecDepth 100000 in
theorem klX5_permute_2 {p : Program} {l : Launch} {e : Env} {s : State} {m : MethodId} {args : Array Value} {below : List Frame} {meth : Method} {c : Code} {cells slots : Nat} {Q : State → Prop} {D : va_G} {cB cI cL cBB cII cSh : ClassId} {A : Nat → Prop} (C0 : CallFix p m c prog_8_method_29_code 4 s args kwA kRX5) (hlocks : meth.locks = false) (hK : va_K D kCl (kb_T cB cI cL cBB cII cSh) s) (hN : kb_N s) (hA : ∀ q, s.heap.size ≤ q → A q) (hcR : cells ≤ krX5_permute.cells) (hsR : slots ≤ krX5_permute.slots) (h_this : Nat) (a_this : Nat → Nat) (this_taped : Int32) (this_code : Int32) (this_kind : Int32) (this_rate : Int32) (this_filled : Int32) (this_total : Int64) (this_bitAt : Int32) (this_k : Int32) (this_e1 : Int32) (this_du : Int32) (this_dv : Int32) (f_this_turns : Nat → Int32) (f_this_round : Nat → Int64) :
    ∀ (fuel : Nat) (x1p2 : Int32) (f_this_columnp2 : Nat → Int64) (f_this_otherp2 : Nat → Int64) (f_this_statep2 : Nat → Int64) (r : Int32 × (Nat → Int64) × (Nat → Int64) × (Nat → Int64)), kb_w (fun u : Int32 × (Nat → Int64) × (Nat → Int64) × (Nat → Int64) => kSX5_permute_2 f_this_turns f_this_round u.1 u.2.1 u.2.2.1 u.2.2.2) fuel (x1p2, f_this_columnp2, f_this_otherp2, f_this_statep2) = some r → ∀ (H : Heap) (locs : List Loc) (ls : Array Slot), va_P D kCl (kWX5_permute cB cI cL cBB cII cSh h_this a_this this_taped this_code this_kind this_rate this_filled this_total this_bitAt this_k this_e1 this_du this_dv f_this_turns f_this_round f_this_statep2 f_this_otherp2 f_this_columnp2) H → va_D A (kWX5_permute cB cI cL cBB cII cSh h_this a_this this_taped this_code this_kind this_rate this_filled this_total this_bitAt this_k this_e1 this_du this_dv f_this_turns f_this_round f_this_statep2 f_this_otherp2 f_this_columnp2) → va_S A s.heap H locs → lv_has ls 4 [(0, .ref h_this), (1, .int x1p2)] → (∀ (x1p2' : Int32) (f_this_columnp2' : Nat → Int64) (f_this_otherp2' : Nat → Int64) (f_this_statep2' : Nat → Int64), r = (x1p2', f_this_columnp2', f_this_otherp2', f_this_statep2') → ∀ (H : Heap) (locs : List Loc) (ls : Array Slot), va_P D kCl (kWX5_permute cB cI cL cBB cII cSh h_this a_this this_taped this_code this_kind this_rate this_filled this_total this_bitAt this_k this_e1 this_du this_dv f_this_turns f_this_round f_this_statep2' f_this_otherp2' f_this_columnp2') H → va_D A (kWX5_permute cB cI cL cBB cII cSh h_this a_this this_taped this_code this_kind this_rate this_filled this_total this_bitAt this_k this_e1 this_du this_dv f_this_turns f_this_round f_this_statep2' f_this_otherp2' f_this_columnp2') → va_S A s.heap H locs → lv_has ls 4 [(0, .ref h_this), (1, .int x1p2')] → W p l e krX5_permute s m args below meth c H locs cells slots Q (F0 m 292 ls [])) → W p l e krX5_permute s m args below meth c H locs cells slots Q (F0 m 2 ls []) := by
  obtain ⟨hx, hb, hml, hown, hts⟩ := id C0
  intro fuel
  induction fuel with
  | zero =>
    intro x1p2 f_this_columnp2 f_this_otherp2 f_this_statep2 r h
    exact absurd h (kb_w_z _ _ _)
  | succ fuel ih =>
    intro x1p2 f_this_columnp2 f_this_otherp2 f_this_statep2 r h H locs ls hP hD hS hl hk0
    obtain ⟨o, h, ho⟩ := kb_w_s h
    have h : kSX5_permute_2 f_this_turns f_this_round x1p2 f_this_columnp2 f_this_otherp2 f_this_statep2 = some o := h
    unfold kSX5_permute_2 at h
    refine lv_iload_n hx hb kdX5_permute_2 rfl (lv_at hl 1 rfl) ?_
    refine lv_bipush (v := 24) hx hb kdX5_permute_3 (by decide) ?_
    refine lv_icmp_ge (tgt := 292) hx hb kdX5_permute_5 (by decide) (fun c_1 => ?_) (fun c_1 => ?_)
    · have h := kb_b_t c_1 h
      obtain rfl := Option.some.inj h
      exact hk0 x1p2 f_this_columnp2 f_this_otherp2 f_this_statep2 ho.symm _ _ _ hP hD hS (lv_sub hl [0, 1] rfl)
    · have h := kb_b_f c_1 h
      refine lv_iconst (v := 0) hx hb kdX5_permute_8 (by decide) ?_
      refine lv_istore_n (lv' := [(2, .int (0 : Int32)), (0, .ref h_this), (1, .int x1p2)]) hx hb kdX5_permute_9 rfl hl (by decide) rfl (fun ls hl => ?_)
      obtain ⟨r_73, hr_73, h⟩ := kb_o_s h
      refine klX5_permute_10 C0 hlocks hK hN hA hcR hsR h_this a_this x1p2 this_taped this_code this_kind this_rate this_filled this_total this_bitAt this_k this_e1 this_du this_dv f_this_turns f_this_round f_this_statep2 f_this_otherp2 100000 (0 : Int32) f_this_columnp2 r_73 hr_73 _ _ _ hP hD hS (lv_sub hl [1, 2, 0] rfl) (fun x2p10_15 f_this_columnp10_16 er_73 H locs ls hP hD hS hl => ?_)
      subst er_73
      refine lv_iconst (v := 0) hx hb kdX5_permute_60 (by decide) ?_
      refine lv_istore_n (lv' := [(2, .int (0 : Int32)), (0, .ref h_this), (1, .int x1p2)]) hx hb kdX5_permute_61 rfl hl (by decide) rfl (fun ls hl => ?_)
      obtain ⟨r_72, hr_72, h⟩ := kb_o_s h
      refine klX5_permute_62 C0 hlocks hK hN hA hcR hsR h_this a_this x1p2 this_taped this_code this_kind this_rate this_filled this_total this_bitAt this_k this_e1 this_du this_dv f_this_turns f_this_round f_this_otherp2 f_this_columnp10_16 100000 (0 : Int32) f_this_statep2 r_72 hr_72 _ _ _ hP hD hS (lv_sub hl [1, 2, 0] rfl) (fun x2p62_33 f_this_statep62_34 er_72 H locs ls hP hD hS hl => ?_)
      subst er_72
      refine lv_iconst (v := 0) hx hb kdX5_permute_124 (by decide) ?_
      refine lv_istore_n (lv' := [(2, .int (0 : Int32)), (0, .ref h_this), (1, .int x1p2)]) hx hb kdX5_permute_125 rfl hl (by decide) rfl (fun ls hl => ?_)
      obtain ⟨r_71, hr_71, h⟩ := kb_o_s h
      refine klX5_permute_126 C0 hlocks hK hN hA hcR hsR h_this a_this x1p2 this_taped this_code this_kind this_rate this_filled this_total this_bitAt this_k this_e1 this_du this_dv f_this_turns f_this_round f_this_statep62_34 f_this_columnp10_16 100000 (0 : Int32) f_this_otherp2 r_71 hr_71 _ _ _ hP hD hS (lv_sub hl [1, 2, 0] rfl) (fun x2p126_49 f_this_otherp126_50 er_71 H locs ls hP hD hS hl => ?_)
      subst er_71
      refine lv_iconst (v := 0) hx hb kdX5_permute_191 (by decide) ?_
      refine lv_istore_n (lv' := [(2, .int (0 : Int32)), (0, .ref h_this), (1, .int x1p2)]) hx hb kdX5_permute_192 rfl hl (by decide) rfl (fun ls hl => ?_)
      obtain ⟨r_70, hr_70, h⟩ := kb_o_s h
      refine klX5_permute_193 C0 hlocks hK hN hA hcR hsR h_this a_this x1p2 this_taped this_code this_kind this_rate this_filled this_total this_bitAt this_k this_e1 this_du this_dv f_this_turns f_this_round f_this_otherp126_50 f_this_columnp10_16 100000 (0 : Int32) f_this_statep62_34 r_70 hr_70 _ _ _ hP hD hS (lv_sub hl [1, 2, 0] rfl) (fun x2p193_65 f_this_statep193_66 er_70 H locs ls hP hD hS hl => ?_)
      subst er_70
      refine lv_aload_n hx hb kdX5_permute_271 rfl (lv_at hl 0 rfl) ?_
      refine va_get (ci := 5) (v := .ref (a_this 13)) (C := kRX5) (T := kTX5) (N := 35) hx hb hts kinX5 hown hK hP 0 rfl rfl 13 (by decide) (hts _ km_694) (fun _ h9 => h9) rfl kdX5_permute_272 ?_
      refine lv_iconst (v := 0) hx hb kdX5_permute_275 (by decide) ?_
      refine lv_dup2_11 hx hb kdX5_permute_276 rfl rfl ?_
      refine va_lald hx hb hK hP 3 2 rfl rfl (kb_in_v (by decide)) kdX5_permute_277 ?_
      refine lv_aload_n hx hb kdX5_permute_278 rfl (lv_at hl 0 rfl) ?_
      refine va_get (ci := 5) (v := .ref (a_this 12)) (C := kRX5) (T := kTX5) (N := 35) hx hb hts kinX5 hown hK hP 0 rfl rfl 12 (by decide) (hts _ km_693) (fun _ h9 => h9) rfl kdX5_permute_279 ?_
      refine lv_iload_n hx hb kdX5_permute_282 rfl (lv_at hl 1 rfl) ?_
      obtain ⟨g_67, h⟩ := kb_g_s h
      refine va_lald hx hb hK hP 2 2 rfl rfl (kb_in_v g_67) kdX5_permute_283 ?_
      refine lv_lxor hx hb kdX5_permute_284 ?_
      refine va_last hx hb hK hP hD hS 3 2 rfl rfl (kb_in_v (by decide)) kdX5_permute_285 (fun H locs hP hD hS => ?_)
      obtain ⟨f_68, ef_68⟩ : ∃ y, y = vp_updL f_this_statep193_66 (0 : Int32).toNatClampNeg ((f_this_statep193_66 (0 : Int32).toNatClampNeg) ^^^ (f_this_round x1p2.toNatClampNeg)) := ⟨_, rfl⟩
      have h := kb_n_s ef_68 h
      have hP : va_P D kCl (kWX5_permute cB cI cL cBB cII cSh h_this a_this this_taped this_code this_kind this_rate this_filled this_total this_bitAt this_k this_e1 this_du this_dv f_this_turns f_this_round f_68 f_this_otherp126_50 f_this_columnp10_16) H := by rw [ef_68]; exact hP
      have hD : va_D A (kWX5_permute cB cI cL cBB cII cSh h_this a_this this_taped this_code this_kind this_rate this_filled this_total this_bitAt this_k this_e1 this_du this_dv f_this_turns f_this_round f_68 f_this_otherp126_50 f_this_columnp10_16) := by rw [ef_68]; exact hD
      obtain ⟨x1_69, ex1_69⟩ : ∃ y : Int32, y = x1p2 + Int32.ofInt 1 := ⟨_, rfl⟩
      have h := kb_n_s ex1_69 h
      refine lv_iinc (v := x1_69) (lv' := [(1, .int x1_69), (0, .ref h_this), (2, .int x2p193_65)]) hx hb kdX5_permute_286 hl (k := 1) rfl ex1_69.symm (by decide) rfl (fun ls hl => ?_)
      refine lv_goto (tgt := 2) hx hb kdX5_permute_289 (by decide) ?_
      obtain rfl := Option.some.inj h
      exact ih x1_69 f_this_columnp10_16 f_this_otherp126_50 f_68 r ho _ _ _ hP hD hS (lv_sub hl [1, 0] rfl) hk0
set_option maxHeartbeats 4000000 in
set_option maxRecDepth 100000 in
theorem kcX5_permute (l : Launch) (D : va_G) (cB cI cL cBB cII cSh : ClassId) (h_this : Nat) (a_this : Nat → Nat) (sz : Nat) (this_taped : Int32) (this_code : Int32) (this_kind : Int32) (this_rate : Int32) (this_filled : Int32) (this_total : Int64) (this_bitAt : Int32) (this_k : Int32) (this_e1 : Int32) (this_du : Int32) (this_dv : Int32) (f_this_turns : Nat → Int32) (f_this_round : Nat → Int64) (f_this_state : Nat → Int64) (f_this_other : Nat → Int64) (f_this_column : Nat → Int64) (out : (Nat → Int64) × (Nat → Int64) × (Nat → Int64)) (h : kFX5_permute f_this_turns f_this_round f_this_state f_this_other f_this_column = some out) : Met l kyX5_permute kwX5_permute krX5_permute (kb_P D kCl (kb_T cB cI cL cBB cII cSh) [.ref h_this] (kWX5_permute cB cI cL cBB cII cSh h_this a_this this_taped this_code this_kind this_rate this_filled this_total this_bitAt this_k this_e1 this_du this_dv f_this_turns f_this_round f_this_state f_this_other f_this_column) sz) (kb_Q D kCl (kb_T cB cI cL cBB cII cSh) (va_A (kWX5_permute cB cI cL cBB cII cSh h_this a_this this_taped this_code this_kind this_rate this_filled this_total this_bitAt this_k this_e1 this_du this_dv f_this_turns f_this_round f_this_state f_this_other f_this_column) sz) none (kWX5_permute cB cI cL cBB cII cSh h_this a_this this_taped this_code this_kind this_rate this_filled this_total this_bitAt this_k this_e1 this_du this_dv f_this_turns f_this_round out.1 out.2.1 out.2.2)) 0 0 (va_A (kWX5_permute cB cI cL cBB cII cSh h_this a_this this_taped this_code this_kind this_rate this_filled this_total this_bitAt this_k this_e1 this_du this_dv f_this_turns f_this_round f_this_state f_this_other f_this_column) sz) := by
  refine Met.ofW (cc := prog_8_method_29_code) (maxL := 4) (ret := none) (by decide) rfl ?_
  intro p e s m args below meth c s₁ B hml hv
  obtain ⟨rfl, hsz, hP, hK, hN, hD0⟩ := hv
  have hx := B.exec
  have hb := B.bytes
  have hr := B.returns
  have hts0 := atoms_spec (ws := kwX5_permute) B.pre
  have hts : ∀ w ∈ kwA, w.before _ s = true := fun w h => hts0 w (List.mem_cons_of_mem _ h)
  have hown : s.vm.findClass kRX5 = some m.cls := findClass_of_methodNamed B.named
  have hlocks := B.notSynchronized
  subst hsz
  have hD := hD0.self (sz := s.heap.size)
  generalize hAe : va_A (kWX5_permute cB cI cL cBB cII cSh h_this a_this this_taped this_code this_kind this_rate this_filled this_total this_bitAt this_k this_e1 this_du this_dv f_this_turns f_this_round f_this_state f_this_other f_this_column) s.heap.size = A at hD ⊢
  have hA : ∀ q : Nat, s.heap.size ≤ q → A q := fun q h => by rw [← hAe]; exact Or.inr h
  have hS : va_S A s.heap s.heap [] := va_S.rf
  have C0 : CallFix p m c prog_8_method_29_code 4 s _ kwA kRX5 := ⟨hx, hb, hml, hown, hts⟩
  have hl := lv_entry ([.ref h_this]) (n := 4) (Nat.le_of_ble_eq_true rfl)
  rw [lg_entry_eq]
  generalize (lg_sl ([.ref h_this]) ++ List.replicate (4 - (lg_sl ([.ref h_this])).length) Slot.unset).toArray = ls at hl ⊢
  have hl : lv_has ls 4 [(0, .ref h_this)] := hl
  unfold kFX5_permute at h
  refine lv_iconst (v := 0) hx hb kdX5_permute_0 (by decide) ?_
  refine lv_istore_n (lv' := [(1, .int (0 : Int32)), (0, .ref h_this)]) hx hb kdX5_permute_1 rfl hl (by decide) rfl (fun ls hl => ?_)
  obtain ⟨r_78, hr_78, h⟩ := kb_o_s h
  refine klX5_permute_2 C0 hlocks hK hN hA (by decide) (by decide) h_this a_this this_taped this_code this_kind this_rate this_filled this_total this_bitAt this_k this_e1 this_du this_dv f_this_turns f_this_round 100000 (0 : Int32) f_this_column f_this_other f_this_state r_78 hr_78 _ _ _ hP hD hS (lv_sub hl [1, 0] rfl) (fun x1p2_74 f_this_columnp2_75 f_this_otherp2_76 f_this_statep2_77 er_78 H locs ls hP hD hS hl => ?_)
  subst er_78
  obtain rfl := Option.some.inj h
  exact W.vret hx hb hr (fun t ht hW => ⟨⟨rfl, by rw [ht]; exact hP, va_K.moved hW.alike hK, hD⟩, hS.F ht⟩) hS.2.2 kdX5_permute_292

-- 481.ModuleKemModel.squeeze.lean.txt
abbrev kWX5_squeeze (cB cI cL cBB cII cSh : ClassId) (h_this : Nat) (a_this : Nat → Nat) (this_taped : Int32) (this_code : Int32) (this_kind : Int32) (this_rate : Int32) (this_filled : Int32) (this_total : Int64) (this_bitAt : Int32) (this_k : Int32) (this_e1 : Int32) (this_du : Int32) (this_dv : Int32) (f_this_turns : Nat → Int32) (f_this_round : Nat → Int64) (f_this_state : Nat → Int64) (f_this_other : Nat → Int64) (f_this_column : Nat → Int64) : va_W := [(h_this, koX5 a_this this_taped this_code this_kind this_rate this_filled this_total this_bitAt this_k this_e1 this_du this_dv), ((a_this 11), .inl (cI, 25, .inl f_this_turns)), ((a_this 12), .inl (cL, 24, .inr (.inl f_this_round))), ((a_this 13), .inl (cL, 25, .inr (.inl f_this_state))), ((a_this 14), .inl (cL, 25, .inr (.inl f_this_other))), ((a_this 15), .inl (cL, 5, .inr (.inl f_this_column)))]
def krX5_squeeze : Room := { frames := 2, cells := 0, slots := 0, locals := 45 }
set_option maxHeartbeats 4000000 in
set_option maxRecDepth 100000 in
theorem kjX5_squeeze_20 {p : Program} {l : Launch} {e : Env} {s : State} {m : MethodId} {args : Array Value} {below : List Frame} {meth : Method} {c : Code} {D : va_G} {cB cI cL cBB cII cSh : ClassId} {A : Nat → Prop} (C0 : CallFix p m c prog_8_method_36_code 2 s args kwA kRX5) (hlocks : meth.locks = false) (hr : meth.sig.returnType = (some .int)) (hK : va_K D kCl (kb_T cB cI cL cBB cII cSh) s) (hN : kb_N s) (hA : ∀ q, s.heap.size ≤ q → A q) (h_this : Nat) (a_this : Nat → Nat) (this_taped : Int32) (this_code : Int32) (this_kind : Int32) (this_rate : Int32) (this_filledj20 : Int32) (this_total : Int64) (this_bitAt : Int32) (this_k : Int32) (this_e1 : Int32) (this_du : Int32) (this_dv : Int32) (f_this_turns : Nat → Int32) (f_this_round : Nat → Int64) (f_this_statej20 : Nat → Int64) (f_this_otherj20 : Nat → Int64) (f_this_columnj20 : Nat → Int64) (out : Int32 × Int32 × (Nat → Int64) × (Nat → Int64) × (Nat → Int64)) (h : kJX5_squeeze_20 this_filledj20 f_this_statej20 f_this_otherj20 f_this_columnj20 = some out) (H : Heap) (locs : List Loc) (ls : Array Slot) (hP : va_P D kCl (kWX5_squeeze cB cI cL cBB cII cSh h_this a_this this_taped this_code this_kind this_rate this_filledj20 this_total this_bitAt this_k this_e1 this_du this_dv f_this_turns f_this_round f_this_statej20 f_this_otherj20 f_this_columnj20) H) (hD : va_D A (kWX5_squeeze cB cI cL cBB cII cSh h_this a_this this_taped this_code this_kind this_rate this_filledj20 this_total this_bitAt this_k this_e1 this_du this_dv f_this_turns f_this_round f_this_statej20 f_this_otherj20 f_this_columnj20)) (hS : va_S A s.heap H locs) (hl : lv_has ls 2 [(0, .ref h_this)]) : W p l e krX5_squeeze s m args below meth c H locs 0 0 (MQ below (kb_Q D kCl (kb_T cB cI cL cBB cII cSh) A (some (.int out.1)) (kWX5_squeeze cB cI cL cBB cII cSh h_this a_this this_taped this_code this_kind this_rate out.2.1 this_total this_bitAt this_k this_e1 this_du this_dv f_this_turns f_this_round out.2.2.1 out.2.2.2.1 out.2.2.2.2)) args s 0 0 A) (F0 m 20 ls []) := by
  obtain ⟨hx, hb, hml, hown, hts⟩ := id C0
  unfold kJX5_squeeze_20 at h
  refine lv_aload_n hx hb kdX5_squeeze_20 rfl (lv_at hl 0 rfl) ?_
  refine va_get (ci := 5) (v := .ref (a_this 13)) (C := kRX5) (T := kTX5) (N := 35) hx hb hts kinX5 hown hK hP 0 rfl rfl 13 (by decide) (hts _ km_694) (fun _ h9 => h9) rfl kdX5_squeeze_21 ?_
  refine lv_aload_n hx hb kdX5_squeeze_24 rfl (lv_at hl 0 rfl) ?_
  refine va_get (ci := 5) (v := .int this_filledj20) (C := kRX5) (T := kTX5) (N := 35) hx hb hts kinX5 hown hK hP 0 rfl rfl 20 (by decide) (hts _ km_701) (fun _ h9 => h9) rfl kdX5_squeeze_25 ?_
  refine lv_bipush (v := 8) hx hb kdX5_squeeze_28 (by decide) ?_
  refine lv_idiv hx hb kdX5_squeeze_30 (by decide) ?_
  obtain ⟨g_2, h⟩ := kb_g_s h
  refine va_lald hx hb hK hP 3 2 rfl rfl (kb_in_v g_2) kdX5_squeeze_31 ?_
  refine lv_bipush (v := 8) hx hb kdX5_squeeze_32 (by decide) ?_
  refine lv_aload_n hx hb kdX5_squeeze_34 rfl (lv_at hl 0 rfl) ?_
  refine va_get (ci := 5) (v := .int this_filledj20) (C := kRX5) (T := kTX5) (N := 35) hx hb hts kinX5 hown hK hP 0 rfl rfl 20 (by decide) (hts _ km_701) (fun _ h9 => h9) rfl kdX5_squeeze_35 ?_
  refine lv_bipush (v := 8) hx hb kdX5_squeeze_38 (by decide) ?_
  refine lv_irem hx hb kdX5_squeeze_40 (by decide) ?_
  refine lv_imul hx hb kdX5_squeeze_41 ?_
  refine lv_lushr (v := (((f_this_statej20 (this_filledj20 / (8 : Int32)).toNatClampNeg).toUInt64 >>> (((8 : Int32) * (this_filledj20 - this_filledj20 / (8 : Int32) * (8 : Int32))).toInt64.toUInt64 &&& Int64.toUInt64 63)).toInt64)) hx hb kdX5_squeeze_42 rfl ?_
  refine lv_l2i (v := ((((f_this_statej20 (this_filledj20 / (8 : Int32)).toNatClampNeg).toUInt64 >>> (((8 : Int32) * (this_filledj20 - this_filledj20 / (8 : Int32) * (8 : Int32))).toInt64.toUInt64 &&& Int64.toUInt64 63)).toInt64).toInt32)) hx hb kdX5_squeeze_43 rfl ?_
  refine lv_sipush (v := 255) hx hb kdX5_squeeze_44 (by decide) ?_
  refine lv_iand hx hb kdX5_squeeze_47 ?_
  refine lv_topi (fun x1_3 ex1_3 => ?_)
  have h := kb_n_s ex1_3 h
  refine lv_istore_n (lv' := [(1, .int x1_3), (0, .ref h_this)]) hx hb kdX5_squeeze_48 rfl hl (by decide) rfl (fun ls hl => ?_)
  refine lv_aload_n hx hb kdX5_squeeze_49 rfl (lv_at hl 1 rfl) ?_
  refine lv_dup hx hb kdX5_squeeze_50 rfl ?_
  refine va_get (ci := 5) (v := .int this_filledj20) (C := kRX5) (T := kTX5) (N := 35) hx hb hts kinX5 hown hK hP 0 rfl rfl 20 (by decide) (hts _ km_701) (fun _ h9 => h9) rfl kdX5_squeeze_51 ?_
  refine lv_iconst (v := 1) hx hb kdX5_squeeze_54 (by decide) ?_
  refine lv_iadd hx hb kdX5_squeeze_55 ?_
  refine lv_topi (fun w_4 ew_4 => ?_)
  have h := kb_n_s ew_4 h
  refine va_put (ci := 5) (v := .int w_4) (C := kRX5) (T := kTX5) (N := 35) hx hb hts kinX5 ktyX5 ktyX5_ok knX5 hown hK hP hD hS 0 rfl rfl 20 (by decide) (hts _ km_701) (fun _ h9 => h9) rfl (ktyX5_ok 20 (by decide)) rfl rfl (Nat.le_of_ble_eq_true rfl) kdX5_squeeze_56 (fun H locs hP hD hS => ?_)
  have hP : va_P D kCl (kWX5_squeeze cB cI cL cBB cII cSh h_this a_this this_taped this_code this_kind this_rate w_4 this_total this_bitAt this_k this_e1 this_du this_dv f_this_turns f_this_round f_this_statej20 f_this_otherj20 f_this_columnj20) H := hP
  have hD : va_D A (kWX5_squeeze cB cI cL cBB cII cSh h_this a_this this_taped this_code this_kind this_rate w_4 this_total this_bitAt this_k this_e1 this_du this_dv f_this_turns f_this_round f_this_statej20 f_this_otherj20 f_this_columnj20) := hD
  refine lv_iload_n hx hb kdX5_squeeze_59 rfl (lv_at hl 0 rfl) ?_
  obtain rfl := Option.some.inj h
  exact W.iret (v := x1_3) hx hb hr (fun t ht hW => ⟨⟨rfl, by rw [ht]; exact hP, va_K.moved hW.alike hK, hD⟩, hS.F ht⟩) hS.2.2 kdX5_squeeze_60
set_option maxHeartbeats 4000000 in
set_option maxRecDepth 100000 in
theorem kcX5_squeeze (l : Launch) (D : va_G) (cB cI cL cBB cII cSh : ClassId) (h_this : Nat) (a_this : Nat → Nat) (sz : Nat) (this_taped : Int32) (this_code : Int32) (this_kind : Int32) (this_rate : Int32) (this_filled : Int32) (this_total : Int64) (this_bitAt : Int32) (this_k : Int32) (this_e1 : Int32) (this_du : Int32) (this_dv : Int32) (f_this_turns : Nat → Int32) (f_this_round : Nat → Int64) (f_this_state : Nat → Int64) (f_this_other : Nat → Int64) (f_this_column : Nat → Int64) (out : Int32 × Int32 × (Nat → Int64) × (Nat → Int64) × (Nat → Int64)) (h : kFX5_squeeze this_rate this_filled f_this_turns f_this_round f_this_state f_this_other f_this_column = some out) : Met l kyX5_squeeze kwX5_squeeze krX5_squeeze (kb_P D kCl (kb_T cB cI cL cBB cII cSh) [.ref h_this] (kWX5_squeeze cB cI cL cBB cII cSh h_this a_this this_taped this_code this_kind this_rate this_filled this_total this_bitAt this_k this_e1 this_du this_dv f_this_turns f_this_round f_this_state f_this_other f_this_column) sz) (kb_Q D kCl (kb_T cB cI cL cBB cII cSh) (va_A (kWX5_squeeze cB cI cL cBB cII cSh h_this a_this this_taped this_code this_kind this_rate this_filled this_total this_bitAt this_k this_e1 this_du this_dv f_this_turns f_this_round f_this_state f_this_other f_this_column) sz) (some (.int out.1)) (kWX5_squeeze cB cI cL cBB cII cSh h_this a_this this_taped this_code this_kind this_rate out.2.1 this_total this_bitAt this_k this_e1 this_du this_dv f_this_turns f_this_round out.2.2.1 out.2.2.2.1 out.2.2.2.2)) 0 0 (va_A (kWX5_squeeze cB cI cL cBB cII cSh h_this a_this this_taped this_code this_kind this_rate this_filled this_total this_bitAt this_k this_e1 this_du this_dv f_this_turns f_this_round f_this_state f_this_other f_this_column) sz) := by
  refine Met.ofW (cc := prog_8_method_36_code) (maxL := 2) (ret := (some .int)) (by decide) rfl ?_
  intro p e s m args below meth c s₁ B hml hv
  obtain ⟨rfl, hsz, hP, hK, hN, hD0⟩ := hv
  have hx := B.exec
  have hb := B.bytes
  have hr := B.returns
  have hts0 := atoms_spec (ws := kwX5_squeeze) B.pre
  have hts : ∀ w ∈ kwA, w.before _ s = true := fun w h => hts0 w (List.mem_cons_of_mem _ h)
  have hown : s.vm.findClass kRX5 = some m.cls := findClass_of_methodNamed B.named
  have hlocks := B.notSynchronized
  subst hsz
  have hD := hD0.self (sz := s.heap.size)
  generalize hAe : va_A (kWX5_squeeze cB cI cL cBB cII cSh h_this a_this this_taped this_code this_kind this_rate this_filled this_total this_bitAt this_k this_e1 this_du this_dv f_this_turns f_this_round f_this_state f_this_other f_this_column) s.heap.size = A at hD ⊢
  have hA : ∀ q : Nat, s.heap.size ≤ q → A q := fun q h => by rw [← hAe]; exact Or.inr h
  have hS : va_S A s.heap s.heap [] := va_S.rf
  have C0 : CallFix p m c prog_8_method_36_code 2 s _ kwA kRX5 := ⟨hx, hb, hml, hown, hts⟩
  have hl := lv_entry ([.ref h_this]) (n := 2) (Nat.le_of_ble_eq_true rfl)
  rw [lg_entry_eq]
  generalize (lg_sl ([.ref h_this]) ++ List.replicate (2 - (lg_sl ([.ref h_this])).length) Slot.unset).toArray = ls at hl ⊢
  have hl : lv_has ls 2 [(0, .ref h_this)] := hl
  unfold kFX5_squeeze at h
  refine lv_aload_n hx hb kdX5_squeeze_0 rfl (lv_at hl 0 rfl) ?_
  refine va_get (ci := 5) (v := .int this_filled) (C := kRX5) (T := kTX5) (N := 35) hx hb hts kinX5 hown hK hP 0 rfl rfl 20 (by decide) (hts _ km_701) (fun _ h9 => h9) rfl kdX5_squeeze_1 ?_
  refine lv_aload_n hx hb kdX5_squeeze_4 rfl (lv_at hl 0 rfl) ?_
  refine va_get (ci := 5) (v := .int this_rate) (C := kRX5) (T := kTX5) (N := 35) hx hb hts kinX5 hown hK hP 0 rfl rfl 19 (by decide) (hts _ km_700) (fun _ h9 => h9) rfl kdX5_squeeze_5 ?_
  refine lv_icmp_ne (tgt := 20) hx hb kdX5_squeeze_8 (by decide) (fun c_1 => ?_) (fun c_1 => ?_)
  · have h := kb_b_f c_1 h
    exact kjX5_squeeze_20 C0 hlocks hr hK hN hA h_this a_this this_taped this_code this_kind this_rate this_filled this_total this_bitAt this_k this_e1 this_du this_dv f_this_turns f_this_round f_this_state f_this_other f_this_column _ h _ _ _ hP hD hS (lv_sub hl [0] rfl)
  · have h := kb_b_t c_1 h
    refine lv_aload_n hx hb kdX5_squeeze_11 rfl (lv_at hl 0 rfl) ?_
    obtain ⟨u_8, hu_8, h⟩ := kb_o_s h
    obtain ⟨f_5, f_6, f_7⟩ := u_8
    have hC := (show ([0, 1, 2, 3, 4, 5] : List Nat).map (fun i : Nat => (kWX5_squeeze cB cI cL cBB cII cSh h_this a_this this_taped this_code this_kind this_rate this_filled this_total this_bitAt this_k this_e1 this_du this_dv f_this_turns f_this_round f_this_state f_this_other f_this_column)[i]?) = List.map some (kWX5_permute cB cI cL cBB cII cSh h_this a_this this_taped this_code this_kind this_rate this_filled this_total this_bitAt this_k this_e1 this_du this_dv f_this_turns f_this_round f_this_state f_this_other f_this_column) from rfl)
    have hPc := kb_Psub hP ([0, 1, 2, 3, 4, 5] : List Nat) hC
    have hDc := kb_Dsub hD ([0, 1, 2, 3, 4, 5] : List Nat) hC (by simp [kb_nd])
    refine kb_call0 (va_runV (As := []) (rest := []) C0 (kcX5_permute l D cB cI cL cBB cII cSh h_this a_this _ this_taped this_code this_kind this_rate this_filled this_total this_bitAt this_k this_e1 this_du this_dv f_this_turns f_this_round f_this_state f_this_other f_this_column (f_5, f_6, f_7) hu_8) (cwV 0 hts (kb_gV km_654 km_656 kp_18 km_6 km_657) rfl rfl rfl (by decide +kernel) ⟨Nat.le_of_ble_eq_true rfl, Nat.le_of_ble_eq_true rfl⟩) ⟨kb_P_bl, va_recv hK hP (ci := 5) (q0 := 0) rfl rfl, (fun U hU hW => ⟨rfl, by rw [hU], by rw [hU]; exact hPc, va_K.moved hW.alike hK, kb_N_to hW hN, hDc.weaken (fun _ _ _ _ => trivial)⟩)⟩ rfl rfl hl.1 rfl (lv_room (Nat.le_of_ble_eq_true rfl)) kdX5_squeeze_12 ⟨Nat.le_of_ble_eq_true rfl, Nat.le_of_ble_eq_true rfl⟩) hP hD hS hA ([0, 1, 2, 3, 4, 5] : List Nat) hC rfl (fun H locs hP hD hS => ?_)
    have hP : va_P D kCl (kWX5_squeeze cB cI cL cBB cII cSh h_this a_this this_taped this_code this_kind this_rate this_filled this_total this_bitAt this_k this_e1 this_du this_dv f_this_turns f_this_round f_5 f_6 f_7) H := hP
    have hD : va_D A (kWX5_squeeze cB cI cL cBB cII cSh h_this a_this this_taped this_code this_kind this_rate this_filled this_total this_bitAt this_k this_e1 this_du this_dv f_this_turns f_this_round f_5 f_6 f_7) := hD
    refine lv_aload_n hx hb kdX5_squeeze_15 rfl (lv_at hl 0 rfl) ?_
    refine lv_iconst (v := 0) hx hb kdX5_squeeze_16 (by decide) ?_
    refine va_put (ci := 5) (v := .int (0 : Int32)) (C := kRX5) (T := kTX5) (N := 35) hx hb hts kinX5 ktyX5 ktyX5_ok knX5 hown hK hP hD hS 0 rfl rfl 20 (by decide) (hts _ km_701) (fun _ h9 => h9) rfl (ktyX5_ok 20 (by decide)) rfl rfl (Nat.le_of_ble_eq_true rfl) kdX5_squeeze_17 (fun H locs hP hD hS => ?_)
    have hP : va_P D kCl (kWX5_squeeze cB cI cL cBB cII cSh h_this a_this this_taped this_code this_kind this_rate (0 : Int32) this_total this_bitAt this_k this_e1 this_du this_dv f_this_turns f_this_round f_5 f_6 f_7) H := hP
    have hD : va_D A (kWX5_squeeze cB cI cL cBB cII cSh h_this a_this this_taped this_code this_kind this_rate (0 : Int32) this_total this_bitAt this_k this_e1 this_du this_dv f_this_turns f_this_round f_5 f_6 f_7) := hD
    exact kjX5_squeeze_20 C0 hlocks hr hK hN hA h_this a_this this_taped this_code this_kind this_rate (0 : Int32) this_total this_bitAt this_k this_e1 this_du this_dv f_this_turns f_this_round f_5 f_6 f_7 _ h _ _ _ hP hD hS (lv_sub hl [0] rfl)

-- 482.ModuleKem.Ring.addProduct.lean.txt
abbrev kWX2_addProduct (cB cI cL cBB cII cSh : ClassId) (h_this : Nat) (a_this : Nat → Nat) (h_a1 : Nat) (n_a1 : Nat) (h_a2 : Nat) (n_a2 : Nat) (h_a3 : Nat) (n_a3 : Nat) (f_this_powers : Nat → Int32) (f_a1 : Nat → Int32) (f_a2 : Nat → Int32) (f_a3 : Nat → Int32) : va_W := [(h_this, koX2 a_this), ((a_this 0), .inl (cI, 128, .inl f_this_powers)), (h_a1, .inl (cI, n_a1, .inl f_a1)), (h_a2, .inl (cI, n_a2, .inl f_a2)), (h_a3, .inl (cI, n_a3, .inl f_a3))]
def krX2_addProduct : Room := { frames := 1, cells := 0, slots := 0, locals := 25 }
set_option maxHeartbeats 4000000 in
set_option maxRecDepth 100000 in
theorem klX2_addProduct_3 {p : Program} {l : Launch} {e : Env} {s : State} {m : MethodId} {args : Array Value} {below : List Frame} {meth : Method} {c : Code} {cells slots : Nat} {Q : State → Prop} {D : va_G} {cB cI cL cBB cII cSh : ClassId} {A : Nat → Prop} (C0 : CallFix p m c prog_4_method_5_code 6 s args kwA kRX2) (hlocks : meth.locks = false) (hK : va_K D kCl (kb_T cB cI cL cBB cII cSh) s) (hN : kb_N s) (hA : ∀ q, s.heap.size ≤ q → A q) (hcR : cells ≤ krX2_addProduct.cells) (hsR : slots ≤ krX2_addProduct.slots) (h_this h_a1 h_a2 h_a3 : Nat) (a_this : Nat → Nat) (n_a1 : Nat) (n_a2 : Nat) (n_a3 : Nat) (f_this_powers : Nat → Int32) (f_a2 : Nat → Int32) (f_a3 : Nat → Int32) :
    ∀ (fuel : Nat) (x4p3 : Int32) (f_a1p3 : Nat → Int32) (r : Int32 × (Nat → Int32)), kb_w (fun u : Int32 × (Nat → Int32) => kSX2_addProduct_3 n_a1 n_a2 n_a3 f_this_powers f_a2 f_a3 u.1 u.2) fuel (x4p3, f_a1p3) = some r → ∀ (H : Heap) (locs : List Loc) (ls : Array Slot), va_P D kCl (kWX2_addProduct cB cI cL cBB cII cSh h_this a_this h_a1 n_a1 h_a2 n_a2 h_a3 n_a3 f_this_powers f_a1p3 f_a2 f_a3) H → va_D A (kWX2_addProduct cB cI cL cBB cII cSh h_this a_this h_a1 n_a1 h_a2 n_a2 h_a3 n_a3 f_this_powers f_a1p3 f_a2 f_a3) → va_S A s.heap H locs → lv_has ls 6 [(0, .ref h_this), (1, .ref h_a1), (2, .ref h_a2), (3, .ref h_a3), (4, .int x4p3)] → (∀ (x4p3' : Int32) (f_a1p3' : Nat → Int32), r = (x4p3', f_a1p3') → ∀ (H : Heap) (locs : List Loc) (ls : Array Slot), va_P D kCl (kWX2_addProduct cB cI cL cBB cII cSh h_this a_this h_a1 n_a1 h_a2 n_a2 h_a3 n_a3 f_this_powers f_a1p3' f_a2 f_a3) H → va_D A (kWX2_addProduct cB cI cL cBB cII cSh h_this a_this h_a1 n_a1 h_a2 n_a2 h_a3 n_a3 f_this_powers f_a1p3' f_a2 f_a3) → va_S A s.heap H locs → lv_has ls 6 [(0, .ref h_this), (1, .ref h_a1), (2, .ref h_a2), (3, .ref h_a3), (4, .int x4p3')] → W p l e krX2_addProduct s m args below meth c H locs cells slots Q (F0 m 58 ls [])) → W p l e krX2_addProduct s m args below meth c H locs cells slots Q (F0 m 3 ls []) := by
  obtain ⟨hx, hb, hml, hown, hts⟩ := id C0
  intro fuel
  induction fuel with
  | zero =>
    intro x4p3 f_a1p3 r h
    exact absurd h (kb_w_z _ _ _)
  | succ fuel ih =>
    intro x4p3 f_a1p3 r h H locs ls hP hD hS hl hk0
    obtain ⟨o, h, ho⟩ := kb_w_s h
    have h : kSX2_addProduct_3 n_a1 n_a2 n_a3 f_this_powers f_a2 f_a3 x4p3 f_a1p3 = some o := h
    unfold kSX2_addProduct_3 at h
    refine lv_iload hx hb kdX2_addProduct_3 (lv_at hl 4 rfl) ?_
    refine lv_bipush (v := 64) hx hb kdX2_addProduct_5 (by decide) ?_
    refine lv_icmp_ge (tgt := 58) hx hb kdX2_addProduct_7 (by decide) (fun c_1 => ?_) (fun c_1 => ?_)
    · have h := kb_b_t c_1 h
      obtain rfl := Option.some.inj h
      exact hk0 x4p3 f_a1p3 ho.symm _ _ _ hP hD hS (lv_sub hl [0, 1, 2, 3, 4] rfl)
    · have h := kb_b_f c_1 h
      refine lv_aload_n hx hb kdX2_addProduct_10 rfl (lv_at hl 0 rfl) ?_
      refine va_get (ci := 2) (v := .ref (a_this 0)) (C := kRX2) (T := kTX2) (N := 1) hx hb hts kinX2 hown hK hP 0 rfl rfl 0 (by decide) (hts _ km_113) (fun _ h9 => h9) rfl kdX2_addProduct_11 ?_
      refine lv_bipush (v := 64) hx hb kdX2_addProduct_14 (by decide) ?_
      refine lv_iload hx hb kdX2_addProduct_16 (lv_at hl 4 rfl) ?_
      refine lv_iadd hx hb kdX2_addProduct_18 ?_
      obtain ⟨g_2, h⟩ := kb_g_s h
      refine va_iald hx hb hK hP 1 1 rfl rfl (kb_in_v g_2) kdX2_addProduct_19 ?_
      refine lv_topi (fun x5_3 ex5_3 => ?_)
      have h := kb_n_s ex5_3 h
      refine lv_istore (lv' := [(5, .int x5_3), (0, .ref h_this), (1, .ref h_a1), (2, .ref h_a2), (3, .ref h_a3), (4, .int x4p3)]) hx hb kdX2_addProduct_20 hl (by decide) rfl (fun ls hl => ?_)
      refine lv_aload_n hx hb kdX2_addProduct_22 rfl (lv_at hl 2 rfl) ?_
      refine lv_aload_n hx hb kdX2_addProduct_23 rfl (lv_at hl 3 rfl) ?_
      refine lv_aload_n hx hb kdX2_addProduct_24 rfl (lv_at hl 4 rfl) ?_
      refine lv_iconst (v := 4) hx hb kdX2_addProduct_25 (by decide) ?_
      refine lv_iload hx hb kdX2_addProduct_26 (lv_at hl 5 rfl) ?_
      refine lv_imul hx hb kdX2_addProduct_28 ?_
      refine lv_iload hx hb kdX2_addProduct_29 (lv_at hl 0 rfl) ?_
      obtain ⟨u_5, hu_5, h⟩ := kb_o_s h
      obtain ⟨f_4, rfl⟩ : ∃ z, z = u_5 := ⟨_, rfl⟩
      have hC := (show ([2, 3, 4] : List Nat).map (fun i : Nat => (kWX2_addProduct cB cI cL cBB cII cSh h_this a_this h_a1 n_a1 h_a2 n_a2 h_a3 n_a3 f_this_powers f_a1p3 f_a2 f_a3)[i]?) = List.map some (kWX2_addPairProduct cB cI cL cBB cII cSh h_a1 n_a1 h_a2 n_a2 h_a3 n_a3 f_a1p3 f_a2 f_a3) from rfl)
      have hPc := kb_Psub hP ([2, 3, 4] : List Nat) hC
      have hDc := kb_Dsub hD ([2, 3, 4] : List Nat) hC (by simp [kb_nd])
      refine kb_call0 (va_runS (As := [.ref h_a1, .ref h_a2, .ref h_a3, .int ((4 : Int32) * x4p3), .int x5_3]) (rest := []) C0 (kcX2_addPairProduct l D cB cI cL cBB cII cSh h_a1 h_a2 h_a3 _ ((4 : Int32) * x4p3) x5_3 n_a1 n_a2 n_a3 f_a1p3 f_a2 f_a3 f_4 hu_5) (va_cwS 5 hts (kb_gS km_458 km_459 km_5 km_460) rfl rfl rfl (by decide +kernel) ⟨Nat.le_of_ble_eq_true rfl, Nat.le_of_ble_eq_true rfl⟩) ⟨kb_P_bl, (fun U hU hW => ⟨rfl, by rw [hU], by rw [hU]; exact hPc, va_K.moved hW.alike hK, kb_N_to hW hN, hDc.weaken (fun _ _ _ _ => trivial)⟩)⟩ rfl rfl hl.1 rfl (lv_room (Nat.le_of_ble_eq_true rfl)) kdX2_addProduct_31 ⟨hcR, hsR⟩) hP hD hS hA ([2, 3, 4] : List Nat) hC rfl (fun H locs hP hD hS => ?_)
      have hP : va_P D kCl (kWX2_addProduct cB cI cL cBB cII cSh h_this a_this h_a1 n_a1 h_a2 n_a2 h_a3 n_a3 f_this_powers f_4 f_a2 f_a3) H := hP
      have hD : va_D A (kWX2_addProduct cB cI cL cBB cII cSh h_this a_this h_a1 n_a1 h_a2 n_a2 h_a3 n_a3 f_this_powers f_4 f_a2 f_a3) := hD
      refine lv_aload_n hx hb kdX2_addProduct_34 rfl (lv_at hl 2 rfl) ?_
      refine lv_aload_n hx hb kdX2_addProduct_35 rfl (lv_at hl 3 rfl) ?_
      refine lv_aload_n hx hb kdX2_addProduct_36 rfl (lv_at hl 4 rfl) ?_
      refine lv_iconst (v := 4) hx hb kdX2_addProduct_37 (by decide) ?_
      refine lv_iload hx hb kdX2_addProduct_38 (lv_at hl 5 rfl) ?_
      refine lv_imul hx hb kdX2_addProduct_40 ?_
      refine lv_iconst (v := 2) hx hb kdX2_addProduct_41 (by decide) ?_
      refine lv_iadd hx hb kdX2_addProduct_42 ?_
      refine lv_sipush (v := 3329) hx hb kdX2_addProduct_43 (by decide) ?_
      refine lv_iload hx hb kdX2_addProduct_46 (lv_at hl 0 rfl) ?_
      refine lv_isub hx hb kdX2_addProduct_48 ?_
      obtain ⟨u_7, hu_7, h⟩ := kb_o_s h
      obtain ⟨f_6, rfl⟩ : ∃ z, z = u_7 := ⟨_, rfl⟩
      have hC := (show ([2, 3, 4] : List Nat).map (fun i : Nat => (kWX2_addProduct cB cI cL cBB cII cSh h_this a_this h_a1 n_a1 h_a2 n_a2 h_a3 n_a3 f_this_powers f_4 f_a2 f_a3)[i]?) = List.map some (kWX2_addPairProduct cB cI cL cBB cII cSh h_a1 n_a1 h_a2 n_a2 h_a3 n_a3 f_4 f_a2 f_a3) from rfl)
      have hPc := kb_Psub hP ([2, 3, 4] : List Nat) hC
      have hDc := kb_Dsub hD ([2, 3, 4] : List Nat) hC (by simp [kb_nd])
      refine kb_call0 (va_runS (As := [.ref h_a1, .ref h_a2, .ref h_a3, .int (((4 : Int32) * x4p3) + (2 : Int32)), .int ((3329 : Int32) - x5_3)]) (rest := []) C0 (kcX2_addPairProduct l D cB cI cL cBB cII cSh h_a1 h_a2 h_a3 _ (((4 : Int32) * x4p3) + (2 : Int32)) ((3329 : Int32) - x5_3) n_a1 n_a2 n_a3 f_4 f_a2 f_a3 f_6 hu_7) (va_cwS 5 hts (kb_gS km_458 km_459 km_5 km_460) rfl rfl rfl (by decide +kernel) ⟨Nat.le_of_ble_eq_true rfl, Nat.le_of_ble_eq_true rfl⟩) ⟨kb_P_bl, (fun U hU hW => ⟨rfl, by rw [hU], by rw [hU]; exact hPc, va_K.moved hW.alike hK, kb_N_to hW hN, hDc.weaken (fun _ _ _ _ => trivial)⟩)⟩ rfl rfl hl.1 rfl (lv_room (Nat.le_of_ble_eq_true rfl)) kdX2_addProduct_49 ⟨hcR, hsR⟩) hP hD hS hA ([2, 3, 4] : List Nat) hC rfl (fun H locs hP hD hS => ?_)
      have hP : va_P D kCl (kWX2_addProduct cB cI cL cBB cII cSh h_this a_this h_a1 n_a1 h_a2 n_a2 h_a3 n_a3 f_this_powers f_6 f_a2 f_a3) H := hP
      have hD : va_D A (kWX2_addProduct cB cI cL cBB cII cSh h_this a_this h_a1 n_a1 h_a2 n_a2 h_a3 n_a3 f_this_powers f_6 f_a2 f_a3) := hD
      obtain ⟨x4_8, ex4_8⟩ : ∃ y : Int32, y = x4p3 + Int32.ofInt 1 := ⟨_, rfl⟩
      have h := kb_n_s ex4_8 h
      refine lv_iinc (v := x4_8) (lv' := [(4, .int x4_8), (5, .int x5_3), (0, .ref h_this), (1, .ref h_a1), (2, .ref h_a2), (3, .ref h_a3)]) hx hb kdX2_addProduct_52 hl (k := 5) rfl ex4_8.symm (by decide) rfl (fun ls hl => ?_)
      refine lv_goto (tgt := 3) hx hb kdX2_addProduct_55 (by decide) ?_
      obtain rfl := Option.some.inj h
      exact ih x4_8 f_6 r ho _ _ _ hP hD hS (lv_sub hl [2, 3, 4, 5, 0] rfl) hk0
set_option maxHeartbeats 4000000 in
set_option maxRecDepth 100000 in
theorem kcX2_addProduct (l : Launch) (D : va_G) (cB cI cL cBB cII cSh : ClassId) (h_this h_a1 h_a2 h_a3 : Nat) (a_this : Nat → Nat) (sz : Nat) (n_a1 : Nat) (n_a2 : Nat) (n_a3 : Nat) (f_this_powers : Nat → Int32) (f_a1 : Nat → Int32) (f_a2 : Nat → Int32) (f_a3 : Nat → Int32) (out : (Nat → Int32)) (h : kFX2_addProduct n_a1 n_a2 n_a3 f_this_powers f_a1 f_a2 f_a3 = some out) : Met l kyX2_addProduct kwX2_addProduct krX2_addProduct (kb_P D kCl (kb_T cB cI cL cBB cII cSh) [.ref h_this, .ref h_a1, .ref h_a2, .ref h_a3] (kWX2_addProduct cB cI cL cBB cII cSh h_this a_this h_a1 n_a1 h_a2 n_a2 h_a3 n_a3 f_this_powers f_a1 f_a2 f_a3) sz) (kb_Q D kCl (kb_T cB cI cL cBB cII cSh) (va_A (kWX2_addProduct cB cI cL cBB cII cSh h_this a_this h_a1 n_a1 h_a2 n_a2 h_a3 n_a3 f_this_powers f_a1 f_a2 f_a3) sz) none (kWX2_addProduct cB cI cL cBB cII cSh h_this a_this h_a1 n_a1 h_a2 n_a2 h_a3 n_a3 f_this_powers out f_a2 f_a3)) 0 0 (va_A (kWX2_addProduct cB cI cL cBB cII cSh h_this a_this h_a1 n_a1 h_a2 n_a2 h_a3 n_a3 f_this_powers f_a1 f_a2 f_a3) sz) := by
  refine Met.ofW (cc := prog_4_method_5_code) (maxL := 6) (ret := none) (by decide) rfl ?_
  intro p e s m args below meth c s₁ B hml hv
  obtain ⟨rfl, hsz, hP, hK, hN, hD0⟩ := hv
  have hx := B.exec
  have hb := B.bytes
  have hr := B.returns
  have hts0 := atoms_spec (ws := kwX2_addProduct) B.pre
  have hts : ∀ w ∈ kwA, w.before _ s = true := fun w h => hts0 w (List.mem_cons_of_mem _ h)
  have hown : s.vm.findClass kRX2 = some m.cls := findClass_of_methodNamed B.named
  have hlocks := B.notSynchronized
  subst hsz
  have hD := hD0.self (sz := s.heap.size)
  generalize hAe : va_A (kWX2_addProduct cB cI cL cBB cII cSh h_this a_this h_a1 n_a1 h_a2 n_a2 h_a3 n_a3 f_this_powers f_a1 f_a2 f_a3) s.heap.size = A at hD ⊢
  have hA : ∀ q : Nat, s.heap.size ≤ q → A q := fun q h => by rw [← hAe]; exact Or.inr h
  have hS : va_S A s.heap s.heap [] := va_S.rf
  have C0 : CallFix p m c prog_4_method_5_code 6 s _ kwA kRX2 := ⟨hx, hb, hml, hown, hts⟩
  have hl := lv_entry ([.ref h_this, .ref h_a1, .ref h_a2, .ref h_a3]) (n := 6) (Nat.le_of_ble_eq_true rfl)
  rw [lg_entry_eq]
  generalize (lg_sl ([.ref h_this, .ref h_a1, .ref h_a2, .ref h_a3]) ++ List.replicate (6 - (lg_sl ([.ref h_this, .ref h_a1, .ref h_a2, .ref h_a3])).length) Slot.unset).toArray = ls at hl ⊢
  have hl : lv_has ls 6 [(0, .ref h_this), (1, .ref h_a1), (2, .ref h_a2), (3, .ref h_a3)] := hl
  unfold kFX2_addProduct at h
  refine lv_iconst (v := 0) hx hb kdX2_addProduct_0 (by decide) ?_
  refine lv_istore (lv' := [(4, .int (0 : Int32)), (0, .ref h_this), (1, .ref h_a1), (2, .ref h_a2), (3, .ref h_a3)]) hx hb kdX2_addProduct_1 hl (by decide) rfl (fun ls hl => ?_)
  obtain ⟨r_11, hr_11, h⟩ := kb_o_s h
  refine klX2_addProduct_3 C0 hlocks hK hN hA (by decide) (by decide) h_this h_a1 h_a2 h_a3 a_this n_a1 n_a2 n_a3 f_this_powers f_a2 f_a3 100000 (0 : Int32) f_a1 r_11 hr_11 _ _ _ hP hD hS (lv_sub hl [1, 2, 3, 4, 0] rfl) (fun x4p3_9 f_a1p3_10 er_11 H locs ls hP hD hS hl => ?_)
  subst er_11
  obtain rfl := Option.some.inj h
  exact W.vret hx hb hr (fun t ht hW => ⟨⟨rfl, by rw [ht]; exact hP, va_K.moved hW.alike hK, hD⟩, hS.F ht⟩) hS.2.2 kdX2_addProduct_58

-- 483.ModuleKem.Sponge.take.lean.txt
abbrev kWX4_take (cB cI cL cBB cII cSh : ClassId) (h_this : Nat) (a_this : Nat → Nat) (h_a1 : Nat) (n_a1 : Nat) (this_rate : Int32) (this_place : Int32) (f_this_lanes : Nat → Int64) (f_this_moved : Nat → Int64) (f_this_columns : Nat → Int64) (f_this_turns : Nat → Int32) (f_this_targets : Nat → Int32) (f_this_roundConstants : Nat → Int64) (f_a1 : Nat → Int32) : va_W := [(h_this, koX4 a_this this_rate this_place), ((a_this 0), .inl (cL, 25, .inr (.inl f_this_lanes))), ((a_this 1), .inl (cL, 25, .inr (.inl f_this_moved))), ((a_this 2), .inl (cL, 5, .inr (.inl f_this_columns))), ((a_this 3), .inl (cI, 25, .inl f_this_turns)), ((a_this 4), .inl (cI, 25, .inl f_this_targets)), ((a_this 5), .inl (cL, 24, .inr (.inl f_this_roundConstants))), (h_a1, .inl (cB, n_a1, .inl f_a1))]
def krX4_take : Room := { frames := 1, cells := 0, slots := 0, locals := 32 }
set_option maxHeartbeats 4000000 in
set_option maxRecDepth 100000 in
theorem klX4_take_3 {p : Program} {l : Launch} {e : Env} {s : State} {m : MethodId} {args : Array Value} {below : List Frame} {meth : Method} {c : Code} {cells slots : Nat} {Q : State → Prop} {D : va_G} {cB cI cL cBB cII cSh : ClassId} {A : Nat → Prop} (C0 : CallFix p m c prog_6_method_7_code 5 s args kwA kRX4) (hlocks : meth.locks = false) (hK : va_K D kCl (kb_T cB cI cL cBB cII cSh) s) (hN : kb_N s) (hA : ∀ q, s.heap.size ≤ q → A q) (hcR : cells ≤ krX4_take.cells) (hsR : slots ≤ krX4_take.slots) (h_this h_a1 : Nat) (a_this : Nat → Nat) (p2 : Int32) (p3 : Int32) (n_a1 : Nat) (this_rate : Int32) (f_this_turns : Nat → Int32) (f_this_targets : Nat → Int32) (f_this_roundConstants : Nat → Int64) (f_a1 : Nat → Int32) :
    ∀ (fuel : Nat) (x4p3 : Int32) (this_placep3 : Int32) (f_this_columnsp3 : Nat → Int64) (f_this_lanesp3 : Nat → Int64) (f_this_movedp3 : Nat → Int64) (r : Int32 × Int32 × (Nat → Int64) × (Nat → Int64) × (Nat → Int64)), kb_w (fun u : Int32 × Int32 × (Nat → Int64) × (Nat → Int64) × (Nat → Int64) => kSX4_take_3 p2 p3 n_a1 this_rate f_this_turns f_this_targets f_this_roundConstants f_a1 u.1 u.2.1 u.2.2.1 u.2.2.2.1 u.2.2.2.2) fuel (x4p3, this_placep3, f_this_columnsp3, f_this_lanesp3, f_this_movedp3) = some r → ∀ (H : Heap) (locs : List Loc) (ls : Array Slot), va_P D kCl (kWX4_take cB cI cL cBB cII cSh h_this a_this h_a1 n_a1 this_rate this_placep3 f_this_lanesp3 f_this_movedp3 f_this_columnsp3 f_this_turns f_this_targets f_this_roundConstants f_a1) H → va_D A (kWX4_take cB cI cL cBB cII cSh h_this a_this h_a1 n_a1 this_rate this_placep3 f_this_lanesp3 f_this_movedp3 f_this_columnsp3 f_this_turns f_this_targets f_this_roundConstants f_a1) → va_S A s.heap H locs → lv_has ls 5 [(0, .ref h_this), (1, .ref h_a1), (2, .int p2), (3, .int p3), (4, .int x4p3)] → (∀ (x4p3' : Int32) (this_placep3' : Int32) (f_this_columnsp3' : Nat → Int64) (f_this_lanesp3' : Nat → Int64) (f_this_movedp3' : Nat → Int64), r = (x4p3', this_placep3', f_this_columnsp3', f_this_lanesp3', f_this_movedp3') → ∀ (H : Heap) (locs : List Loc) (ls : Array Slot), va_P D kCl (kWX4_take cB cI cL cBB cII cSh h_this a_this h_a1 n_a1 this_rate this_placep3' f_this_lanesp3' f_this_movedp3' f_this_columnsp3' f_this_turns f_this_targets f_this_roundConstants f_a1) H → va_D A (kWX4_take cB cI cL cBB cII cSh h_this a_this h_a1 n_a1 this_rate this_placep3' f_this_lanesp3' f_this_movedp3' f_this_columnsp3' f_this_turns f_this_targets f_this_roundConstants f_a1) → va_S A s.heap H locs → lv_has ls 5 [(0, .ref h_this), (1, .ref h_a1), (2, .int p2), (3, .int p3), (4, .int x4p3')] → W p l e krX4_take s m args below meth c H locs cells slots Q (F0 m 59 ls [])) → W p l e krX4_take s m args below meth c H locs cells slots Q (F0 m 3 ls []) := by
  obtain ⟨hx, hb, hml, hown, hts⟩ := id C0
  intro fuel
  induction fuel with
  | zero =>
    intro x4p3 this_placep3 f_this_columnsp3 f_this_lanesp3 f_this_movedp3 r h
    exact absurd h (kb_w_z _ _ _)
  | succ fuel ih =>
    intro x4p3 this_placep3 f_this_columnsp3 f_this_lanesp3 f_this_movedp3 r h H locs ls hP hD hS hl hk0
    obtain ⟨o, h, ho⟩ := kb_w_s h
    have h : kSX4_take_3 p2 p3 n_a1 this_rate f_this_turns f_this_targets f_this_roundConstants f_a1 x4p3 this_placep3 f_this_columnsp3 f_this_lanesp3 f_this_movedp3 = some o := h
    unfold kSX4_take_3 at h
    refine lv_iload hx hb kdX4_take_3 (lv_at hl 4 rfl) ?_
    refine lv_iload_n hx hb kdX4_take_5 rfl (lv_at hl 3 rfl) ?_
    refine lv_icmp_ge (tgt := 59) hx hb kdX4_take_6 (by decide) (fun c_1 => ?_) (fun c_1 => ?_)
    · have h := kb_b_t c_1 h
      obtain rfl := Option.some.inj h
      exact hk0 x4p3 this_placep3 f_this_columnsp3 f_this_lanesp3 f_this_movedp3 ho.symm _ _ _ hP hD hS (lv_sub hl [0, 1, 2, 3, 4] rfl)
    · have h := kb_b_f c_1 h
      refine lv_aload_n hx hb kdX4_take_9 rfl (lv_at hl 0 rfl) ?_
      refine lv_aload_n hx hb kdX4_take_10 rfl (lv_at hl 0 rfl) ?_
      refine va_get (ci := 4) (v := .int this_placep3) (C := kRX4) (T := kTX4) (N := 8) hx hb hts kinX4 hown hK hP 0 rfl rfl 7 (by decide) (hts _ km_85) (fun _ h9 => h9) rfl kdX4_take_11 ?_
      refine lv_aload_n hx hb kdX4_take_14 rfl (lv_at hl 1 rfl) ?_
      refine lv_iload_n hx hb kdX4_take_15 rfl (lv_at hl 2 rfl) ?_
      refine lv_iload hx hb kdX4_take_16 (lv_at hl 4 rfl) ?_
      refine lv_iadd hx hb kdX4_take_18 ?_
      obtain ⟨g_2, h⟩ := kb_g_s h
      refine va_bald hx hb hK hP 7 0 rfl rfl (kb_in_v g_2) kdX4_take_19 ?_
      obtain ⟨u_4, hu_4, h⟩ := kb_o_s h
      obtain ⟨f_3, rfl⟩ : ∃ z, z = u_4 := ⟨_, rfl⟩
      have hC := (show ([0, 1] : List Nat).map (fun i : Nat => (kWX4_take cB cI cL cBB cII cSh h_this a_this h_a1 n_a1 this_rate this_placep3 f_this_lanesp3 f_this_movedp3 f_this_columnsp3 f_this_turns f_this_targets f_this_roundConstants f_a1)[i]?) = List.map some (kWX4_mixIn cB cI cL cBB cII cSh h_this a_this this_rate this_placep3 f_this_lanesp3) from rfl)
      have hPc := kb_Psub hP ([0, 1] : List Nat) hC
      have hDc := kb_Dsub hD ([0, 1] : List Nat) hC (by simp [kb_nd])
      refine kb_call0 (va_runV (As := [.int this_placep3, .int (f_a1 (p2 + x4p3).toNatClampNeg)]) (rest := []) C0 (kcX4_mixIn l D cB cI cL cBB cII cSh h_this a_this _ this_placep3 (f_a1 (p2 + x4p3).toNatClampNeg) this_rate this_placep3 f_this_lanesp3 f_3 hu_4) (cwV 2 hts (kb_gV km_391 km_393 kp_19 km_4 km_394) rfl rfl rfl (by decide +kernel) ⟨Nat.le_of_ble_eq_true rfl, Nat.le_of_ble_eq_true rfl⟩) ⟨kb_P_bl, va_recv hK hP (ci := 4) (q0 := 0) rfl rfl, (fun U hU hW => ⟨rfl, by rw [hU], by rw [hU]; exact hPc, va_K.moved hW.alike hK, kb_N_to hW hN, hDc.weaken (fun _ _ _ _ => trivial)⟩)⟩ rfl rfl hl.1 rfl (lv_room (Nat.le_of_ble_eq_true rfl)) kdX4_take_20 ⟨hcR, hsR⟩) hP hD hS hA ([0, 1] : List Nat) hC rfl (fun H locs hP hD hS => ?_)
      have hP : va_P D kCl (kWX4_take cB cI cL cBB cII cSh h_this a_this h_a1 n_a1 this_rate this_placep3 f_3 f_this_movedp3 f_this_columnsp3 f_this_turns f_this_targets f_this_roundConstants f_a1) H := hP
      have hD : va_D A (kWX4_take cB cI cL cBB cII cSh h_this a_this h_a1 n_a1 this_rate this_placep3 f_3 f_this_movedp3 f_this_columnsp3 f_this_turns f_this_targets f_this_roundConstants f_a1) := hD
      refine lv_aload_n hx hb kdX4_take_23 rfl (lv_at hl 0 rfl) ?_
      refine lv_dup hx hb kdX4_take_24 rfl ?_
      refine va_get (ci := 4) (v := .int this_placep3) (C := kRX4) (T := kTX4) (N := 8) hx hb hts kinX4 hown hK hP 0 rfl rfl 7 (by decide) (hts _ km_85) (fun _ h9 => h9) rfl kdX4_take_25 ?_
      refine lv_iconst (v := 1) hx hb kdX4_take_28 (by decide) ?_
      refine lv_iadd hx hb kdX4_take_29 ?_
      refine lv_topi (fun w_5 ew_5 => ?_)
      have h := kb_n_s ew_5 h
      refine va_put (ci := 4) (v := .int w_5) (C := kRX4) (T := kTX4) (N := 8) hx hb hts kinX4 ktyX4 ktyX4_ok knX4 hown hK hP hD hS 0 rfl rfl 7 (by decide) (hts _ km_85) (fun _ h9 => h9) rfl (ktyX4_ok 7 (by decide)) rfl rfl (Nat.le_of_ble_eq_true rfl) kdX4_take_30 (fun H locs hP hD hS => ?_)
      have hP : va_P D kCl (kWX4_take cB cI cL cBB cII cSh h_this a_this h_a1 n_a1 this_rate w_5 f_3 f_this_movedp3 f_this_columnsp3 f_this_turns f_this_targets f_this_roundConstants f_a1) H := hP
      have hD : va_D A (kWX4_take cB cI cL cBB cII cSh h_this a_this h_a1 n_a1 this_rate w_5 f_3 f_this_movedp3 f_this_columnsp3 f_this_turns f_this_targets f_this_roundConstants f_a1) := hD
      refine lv_aload_n hx hb kdX4_take_33 rfl (lv_at hl 0 rfl) ?_
      refine va_get (ci := 4) (v := .int w_5) (C := kRX4) (T := kTX4) (N := 8) hx hb hts kinX4 hown hK hP 0 rfl rfl 7 (by decide) (hts _ km_85) (fun _ h9 => h9) rfl kdX4_take_34 ?_
      refine lv_aload_n hx hb kdX4_take_37 rfl (lv_at hl 0 rfl) ?_
      refine va_get (ci := 4) (v := .int this_rate) (C := kRX4) (T := kTX4) (N := 8) hx hb hts kinX4 hown hK hP 0 rfl rfl 6 (by decide) (hts _ km_84) (fun _ h9 => h9) rfl kdX4_take_38 ?_
      refine lv_icmp_ne (tgt := 53) hx hb kdX4_take_41 (by decide) (fun c_6 => ?_) (fun c_6 => ?_)
      · have h := kb_b_f c_6 h
        obtain ⟨x4_7, ex4_7⟩ : ∃ y : Int32, y = x4p3 + Int32.ofInt 1 := ⟨_, rfl⟩
        have h := kb_n_s ex4_7 h
        refine lv_iinc (v := x4_7) (lv' := [(4, .int x4_7), (0, .ref h_this), (1, .ref h_a1), (2, .int p2), (3, .int p3)]) hx hb kdX4_take_53 hl (k := 4) rfl ex4_7.symm (by decide) rfl (fun ls hl => ?_)
        refine lv_goto (tgt := 3) hx hb kdX4_take_56 (by decide) ?_
        obtain rfl := Option.some.inj h
        exact ih x4_7 w_5 f_this_columnsp3 f_3 f_this_movedp3 r ho _ _ _ hP hD hS (lv_sub hl [1, 2, 3, 4, 0] rfl) hk0
      · have h := kb_b_t c_6 h
        refine lv_aload_n hx hb kdX4_take_44 rfl (lv_at hl 0 rfl) ?_
        obtain ⟨u_11, hu_11, h⟩ := kb_o_s h
        obtain ⟨f_8, f_9, f_10⟩ := u_11
        have hC := (show ([0, 1, 2, 3, 4, 5, 6] : List Nat).map (fun i : Nat => (kWX4_take cB cI cL cBB cII cSh h_this a_this h_a1 n_a1 this_rate w_5 f_3 f_this_movedp3 f_this_columnsp3 f_this_turns f_this_targets f_this_roundConstants f_a1)[i]?) = List.map some (kWX4_permute cB cI cL cBB cII cSh h_this a_this this_rate w_5 f_3 f_this_movedp3 f_this_columnsp3 f_this_turns f_this_targets f_this_roundConstants) from rfl)
        have hPc := kb_Psub hP ([0, 1, 2, 3, 4, 5, 6] : List Nat) hC
        have hDc := kb_Dsub hD ([0, 1, 2, 3, 4, 5, 6] : List Nat) hC (by simp [kb_nd])
        refine kb_call0 (va_runV (As := []) (rest := []) C0 (kcX4_permute l D cB cI cL cBB cII cSh h_this a_this _ this_rate w_5 f_3 f_this_movedp3 f_this_columnsp3 f_this_turns f_this_targets f_this_roundConstants (f_8, f_9, f_10) hu_11) (cwV 0 hts (kb_gV km_396 km_398 kp_20 km_4 km_399) rfl rfl rfl (by decide +kernel) ⟨Nat.le_of_ble_eq_true rfl, Nat.le_of_ble_eq_true rfl⟩) ⟨kb_P_bl, va_recv hK hP (ci := 4) (q0 := 0) rfl rfl, (fun U hU hW => ⟨rfl, by rw [hU], by rw [hU]; exact hPc, va_K.moved hW.alike hK, kb_N_to hW hN, hDc.weaken (fun _ _ _ _ => trivial)⟩)⟩ rfl rfl hl.1 rfl (lv_room (Nat.le_of_ble_eq_true rfl)) kdX4_take_45 ⟨hcR, hsR⟩) hP hD hS hA ([0, 1, 2, 3, 4, 5, 6] : List Nat) hC rfl (fun H locs hP hD hS => ?_)
        have hP : va_P D kCl (kWX4_take cB cI cL cBB cII cSh h_this a_this h_a1 n_a1 this_rate w_5 f_8 f_9 f_10 f_this_turns f_this_targets f_this_roundConstants f_a1) H := hP
        have hD : va_D A (kWX4_take cB cI cL cBB cII cSh h_this a_this h_a1 n_a1 this_rate w_5 f_8 f_9 f_10 f_this_turns f_this_targets f_this_roundConstants f_a1) := hD
        refine lv_aload_n hx hb kdX4_take_48 rfl (lv_at hl 0 rfl) ?_
        refine lv_iconst (v := 0) hx hb kdX4_take_49 (by decide) ?_
        refine va_put (ci := 4) (v := .int (0 : Int32)) (C := kRX4) (T := kTX4) (N := 8) hx hb hts kinX4 ktyX4 ktyX4_ok knX4 hown hK hP hD hS 0 rfl rfl 7 (by decide) (hts _ km_85) (fun _ h9 => h9) rfl (ktyX4_ok 7 (by decide)) rfl rfl (Nat.le_of_ble_eq_true rfl) kdX4_take_50 (fun H locs hP hD hS => ?_)
        have hP : va_P D kCl (kWX4_take cB cI cL cBB cII cSh h_this a_this h_a1 n_a1 this_rate (0 : Int32) f_8 f_9 f_10 f_this_turns f_this_targets f_this_roundConstants f_a1) H := hP
        have hD : va_D A (kWX4_take cB cI cL cBB cII cSh h_this a_this h_a1 n_a1 this_rate (0 : Int32) f_8 f_9 f_10 f_this_turns f_this_targets f_this_roundConstants f_a1) := hD
        obtain ⟨x4_12, ex4_12⟩ : ∃ y : Int32, y = x4p3 + Int32.ofInt 1 := ⟨_, rfl⟩
        have h := kb_n_s ex4_12 h
        refine lv_iinc (v := x4_12) (lv' := [(4, .int x4_12), (0, .ref h_this), (1, .ref h_a1), (2, .int p2), (3, .int p3)]) hx hb kdX4_take_53 hl (k := 4) rfl ex4_12.symm (by decide) rfl (fun ls hl => ?_)
        refine lv_goto (tgt := 3) hx hb kdX4_take_56 (by decide) ?_
        obtain rfl := Option.some.inj h
        exact ih x4_12 (0 : Int32) f_10 f_8 f_9 r ho _ _ _ hP hD hS (lv_sub hl [1, 2, 3, 4, 0] rfl) hk0
set_option maxHeartbeats 4000000 in
set_option maxRecDepth 100000 in
theorem kcX4_take (l : Launch) (D : va_G) (cB cI cL cBB cII cSh : ClassId) (h_this h_a1 : Nat) (a_this : Nat → Nat) (sz : Nat) (p2 : Int32) (p3 : Int32) (n_a1 : Nat) (this_rate : Int32) (this_place : Int32) (f_this_lanes : Nat → Int64) (f_this_moved : Nat → Int64) (f_this_columns : Nat → Int64) (f_this_turns : Nat → Int32) (f_this_targets : Nat → Int32) (f_this_roundConstants : Nat → Int64) (f_a1 : Nat → Int32) (out : Int32 × (Nat → Int64) × (Nat → Int64) × (Nat → Int64)) (h : kFX4_take p2 p3 n_a1 this_rate this_place f_this_lanes f_this_moved f_this_columns f_this_turns f_this_targets f_this_roundConstants f_a1 = some out) : Met l kyX4_take kwX4_take krX4_take (kb_P D kCl (kb_T cB cI cL cBB cII cSh) [.ref h_this, .ref h_a1, .int p2, .int p3] (kWX4_take cB cI cL cBB cII cSh h_this a_this h_a1 n_a1 this_rate this_place f_this_lanes f_this_moved f_this_columns f_this_turns f_this_targets f_this_roundConstants f_a1) sz) (kb_Q D kCl (kb_T cB cI cL cBB cII cSh) (va_A (kWX4_take cB cI cL cBB cII cSh h_this a_this h_a1 n_a1 this_rate this_place f_this_lanes f_this_moved f_this_columns f_this_turns f_this_targets f_this_roundConstants f_a1) sz) none (kWX4_take cB cI cL cBB cII cSh h_this a_this h_a1 n_a1 this_rate out.1 out.2.1 out.2.2.1 out.2.2.2 f_this_turns f_this_targets f_this_roundConstants f_a1)) 0 0 (va_A (kWX4_take cB cI cL cBB cII cSh h_this a_this h_a1 n_a1 this_rate this_place f_this_lanes f_this_moved f_this_columns f_this_turns f_this_targets f_this_roundConstants f_a1) sz) := by
  refine Met.ofW (cc := prog_6_method_7_code) (maxL := 5) (ret := none) (by decide) rfl ?_
  intro p e s m args below meth c s₁ B hml hv
  obtain ⟨rfl, hsz, hP, hK, hN, hD0⟩ := hv
  have hx := B.exec
  have hb := B.bytes
  have hr := B.returns
  have hts0 := atoms_spec (ws := kwX4_take) B.pre
  have hts : ∀ w ∈ kwA, w.before _ s = true := fun w h => hts0 w (List.mem_cons_of_mem _ h)
  have hown : s.vm.findClass kRX4 = some m.cls := findClass_of_methodNamed B.named
  have hlocks := B.notSynchronized
  subst hsz
  have hD := hD0.self (sz := s.heap.size)
  generalize hAe : va_A (kWX4_take cB cI cL cBB cII cSh h_this a_this h_a1 n_a1 this_rate this_place f_this_lanes f_this_moved f_this_columns f_this_turns f_this_targets f_this_roundConstants f_a1) s.heap.size = A at hD ⊢
  have hA : ∀ q : Nat, s.heap.size ≤ q → A q := fun q h => by rw [← hAe]; exact Or.inr h
  have hS : va_S A s.heap s.heap [] := va_S.rf
  have C0 : CallFix p m c prog_6_method_7_code 5 s _ kwA kRX4 := ⟨hx, hb, hml, hown, hts⟩
  have hl := lv_entry ([.ref h_this, .ref h_a1, .int p2, .int p3]) (n := 5) (Nat.le_of_ble_eq_true rfl)
  rw [lg_entry_eq]
  generalize (lg_sl ([.ref h_this, .ref h_a1, .int p2, .int p3]) ++ List.replicate (5 - (lg_sl ([.ref h_this, .ref h_a1, .int p2, .int p3])).length) Slot.unset).toArray = ls at hl ⊢
  have hl : lv_has ls 5 [(0, .ref h_this), (1, .ref h_a1), (2, .int p2), (3, .int p3)] := hl
  unfold kFX4_take at h
  refine lv_iconst (v := 0) hx hb kdX4_take_0 (by decide) ?_
  refine lv_istore (lv' := [(4, .int (0 : Int32)), (0, .ref h_this), (1, .ref h_a1), (2, .int p2), (3, .int p3)]) hx hb kdX4_take_1 hl (by decide) rfl (fun ls hl => ?_)
  obtain ⟨r_18, hr_18, h⟩ := kb_o_s h
  refine klX4_take_3 C0 hlocks hK hN hA (by decide) (by decide) h_this h_a1 a_this p2 p3 n_a1 this_rate f_this_turns f_this_targets f_this_roundConstants f_a1 100000 (0 : Int32) this_place f_this_columns f_this_lanes f_this_moved r_18 hr_18 _ _ _ hP hD hS (lv_sub hl [1, 2, 3, 4, 0] rfl) (fun x4p3_13 this_placep3_14 f_this_columnsp3_15 f_this_lanesp3_16 f_this_movedp3_17 er_18 H locs ls hP hD hS hl => ?_)
  subst er_18
  obtain rfl := Option.some.inj h
  exact W.vret hx hb hr (fun t ht hW => ⟨⟨rfl, by rw [ht]; exact hP, va_K.moved hW.alike hK, hD⟩, hS.F ht⟩) hS.2.2 kdX4_take_59

-- 484.ModuleKem.Sponge.finish.lean.txt
abbrev kWX4_finish (cB cI cL cBB cII cSh : ClassId) (h_this : Nat) (a_this : Nat → Nat) (this_rate : Int32) (this_place : Int32) (f_this_lanes : Nat → Int64) (f_this_moved : Nat → Int64) (f_this_columns : Nat → Int64) (f_this_turns : Nat → Int32) (f_this_targets : Nat → Int32) (f_this_roundConstants : Nat → Int64) : va_W := [(h_this, koX4 a_this this_rate this_place), ((a_this 0), .inl (cL, 25, .inr (.inl f_this_lanes))), ((a_this 1), .inl (cL, 25, .inr (.inl f_this_moved))), ((a_this 2), .inl (cL, 5, .inr (.inl f_this_columns))), ((a_this 3), .inl (cI, 25, .inl f_this_turns)), ((a_this 4), .inl (cI, 25, .inl f_this_targets)), ((a_this 5), .inl (cL, 24, .inr (.inl f_this_roundConstants)))]
def krX4_finish : Room := { frames := 1, cells := 0, slots := 0, locals := 32 }
set_option maxHeartbeats 4000000 in
set_option maxRecDepth 100000 in
theorem kcX4_finish (l : Launch) (D : va_G) (cB cI cL cBB cII cSh : ClassId) (h_this : Nat) (a_this : Nat → Nat) (sz : Nat) (p1 : Int32) (this_rate : Int32) (this_place : Int32) (f_this_lanes : Nat → Int64) (f_this_moved : Nat → Int64) (f_this_columns : Nat → Int64) (f_this_turns : Nat → Int32) (f_this_targets : Nat → Int32) (f_this_roundConstants : Nat → Int64) (out : Int32 × (Nat → Int64) × (Nat → Int64) × (Nat → Int64)) (h : kFX4_finish p1 this_rate this_place f_this_lanes f_this_moved f_this_columns f_this_turns f_this_targets f_this_roundConstants = some out) : Met l kyX4_finish kwX4_finish krX4_finish (kb_P D kCl (kb_T cB cI cL cBB cII cSh) [.ref h_this, .int p1] (kWX4_finish cB cI cL cBB cII cSh h_this a_this this_rate this_place f_this_lanes f_this_moved f_this_columns f_this_turns f_this_targets f_this_roundConstants) sz) (kb_Q D kCl (kb_T cB cI cL cBB cII cSh) (va_A (kWX4_finish cB cI cL cBB cII cSh h_this a_this this_rate this_place f_this_lanes f_this_moved f_this_columns f_this_turns f_this_targets f_this_roundConstants) sz) none (kWX4_finish cB cI cL cBB cII cSh h_this a_this this_rate out.1 out.2.1 out.2.2.1 out.2.2.2 f_this_turns f_this_targets f_this_roundConstants)) 0 0 (va_A (kWX4_finish cB cI cL cBB cII cSh h_this a_this this_rate this_place f_this_lanes f_this_moved f_this_columns f_this_turns f_this_targets f_this_roundConstants) sz) := by
  refine Met.ofW (cc := prog_6_method_8_code) (maxL := 2) (ret := none) (by decide) rfl ?_
  intro p e s m args below meth c s₁ B hml hv
  obtain ⟨rfl, hsz, hP, hK, hN, hD0⟩ := hv
  have hx := B.exec
  have hb := B.bytes
  have hr := B.returns
  have hts0 := atoms_spec (ws := kwX4_finish) B.pre
  have hts : ∀ w ∈ kwA, w.before _ s = true := fun w h => hts0 w (List.mem_cons_of_mem _ h)
  have hown : s.vm.findClass kRX4 = some m.cls := findClass_of_methodNamed B.named
  have hlocks := B.notSynchronized
  subst hsz
  have hD := hD0.self (sz := s.heap.size)
  generalize hAe : va_A (kWX4_finish cB cI cL cBB cII cSh h_this a_this this_rate this_place f_this_lanes f_this_moved f_this_columns f_this_turns f_this_targets f_this_roundConstants) s.heap.size = A at hD ⊢
  have hA : ∀ q : Nat, s.heap.size ≤ q → A q := fun q h => by rw [← hAe]; exact Or.inr h
  have hS : va_S A s.heap s.heap [] := va_S.rf
  have C0 : CallFix p m c prog_6_method_8_code 2 s _ kwA kRX4 := ⟨hx, hb, hml, hown, hts⟩
  have hl := lv_entry ([.ref h_this, .int p1]) (n := 2) (Nat.le_of_ble_eq_true rfl)
  rw [lg_entry_eq]
  generalize (lg_sl ([.ref h_this, .int p1]) ++ List.replicate (2 - (lg_sl ([.ref h_this, .int p1])).length) Slot.unset).toArray = ls at hl ⊢
  have hl : lv_has ls 2 [(0, .ref h_this), (1, .int p1)] := hl
  unfold kFX4_finish at h
  refine lv_aload_n hx hb kdX4_finish_0 rfl (lv_at hl 0 rfl) ?_
  refine lv_aload_n hx hb kdX4_finish_1 rfl (lv_at hl 0 rfl) ?_
  refine va_get (ci := 4) (v := .int this_place) (C := kRX4) (T := kTX4) (N := 8) hx hb hts kinX4 hown hK hP 0 rfl rfl 7 (by decide) (hts _ km_85) (fun _ h9 => h9) rfl kdX4_finish_2 ?_
  refine lv_iload_n hx hb kdX4_finish_5 rfl (lv_at hl 1 rfl) ?_
  obtain ⟨u_2, hu_2, h⟩ := kb_o_s h
  obtain ⟨f_1, rfl⟩ : ∃ z, z = u_2 := ⟨_, rfl⟩
  have hC := (show ([0, 1] : List Nat).map (fun i : Nat => (kWX4_finish cB cI cL cBB cII cSh h_this a_this this_rate this_place f_this_lanes f_this_moved f_this_columns f_this_turns f_this_targets f_this_roundConstants)[i]?) = List.map some (kWX4_mixIn cB cI cL cBB cII cSh h_this a_this this_rate this_place f_this_lanes) from rfl)
  have hPc := kb_Psub hP ([0, 1] : List Nat) hC
  have hDc := kb_Dsub hD ([0, 1] : List Nat) hC (by simp [kb_nd])
  refine kb_call0 (va_runV (As := [.int this_place, .int p1]) (rest := []) C0 (kcX4_mixIn l D cB cI cL cBB cII cSh h_this a_this _ this_place p1 this_rate this_place f_this_lanes f_1 hu_2) (cwV 2 hts (kb_gV km_391 km_393 kp_19 km_4 km_394) rfl rfl rfl (by decide +kernel) ⟨Nat.le_of_ble_eq_true rfl, Nat.le_of_ble_eq_true rfl⟩) ⟨kb_P_bl, va_recv hK hP (ci := 4) (q0 := 0) rfl rfl, (fun U hU hW => ⟨rfl, by rw [hU], by rw [hU]; exact hPc, va_K.moved hW.alike hK, kb_N_to hW hN, hDc.weaken (fun _ _ _ _ => trivial)⟩)⟩ rfl rfl hl.1 rfl (lv_room (Nat.le_of_ble_eq_true rfl)) kdX4_finish_6 ⟨Nat.le_of_ble_eq_true rfl, Nat.le_of_ble_eq_true rfl⟩) hP hD hS hA ([0, 1] : List Nat) hC rfl (fun H locs hP hD hS => ?_)
  have hP : va_P D kCl (kWX4_finish cB cI cL cBB cII cSh h_this a_this this_rate this_place f_1 f_this_moved f_this_columns f_this_turns f_this_targets f_this_roundConstants) H := hP
  have hD : va_D A (kWX4_finish cB cI cL cBB cII cSh h_this a_this this_rate this_place f_1 f_this_moved f_this_columns f_this_turns f_this_targets f_this_roundConstants) := hD
  refine lv_aload_n hx hb kdX4_finish_9 rfl (lv_at hl 0 rfl) ?_
  refine lv_aload_n hx hb kdX4_finish_10 rfl (lv_at hl 0 rfl) ?_
  refine va_get (ci := 4) (v := .int this_rate) (C := kRX4) (T := kTX4) (N := 8) hx hb hts kinX4 hown hK hP 0 rfl rfl 6 (by decide) (hts _ km_84) (fun _ h9 => h9) rfl kdX4_finish_11 ?_
  refine lv_iconst (v := 1) hx hb kdX4_finish_14 (by decide) ?_
  refine lv_isub hx hb kdX4_finish_15 ?_
  refine lv_sipush (v := 128) hx hb kdX4_finish_16 (by decide) ?_
  obtain ⟨u_4, hu_4, h⟩ := kb_o_s h
  obtain ⟨f_3, rfl⟩ : ∃ z, z = u_4 := ⟨_, rfl⟩
  have hC := (show ([0, 1] : List Nat).map (fun i : Nat => (kWX4_finish cB cI cL cBB cII cSh h_this a_this this_rate this_place f_1 f_this_moved f_this_columns f_this_turns f_this_targets f_this_roundConstants)[i]?) = List.map some (kWX4_mixIn cB cI cL cBB cII cSh h_this a_this this_rate this_place f_1) from rfl)
  have hPc := kb_Psub hP ([0, 1] : List Nat) hC
  have hDc := kb_Dsub hD ([0, 1] : List Nat) hC (by simp [kb_nd])
  refine kb_call0 (va_runV (As := [.int (this_rate - (1 : Int32)), .int (128 : Int32)]) (rest := []) C0 (kcX4_mixIn l D cB cI cL cBB cII cSh h_this a_this _ (this_rate - (1 : Int32)) (128 : Int32) this_rate this_place f_1 f_3 hu_4) (cwV 2 hts (kb_gV km_391 km_393 kp_19 km_4 km_394) rfl rfl rfl (by decide +kernel) ⟨Nat.le_of_ble_eq_true rfl, Nat.le_of_ble_eq_true rfl⟩) ⟨kb_P_bl, va_recv hK hP (ci := 4) (q0 := 0) rfl rfl, (fun U hU hW => ⟨rfl, by rw [hU], by rw [hU]; exact hPc, va_K.moved hW.alike hK, kb_N_to hW hN, hDc.weaken (fun _ _ _ _ => trivial)⟩)⟩ rfl rfl hl.1 rfl (lv_room (Nat.le_of_ble_eq_true rfl)) kdX4_finish_19 ⟨Nat.le_of_ble_eq_true rfl, Nat.le_of_ble_eq_true rfl⟩) hP hD hS hA ([0, 1] : List Nat) hC rfl (fun H locs hP hD hS => ?_)
  have hP : va_P D kCl (kWX4_finish cB cI cL cBB cII cSh h_this a_this this_rate this_place f_3 f_this_moved f_this_columns f_this_turns f_this_targets f_this_roundConstants) H := hP
  have hD : va_D A (kWX4_finish cB cI cL cBB cII cSh h_this a_this this_rate this_place f_3 f_this_moved f_this_columns f_this_turns f_this_targets f_this_roundConstants) := hD
  refine lv_aload_n hx hb kdX4_finish_22 rfl (lv_at hl 0 rfl) ?_
  obtain ⟨u_8, hu_8, h⟩ := kb_o_s h
  obtain ⟨f_5, f_6, f_7⟩ := u_8
  have hC := (show ([0, 1, 2, 3, 4, 5, 6] : List Nat).map (fun i : Nat => (kWX4_finish cB cI cL cBB cII cSh h_this a_this this_rate this_place f_3 f_this_moved f_this_columns f_this_turns f_this_targets f_this_roundConstants)[i]?) = List.map some (kWX4_permute cB cI cL cBB cII cSh h_this a_this this_rate this_place f_3 f_this_moved f_this_columns f_this_turns f_this_targets f_this_roundConstants) from rfl)
  have hPc := kb_Psub hP ([0, 1, 2, 3, 4, 5, 6] : List Nat) hC
  have hDc := kb_Dsub hD ([0, 1, 2, 3, 4, 5, 6] : List Nat) hC (by simp [kb_nd])
  refine kb_call0 (va_runV (As := []) (rest := []) C0 (kcX4_permute l D cB cI cL cBB cII cSh h_this a_this _ this_rate this_place f_3 f_this_moved f_this_columns f_this_turns f_this_targets f_this_roundConstants (f_5, f_6, f_7) hu_8) (cwV 0 hts (kb_gV km_396 km_398 kp_20 km_4 km_399) rfl rfl rfl (by decide +kernel) ⟨Nat.le_of_ble_eq_true rfl, Nat.le_of_ble_eq_true rfl⟩) ⟨kb_P_bl, va_recv hK hP (ci := 4) (q0 := 0) rfl rfl, (fun U hU hW => ⟨rfl, by rw [hU], by rw [hU]; exact hPc, va_K.moved hW.alike hK, kb_N_to hW hN, hDc.weaken (fun _ _ _ _ => trivial)⟩)⟩ rfl rfl hl.1 rfl (lv_room (Nat.le_of_ble_eq_true rfl)) kdX4_finish_23 ⟨Nat.le_of_ble_eq_true rfl, Nat.le_of_ble_eq_true rfl⟩) hP hD hS hA ([0, 1, 2, 3, 4, 5, 6] : List Nat) hC rfl (fun H locs hP hD hS => ?_)
  have hP : va_P D kCl (kWX4_finish cB cI cL cBB cII cSh h_this a_this this_rate this_place f_5 f_6 f_7 f_this_turns f_this_targets f_this_roundConstants) H := hP
  have hD : va_D A (kWX4_finish cB cI cL cBB cII cSh h_this a_this this_rate this_place f_5 f_6 f_7 f_this_turns f_this_targets f_this_roundConstants) := hD
  refine lv_aload_n hx hb kdX4_finish_26 rfl (lv_at hl 0 rfl) ?_
  refine lv_iconst (v := 0) hx hb kdX4_finish_27 (by decide) ?_
  refine va_put (ci := 4) (v := .int (0 : Int32)) (C := kRX4) (T := kTX4) (N := 8) hx hb hts kinX4 ktyX4 ktyX4_ok knX4 hown hK hP hD hS 0 rfl rfl 7 (by decide) (hts _ km_85) (fun _ h9 => h9) rfl (ktyX4_ok 7 (by decide)) rfl rfl (Nat.le_of_ble_eq_true rfl) kdX4_finish_28 (fun H locs hP hD hS => ?_)
  have hP : va_P D kCl (kWX4_finish cB cI cL cBB cII cSh h_this a_this this_rate (0 : Int32) f_5 f_6 f_7 f_this_turns f_this_targets f_this_roundConstants) H := hP
  have hD : va_D A (kWX4_finish cB cI cL cBB cII cSh h_this a_this this_rate (0 : Int32) f_5 f_6 f_7 f_this_turns f_this_targets f_this_roundConstants) := hD
  obtain rfl := Option.some.inj h
  exact W.vret hx hb hr (fun t ht hW => ⟨⟨rfl, by rw [ht]; exact hP, va_K.moved hW.alike hK, hD⟩, hS.F ht⟩) hS.2.2 kdX4_finish_31

-- 485.ModuleKem.Sponge.give.lean.txt
abbrev kWX4_give (cB cI cL cBB cII cSh : ClassId) (h_this : Nat) (a_this : Nat → Nat) (h_a1 : Nat) (n_a1 : Nat) (this_rate : Int32) (this_place : Int32) (f_this_lanes : Nat → Int64) (f_this_moved : Nat → Int64) (f_this_columns : Nat → Int64) (f_this_turns : Nat → Int32) (f_this_targets : Nat → Int32) (f_this_roundConstants : Nat → Int64) (f_a1 : Nat → Int32) : va_W := [(h_this, koX4 a_this this_rate this_place), ((a_this 0), .inl (cL, 25, .inr (.inl f_this_lanes))), ((a_this 1), .inl (cL, 25, .inr (.inl f_this_moved))), ((a_this 2), .inl (cL, 5, .inr (.inl f_this_columns))), ((a_this 3), .inl (cI, 25, .inl f_this_turns)), ((a_this 4), .inl (cI, 25, .inl f_this_targets)), ((a_this 5), .inl (cL, 24, .inr (.inl f_this_roundConstants))), (h_a1, .inl (cB, n_a1, .inl f_a1))]
def krX4_give : Room := { frames := 1, cells := 0, slots := 0, locals := 32 }
set_option maxHeartbeats 4000000 in
set_option maxRecDepth 100000 in
theorem klX4_give_3 {p : Program} {l : Launch} {e : Env} {s : State} {m : MethodId} {args : Array Value} {below : List Frame} {meth : Method} {c : Code} {cells slots : Nat} {Q : State → Prop} {D : va_G} {cB cI cL cBB cII cSh : ClassId} {A : Nat → Prop} (C0 : CallFix p m c prog_6_method_9_code 5 s args kwA kRX4) (hlocks : meth.locks = false) (hK : va_K D kCl (kb_T cB cI cL cBB cII cSh) s) (hN : kb_N s) (hA : ∀ q, s.heap.size ≤ q → A q) (hcR : cells ≤ krX4_give.cells) (hsR : slots ≤ krX4_give.slots) (h_this h_a1 : Nat) (a_this : Nat → Nat) (p2 : Int32) (p3 : Int32) (n_a1 : Nat) (this_rate : Int32) (f_this_turns : Nat → Int32) (f_this_targets : Nat → Int32) (f_this_roundConstants : Nat → Int64) :
    ∀ (fuel : Nat) (x4p3 : Int32) (f_a1p3 : Nat → Int32) (this_placep3 : Int32) (f_this_columnsp3 : Nat → Int64) (f_this_lanesp3 : Nat → Int64) (f_this_movedp3 : Nat → Int64) (r : Int32 × (Nat → Int32) × Int32 × (Nat → Int64) × (Nat → Int64) × (Nat → Int64)), kb_w (fun u : Int32 × (Nat → Int32) × Int32 × (Nat → Int64) × (Nat → Int64) × (Nat → Int64) => kSX4_give_3 p2 p3 n_a1 this_rate f_this_turns f_this_targets f_this_roundConstants u.1 u.2.1 u.2.2.1 u.2.2.2.1 u.2.2.2.2.1 u.2.2.2.2.2) fuel (x4p3, f_a1p3, this_placep3, f_this_columnsp3, f_this_lanesp3, f_this_movedp3) = some r → ∀ (H : Heap) (locs : List Loc) (ls : Array Slot), va_P D kCl (kWX4_give cB cI cL cBB cII cSh h_this a_this h_a1 n_a1 this_rate this_placep3 f_this_lanesp3 f_this_movedp3 f_this_columnsp3 f_this_turns f_this_targets f_this_roundConstants f_a1p3) H → va_D A (kWX4_give cB cI cL cBB cII cSh h_this a_this h_a1 n_a1 this_rate this_placep3 f_this_lanesp3 f_this_movedp3 f_this_columnsp3 f_this_turns f_this_targets f_this_roundConstants f_a1p3) → va_S A s.heap H locs → lv_has ls 5 [(0, .ref h_this), (1, .ref h_a1), (2, .int p2), (3, .int p3), (4, .int x4p3)] → (∀ (x4p3' : Int32) (f_a1p3' : Nat → Int32) (this_placep3' : Int32) (f_this_columnsp3' : Nat → Int64) (f_this_lanesp3' : Nat → Int64) (f_this_movedp3' : Nat → Int64), r = (x4p3', f_a1p3', this_placep3', f_this_columnsp3', f_this_lanesp3', f_this_movedp3') → ∀ (H : Heap) (locs : List Loc) (ls : Array Slot), va_P D kCl (kWX4_give cB cI cL cBB cII cSh h_this a_this h_a1 n_a1 this_rate this_placep3' f_this_lanesp3' f_this_movedp3' f_this_columnsp3' f_this_turns f_this_targets f_this_roundConstants f_a1p3') H → va_D A (kWX4_give cB cI cL cBB cII cSh h_this a_this h_a1 n_a1 this_rate this_placep3' f_this_lanesp3' f_this_movedp3' f_this_columnsp3' f_this_turns f_this_targets f_this_roundConstants f_a1p3') → va_S A s.heap H locs → lv_has ls 5 [(0, .ref h_this), (1, .ref h_a1), (2, .int p2), (3, .int p3), (4, .int x4p3')] → W p l e krX4_give s m args below meth c H locs cells slots Q (F0 m 75 ls [])) → W p l e krX4_give s m args below meth c H locs cells slots Q (F0 m 3 ls []) := by
  obtain ⟨hx, hb, hml, hown, hts⟩ := id C0
  intro fuel
  induction fuel with
  | zero =>
    intro x4p3 f_a1p3 this_placep3 f_this_columnsp3 f_this_lanesp3 f_this_movedp3 r h
    exact absurd h (kb_w_z _ _ _)
  | succ fuel ih =>
    intro x4p3 f_a1p3 this_placep3 f_this_columnsp3 f_this_lanesp3 f_this_movedp3 r h H locs ls hP hD hS hl hk0
    obtain ⟨o, h, ho⟩ := kb_w_s h
    have h : kSX4_give_3 p2 p3 n_a1 this_rate f_this_turns f_this_targets f_this_roundConstants x4p3 f_a1p3 this_placep3 f_this_columnsp3 f_this_lanesp3 f_this_movedp3 = some o := h
    unfold kSX4_give_3 at h
    refine lv_iload hx hb kdX4_give_3 (lv_at hl 4 rfl) ?_
    refine lv_iload_n hx hb kdX4_give_5 rfl (lv_at hl 3 rfl) ?_
    refine lv_icmp_ge (tgt := 75) hx hb kdX4_give_6 (by decide) (fun c_1 => ?_) (fun c_1 => ?_)
    · have h := kb_b_t c_1 h
      obtain rfl := Option.some.inj h
      exact hk0 x4p3 f_a1p3 this_placep3 f_this_columnsp3 f_this_lanesp3 f_this_movedp3 ho.symm _ _ _ hP hD hS (lv_sub hl [0, 1, 2, 3, 4] rfl)
    · have h := kb_b_f c_1 h
      refine lv_aload_n hx hb kdX4_give_9 rfl (lv_at hl 0 rfl) ?_
      refine va_get (ci := 4) (v := .int this_placep3) (C := kRX4) (T := kTX4) (N := 8) hx hb hts kinX4 hown hK hP 0 rfl rfl 7 (by decide) (hts _ km_85) (fun _ h9 => h9) rfl kdX4_give_10 ?_
      refine lv_aload_n hx hb kdX4_give_13 rfl (lv_at hl 0 rfl) ?_
      refine va_get (ci := 4) (v := .int this_rate) (C := kRX4) (T := kTX4) (N := 8) hx hb hts kinX4 hown hK hP 0 rfl rfl 6 (by decide) (hts _ km_84) (fun _ h9 => h9) rfl kdX4_give_14 ?_
      refine lv_icmp_ne (tgt := 29) hx hb kdX4_give_17 (by decide) (fun c_2 => ?_) (fun c_2 => ?_)
      · have h := kb_b_f c_2 h
        refine lv_aload_n hx hb kdX4_give_29 rfl (lv_at hl 1 rfl) ?_
        refine lv_iload_n hx hb kdX4_give_30 rfl (lv_at hl 2 rfl) ?_
        refine lv_iload hx hb kdX4_give_31 (lv_at hl 4 rfl) ?_
        refine lv_iadd hx hb kdX4_give_33 ?_
        refine lv_aload_n hx hb kdX4_give_34 rfl (lv_at hl 0 rfl) ?_
        refine va_get (ci := 4) (v := .ref (a_this 0)) (C := kRX4) (T := kTX4) (N := 8) hx hb hts kinX4 hown hK hP 0 rfl rfl 0 (by decide) (hts _ km_78) (fun _ h9 => h9) rfl kdX4_give_35 ?_
        refine lv_aload_n hx hb kdX4_give_38 rfl (lv_at hl 0 rfl) ?_
        refine va_get (ci := 4) (v := .int this_placep3) (C := kRX4) (T := kTX4) (N := 8) hx hb hts kinX4 hown hK hP 0 rfl rfl 7 (by decide) (hts _ km_85) (fun _ h9 => h9) rfl kdX4_give_39 ?_
        refine lv_iconst (v := 3) hx hb kdX4_give_42 (by decide) ?_
        refine lv_ishr hx hb kdX4_give_43 ?_
        obtain ⟨g_3, h⟩ := kb_g_s h
        refine va_lald hx hb hK hP 1 2 rfl rfl (kb_in_v g_3) kdX4_give_44 ?_
        refine lv_bipush (v := 8) hx hb kdX4_give_45 (by decide) ?_
        refine lv_aload_n hx hb kdX4_give_47 rfl (lv_at hl 0 rfl) ?_
        refine va_get (ci := 4) (v := .int this_placep3) (C := kRX4) (T := kTX4) (N := 8) hx hb hts kinX4 hown hK hP 0 rfl rfl 7 (by decide) (hts _ km_85) (fun _ h9 => h9) rfl kdX4_give_48 ?_
        refine lv_bipush (v := 7) hx hb kdX4_give_51 (by decide) ?_
        refine lv_iand hx hb kdX4_give_53 ?_
        refine lv_imul hx hb kdX4_give_54 ?_
        refine lv_lushr (v := (((f_this_lanesp3 (this_placep3 >>> ((3 : Int32) &&& 31)).toNatClampNeg).toUInt64 >>> (((8 : Int32) * (this_placep3 &&& (7 : Int32))).toInt64.toUInt64 &&& Int64.toUInt64 63)).toInt64)) hx hb kdX4_give_55 rfl ?_
        refine lv_l2i (v := ((((f_this_lanesp3 (this_placep3 >>> ((3 : Int32) &&& 31)).toNatClampNeg).toUInt64 >>> (((8 : Int32) * (this_placep3 &&& (7 : Int32))).toInt64.toUInt64 &&& Int64.toUInt64 63)).toInt64).toInt32)) hx hb kdX4_give_56 rfl ?_
        refine lv_i2b (v := (((((f_this_lanesp3 (this_placep3 >>> ((3 : Int32) &&& 31)).toNatClampNeg).toUInt64 >>> (((8 : Int32) * (this_placep3 &&& (7 : Int32))).toInt64.toUInt64 &&& Int64.toUInt64 63)).toInt64).toInt32).toInt8.toInt32)) hx hb kdX4_give_57 rfl ?_
        obtain ⟨g_4, h⟩ := kb_g_s h
        refine va_bast hx hb hK hP hD hS 7 0 rfl rfl (kb_in_v g_4) kdX4_give_58 (fun H locs hP hD hS => ?_)
        obtain ⟨f_5, ef_5⟩ : ∃ y, y = upd f_a1p3 (p2 + x4p3).toNatClampNeg (vp_nar .byte (((((f_this_lanesp3 (this_placep3 >>> ((3 : Int32) &&& 31)).toNatClampNeg).toUInt64 >>> (((8 : Int32) * (this_placep3 &&& (7 : Int32))).toInt64.toUInt64 &&& Int64.toUInt64 63)).toInt64).toInt32).toInt8.toInt32)) := ⟨_, rfl⟩
        have h := kb_n_s ef_5 h
        have hP : va_P D kCl (kWX4_give cB cI cL cBB cII cSh h_this a_this h_a1 n_a1 this_rate this_placep3 f_this_lanesp3 f_this_movedp3 f_this_columnsp3 f_this_turns f_this_targets f_this_roundConstants f_5) H := by rw [ef_5]; exact hP
        have hD : va_D A (kWX4_give cB cI cL cBB cII cSh h_this a_this h_a1 n_a1 this_rate this_placep3 f_this_lanesp3 f_this_movedp3 f_this_columnsp3 f_this_turns f_this_targets f_this_roundConstants f_5) := by rw [ef_5]; exact hD
        refine lv_aload_n hx hb kdX4_give_59 rfl (lv_at hl 0 rfl) ?_
        refine lv_dup hx hb kdX4_give_60 rfl ?_
        refine va_get (ci := 4) (v := .int this_placep3) (C := kRX4) (T := kTX4) (N := 8) hx hb hts kinX4 hown hK hP 0 rfl rfl 7 (by decide) (hts _ km_85) (fun _ h9 => h9) rfl kdX4_give_61 ?_
        refine lv_iconst (v := 1) hx hb kdX4_give_64 (by decide) ?_
        refine lv_iadd hx hb kdX4_give_65 ?_
        refine lv_topi (fun w_6 ew_6 => ?_)
        have h := kb_n_s ew_6 h
        refine va_put (ci := 4) (v := .int w_6) (C := kRX4) (T := kTX4) (N := 8) hx hb hts kinX4 ktyX4 ktyX4_ok knX4 hown hK hP hD hS 0 rfl rfl 7 (by decide) (hts _ km_85) (fun _ h9 => h9) rfl (ktyX4_ok 7 (by decide)) rfl rfl (Nat.le_of_ble_eq_true rfl) kdX4_give_66 (fun H locs hP hD hS => ?_)
        have hP : va_P D kCl (kWX4_give cB cI cL cBB cII cSh h_this a_this h_a1 n_a1 this_rate w_6 f_this_lanesp3 f_this_movedp3 f_this_columnsp3 f_this_turns f_this_targets f_this_roundConstants f_5) H := hP
        have hD : va_D A (kWX4_give cB cI cL cBB cII cSh h_this a_this h_a1 n_a1 this_rate w_6 f_this_lanesp3 f_this_movedp3 f_this_columnsp3 f_this_turns f_this_targets f_this_roundConstants f_5) := hD
        obtain ⟨x4_7, ex4_7⟩ : ∃ y : Int32, y = x4p3 + Int32.ofInt 1 := ⟨_, rfl⟩
        have h := kb_n_s ex4_7 h
        refine lv_iinc (v := x4_7) (lv' := [(4, .int x4_7), (0, .ref h_this), (1, .ref h_a1), (2, .int p2), (3, .int p3)]) hx hb kdX4_give_69 hl (k := 4) rfl ex4_7.symm (by decide) rfl (fun ls hl => ?_)
        refine lv_goto (tgt := 3) hx hb kdX4_give_72 (by decide) ?_
        obtain rfl := Option.some.inj h
        exact ih x4_7 f_5 w_6 f_this_columnsp3 f_this_lanesp3 f_this_movedp3 r ho _ _ _ hP hD hS (lv_sub hl [1, 2, 3, 4, 0] rfl) hk0
      · have h := kb_b_t c_2 h
        refine lv_aload_n hx hb kdX4_give_20 rfl (lv_at hl 0 rfl) ?_
        obtain ⟨u_11, hu_11, h⟩ := kb_o_s h
        obtain ⟨f_8, f_9, f_10⟩ := u_11
        have hC := (show ([0, 1, 2, 3, 4, 5, 6] : List Nat).map (fun i : Nat => (kWX4_give cB cI cL cBB cII cSh h_this a_this h_a1 n_a1 this_rate this_placep3 f_this_lanesp3 f_this_movedp3 f_this_columnsp3 f_this_turns f_this_targets f_this_roundConstants f_a1p3)[i]?) = List.map some (kWX4_permute cB cI cL cBB cII cSh h_this a_this this_rate this_placep3 f_this_lanesp3 f_this_movedp3 f_this_columnsp3 f_this_turns f_this_targets f_this_roundConstants) from rfl)
        have hPc := kb_Psub hP ([0, 1, 2, 3, 4, 5, 6] : List Nat) hC
        have hDc := kb_Dsub hD ([0, 1, 2, 3, 4, 5, 6] : List Nat) hC (by simp [kb_nd])
        refine kb_call0 (va_runV (As := []) (rest := []) C0 (kcX4_permute l D cB cI cL cBB cII cSh h_this a_this _ this_rate this_placep3 f_this_lanesp3 f_this_movedp3 f_this_columnsp3 f_this_turns f_this_targets f_this_roundConstants (f_8, f_9, f_10) hu_11) (cwV 0 hts (kb_gV km_396 km_398 kp_20 km_4 km_399) rfl rfl rfl (by decide +kernel) ⟨Nat.le_of_ble_eq_true rfl, Nat.le_of_ble_eq_true rfl⟩) ⟨kb_P_bl, va_recv hK hP (ci := 4) (q0 := 0) rfl rfl, (fun U hU hW => ⟨rfl, by rw [hU], by rw [hU]; exact hPc, va_K.moved hW.alike hK, kb_N_to hW hN, hDc.weaken (fun _ _ _ _ => trivial)⟩)⟩ rfl rfl hl.1 rfl (lv_room (Nat.le_of_ble_eq_true rfl)) kdX4_give_21 ⟨hcR, hsR⟩) hP hD hS hA ([0, 1, 2, 3, 4, 5, 6] : List Nat) hC rfl (fun H locs hP hD hS => ?_)
        have hP : va_P D kCl (kWX4_give cB cI cL cBB cII cSh h_this a_this h_a1 n_a1 this_rate this_placep3 f_8 f_9 f_10 f_this_turns f_this_targets f_this_roundConstants f_a1p3) H := hP
        have hD : va_D A (kWX4_give cB cI cL cBB cII cSh h_this a_this h_a1 n_a1 this_rate this_placep3 f_8 f_9 f_10 f_this_turns f_this_targets f_this_roundConstants f_a1p3) := hD
        refine lv_aload_n hx hb kdX4_give_24 rfl (lv_at hl 0 rfl) ?_
        refine lv_iconst (v := 0) hx hb kdX4_give_25 (by decide) ?_
        refine va_put (ci := 4) (v := .int (0 : Int32)) (C := kRX4) (T := kTX4) (N := 8) hx hb hts kinX4 ktyX4 ktyX4_ok knX4 hown hK hP hD hS 0 rfl rfl 7 (by decide) (hts _ km_85) (fun _ h9 => h9) rfl (ktyX4_ok 7 (by decide)) rfl rfl (Nat.le_of_ble_eq_true rfl) kdX4_give_26 (fun H locs hP hD hS => ?_)
        have hP : va_P D kCl (kWX4_give cB cI cL cBB cII cSh h_this a_this h_a1 n_a1 this_rate (0 : Int32) f_8 f_9 f_10 f_this_turns f_this_targets f_this_roundConstants f_a1p3) H := hP
        have hD : va_D A (kWX4_give cB cI cL cBB cII cSh h_this a_this h_a1 n_a1 this_rate (0 : Int32) f_8 f_9 f_10 f_this_turns f_this_targets f_this_roundConstants f_a1p3) := hD
        refine lv_aload_n hx hb kdX4_give_29 rfl (lv_at hl 1 rfl) ?_
        refine lv_iload_n hx hb kdX4_give_30 rfl (lv_at hl 2 rfl) ?_
        refine lv_iload hx hb kdX4_give_31 (lv_at hl 4 rfl) ?_
        refine lv_iadd hx hb kdX4_give_33 ?_
        refine lv_aload_n hx hb kdX4_give_34 rfl (lv_at hl 0 rfl) ?_
        refine va_get (ci := 4) (v := .ref (a_this 0)) (C := kRX4) (T := kTX4) (N := 8) hx hb hts kinX4 hown hK hP 0 rfl rfl 0 (by decide) (hts _ km_78) (fun _ h9 => h9) rfl kdX4_give_35 ?_
        refine lv_aload_n hx hb kdX4_give_38 rfl (lv_at hl 0 rfl) ?_
        refine va_get (ci := 4) (v := .int (0 : Int32)) (C := kRX4) (T := kTX4) (N := 8) hx hb hts kinX4 hown hK hP 0 rfl rfl 7 (by decide) (hts _ km_85) (fun _ h9 => h9) rfl kdX4_give_39 ?_
        refine lv_iconst (v := 3) hx hb kdX4_give_42 (by decide) ?_
        refine lv_ishr hx hb kdX4_give_43 ?_
        obtain ⟨g_12, h⟩ := kb_g_s h
        refine va_lald hx hb hK hP 1 2 rfl rfl (kb_in_v g_12) kdX4_give_44 ?_
        refine lv_bipush (v := 8) hx hb kdX4_give_45 (by decide) ?_
        refine lv_aload_n hx hb kdX4_give_47 rfl (lv_at hl 0 rfl) ?_
        refine va_get (ci := 4) (v := .int (0 : Int32)) (C := kRX4) (T := kTX4) (N := 8) hx hb hts kinX4 hown hK hP 0 rfl rfl 7 (by decide) (hts _ km_85) (fun _ h9 => h9) rfl kdX4_give_48 ?_
        refine lv_bipush (v := 7) hx hb kdX4_give_51 (by decide) ?_
        refine lv_iand hx hb kdX4_give_53 ?_
        refine lv_imul hx hb kdX4_give_54 ?_
        refine lv_lushr (v := (((f_8 ((0 : Int32) >>> ((3 : Int32) &&& 31)).toNatClampNeg).toUInt64 >>> (((8 : Int32) * ((0 : Int32) &&& (7 : Int32))).toInt64.toUInt64 &&& Int64.toUInt64 63)).toInt64)) hx hb kdX4_give_55 rfl ?_
        refine lv_l2i (v := ((((f_8 ((0 : Int32) >>> ((3 : Int32) &&& 31)).toNatClampNeg).toUInt64 >>> (((8 : Int32) * ((0 : Int32) &&& (7 : Int32))).toInt64.toUInt64 &&& Int64.toUInt64 63)).toInt64).toInt32)) hx hb kdX4_give_56 rfl ?_
        refine lv_i2b (v := (((((f_8 ((0 : Int32) >>> ((3 : Int32) &&& 31)).toNatClampNeg).toUInt64 >>> (((8 : Int32) * ((0 : Int32) &&& (7 : Int32))).toInt64.toUInt64 &&& Int64.toUInt64 63)).toInt64).toInt32).toInt8.toInt32)) hx hb kdX4_give_57 rfl ?_
        obtain ⟨g_13, h⟩ := kb_g_s h
        refine va_bast hx hb hK hP hD hS 7 0 rfl rfl (kb_in_v g_13) kdX4_give_58 (fun H locs hP hD hS => ?_)
        obtain ⟨f_14, ef_14⟩ : ∃ y, y = upd f_a1p3 (p2 + x4p3).toNatClampNeg (vp_nar .byte (((((f_8 ((0 : Int32) >>> ((3 : Int32) &&& 31)).toNatClampNeg).toUInt64 >>> (((8 : Int32) * ((0 : Int32) &&& (7 : Int32))).toInt64.toUInt64 &&& Int64.toUInt64 63)).toInt64).toInt32).toInt8.toInt32)) := ⟨_, rfl⟩
        have h := kb_n_s ef_14 h
        have hP : va_P D kCl (kWX4_give cB cI cL cBB cII cSh h_this a_this h_a1 n_a1 this_rate (0 : Int32) f_8 f_9 f_10 f_this_turns f_this_targets f_this_roundConstants f_14) H := by rw [ef_14]; exact hP
        have hD : va_D A (kWX4_give cB cI cL cBB cII cSh h_this a_this h_a1 n_a1 this_rate (0 : Int32) f_8 f_9 f_10 f_this_turns f_this_targets f_this_roundConstants f_14) := by rw [ef_14]; exact hD
        refine lv_aload_n hx hb kdX4_give_59 rfl (lv_at hl 0 rfl) ?_
        refine lv_dup hx hb kdX4_give_60 rfl ?_
        refine va_get (ci := 4) (v := .int (0 : Int32)) (C := kRX4) (T := kTX4) (N := 8) hx hb hts kinX4 hown hK hP 0 rfl rfl 7 (by decide) (hts _ km_85) (fun _ h9 => h9) rfl kdX4_give_61 ?_
        refine lv_iconst (v := 1) hx hb kdX4_give_64 (by decide) ?_
        refine lv_iadd hx hb kdX4_give_65 ?_
        refine lv_topi (fun w_15 ew_15 => ?_)
        have h := kb_n_s ew_15 h
        refine va_put (ci := 4) (v := .int w_15) (C := kRX4) (T := kTX4) (N := 8) hx hb hts kinX4 ktyX4 ktyX4_ok knX4 hown hK hP hD hS 0 rfl rfl 7 (by decide) (hts _ km_85) (fun _ h9 => h9) rfl (ktyX4_ok 7 (by decide)) rfl rfl (Nat.le_of_ble_eq_true rfl) kdX4_give_66 (fun H locs hP hD hS => ?_)
        have hP : va_P D kCl (kWX4_give cB cI cL cBB cII cSh h_this a_this h_a1 n_a1 this_rate w_15 f_8 f_9 f_10 f_this_turns f_this_targets f_this_roundConstants f_14) H := hP
        have hD : va_D A (kWX4_give cB cI cL cBB cII cSh h_this a_this h_a1 n_a1 this_rate w_15 f_8 f_9 f_10 f_this_turns f_this_targets f_this_roundConstants f_14) := hD
        obtain ⟨x4_16, ex4_16⟩ : ∃ y : Int32, y = x4p3 + Int32.ofInt 1 := ⟨_, rfl⟩
        have h := kb_n_s ex4_16 h
        refine lv_iinc (v := x4_16) (lv' := [(4, .int x4_16), (0, .ref h_this), (1, .ref h_a1), (2, .int p2), (3, .int p3)]) hx hb kdX4_give_69 hl (k := 4) rfl ex4_16.symm (by decide) rfl (fun ls hl => ?_)
        refine lv_goto (tgt := 3) hx hb kdX4_give_72 (by decide) ?_
        obtain rfl := Option.some.inj h
        exact ih x4_16 f_14 w_15 f_10 f_8 f_9 r ho _ _ _ hP hD hS (lv_sub hl [1, 2, 3, 4, 0] rfl) hk0
set_option maxHeartbeats 4000000 in
set_option maxRecDepth 100000 in
theorem kcX4_give (l : Launch) (D : va_G) (cB cI cL cBB cII cSh : ClassId) (h_this h_a1 : Nat) (a_this : Nat → Nat) (sz : Nat) (p2 : Int32) (p3 : Int32) (n_a1 : Nat) (this_rate : Int32) (this_place : Int32) (f_this_lanes : Nat → Int64) (f_this_moved : Nat → Int64) (f_this_columns : Nat → Int64) (f_this_turns : Nat → Int32) (f_this_targets : Nat → Int32) (f_this_roundConstants : Nat → Int64) (f_a1 : Nat → Int32) (out : Int32 × (Nat → Int64) × (Nat → Int64) × (Nat → Int64) × (Nat → Int32)) (h : kFX4_give p2 p3 n_a1 this_rate this_place f_this_lanes f_this_moved f_this_columns f_this_turns f_this_targets f_this_roundConstants f_a1 = some out) : Met l kyX4_give kwX4_give krX4_give (kb_P D kCl (kb_T cB cI cL cBB cII cSh) [.ref h_this, .ref h_a1, .int p2, .int p3] (kWX4_give cB cI cL cBB cII cSh h_this a_this h_a1 n_a1 this_rate this_place f_this_lanes f_this_moved f_this_columns f_this_turns f_this_targets f_this_roundConstants f_a1) sz) (kb_Q D kCl (kb_T cB cI cL cBB cII cSh) (va_A (kWX4_give cB cI cL cBB cII cSh h_this a_this h_a1 n_a1 this_rate this_place f_this_lanes f_this_moved f_this_columns f_this_turns f_this_targets f_this_roundConstants f_a1) sz) none (kWX4_give cB cI cL cBB cII cSh h_this a_this h_a1 n_a1 this_rate out.1 out.2.1 out.2.2.1 out.2.2.2.1 f_this_turns f_this_targets f_this_roundConstants out.2.2.2.2)) 0 0 (va_A (kWX4_give cB cI cL cBB cII cSh h_this a_this h_a1 n_a1 this_rate this_place f_this_lanes f_this_moved f_this_columns f_this_turns f_this_targets f_this_roundConstants f_a1) sz) := by
  refine Met.ofW (cc := prog_6_method_9_code) (maxL := 5) (ret := none) (by decide) rfl ?_
  intro p e s m args below meth c s₁ B hml hv
  obtain ⟨rfl, hsz, hP, hK, hN, hD0⟩ := hv
  have hx := B.exec
  have hb := B.bytes
  have hr := B.returns
  have hts0 := atoms_spec (ws := kwX4_give) B.pre
  have hts : ∀ w ∈ kwA, w.before _ s = true := fun w h => hts0 w (List.mem_cons_of_mem _ h)
  have hown : s.vm.findClass kRX4 = some m.cls := findClass_of_methodNamed B.named
  have hlocks := B.notSynchronized
  subst hsz
  have hD := hD0.self (sz := s.heap.size)
  generalize hAe : va_A (kWX4_give cB cI cL cBB cII cSh h_this a_this h_a1 n_a1 this_rate this_place f_this_lanes f_this_moved f_this_columns f_this_turns f_this_targets f_this_roundConstants f_a1) s.heap.size = A at hD ⊢
  have hA : ∀ q : Nat, s.heap.size ≤ q → A q := fun q h => by rw [← hAe]; exact Or.inr h
  have hS : va_S A s.heap s.heap [] := va_S.rf
  have C0 : CallFix p m c prog_6_method_9_code 5 s _ kwA kRX4 := ⟨hx, hb, hml, hown, hts⟩
  have hl := lv_entry ([.ref h_this, .ref h_a1, .int p2, .int p3]) (n := 5) (Nat.le_of_ble_eq_true rfl)
  rw [lg_entry_eq]
  generalize (lg_sl ([.ref h_this, .ref h_a1, .int p2, .int p3]) ++ List.replicate (5 - (lg_sl ([.ref h_this, .ref h_a1, .int p2, .int p3])).length) Slot.unset).toArray = ls at hl ⊢
  have hl : lv_has ls 5 [(0, .ref h_this), (1, .ref h_a1), (2, .int p2), (3, .int p3)] := hl
  unfold kFX4_give at h
  refine lv_iconst (v := 0) hx hb kdX4_give_0 (by decide) ?_
  refine lv_istore (lv' := [(4, .int (0 : Int32)), (0, .ref h_this), (1, .ref h_a1), (2, .int p2), (3, .int p3)]) hx hb kdX4_give_1 hl (by decide) rfl (fun ls hl => ?_)
  obtain ⟨r_23, hr_23, h⟩ := kb_o_s h
  refine klX4_give_3 C0 hlocks hK hN hA (by decide) (by decide) h_this h_a1 a_this p2 p3 n_a1 this_rate f_this_turns f_this_targets f_this_roundConstants 100000 (0 : Int32) f_a1 this_place f_this_columns f_this_lanes f_this_moved r_23 hr_23 _ _ _ hP hD hS (lv_sub hl [1, 2, 3, 4, 0] rfl) (fun x4p3_17 f_a1p3_18 this_placep3_19 f_this_columnsp3_20 f_this_lanesp3_21 f_this_movedp3_22 er_23 H locs ls hP hD hS hl => ?_)
  subst er_23
  obtain rfl := Option.some.inj h
  exact W.vret hx hb hr (fun t ht hW => ⟨⟨rfl, by rw [ht]; exact hP, va_K.moved hW.alike hK, hD⟩, hS.F ht⟩) hS.2.2 kdX4_give_75

-- 486.ModuleKemModel.put.lean.txt
abbrev kWX5_put (cB cI cL cBB cII cSh : ClassId) (h_this : Nat) (a_this : Nat → Nat) (this_taped : Int32) (this_code : Int32) (this_kind : Int32) (this_rate : Int32) (this_filled : Int32) (this_total : Int64) (this_bitAt : Int32) (this_k : Int32) (this_e1 : Int32) (this_du : Int32) (this_dv : Int32) (f_this_cubes : Nat → Int64) (f_this_turns : Nat → Int32) (f_this_round : Nat → Int64) (f_this_state : Nat → Int64) (f_this_other : Nat → Int64) (f_this_column : Nat → Int64) (f_this_words : Nat → Int64) (f_this_block : Nat → Int32) : va_W := [(h_this, koX5 a_this this_taped this_code this_kind this_rate this_filled this_total this_bitAt this_k this_e1 this_du this_dv), ((a_this 6), .inl (cL, 80, .inr (.inl f_this_cubes))), ((a_this 11), .inl (cI, 25, .inl f_this_turns)), ((a_this 12), .inl (cL, 24, .inr (.inl f_this_round))), ((a_this 13), .inl (cL, 25, .inr (.inl f_this_state))), ((a_this 14), .inl (cL, 25, .inr (.inl f_this_other))), ((a_this 15), .inl (cL, 5, .inr (.inl f_this_column))), ((a_this 16), .inl (cL, 80, .inr (.inl f_this_words))), ((a_this 17), .inl (cB, 128, .inl f_this_block))]
def krX5_put : Room := { frames := 2, cells := 0, slots := 0, locals := 63 }
set_option maxHeartbeats 4000000 in
set_option maxRecDepth 100000 in
theorem kjX5_put_30 {p : Program} {l : Launch} {e : Env} {s : State} {m : MethodId} {args : Array Value} {below : List Frame} {meth : Method} {c : Code} {D : va_G} {cB cI cL cBB cII cSh : ClassId} {A : Nat → Prop} (C0 : CallFix p m c prog_8_method_27_code 2 s args kwA kRX5) (hlocks : meth.locks = false) (hr : meth.sig.returnType = none) (hK : va_K D kCl (kb_T cB cI cL cBB cII cSh) s) (hN : kb_N s) (hA : ∀ q, s.heap.size ≤ q → A q) (h_this : Nat) (a_this : Nat → Nat) (this_taped : Int32) (this_code : Int32) (this_kind : Int32) (this_rate : Int32) (this_filledj30 : Int32) (this_totalj30 : Int64) (this_bitAt : Int32) (this_k : Int32) (this_e1 : Int32) (this_du : Int32) (this_dv : Int32) (f_this_cubes : Nat → Int64) (f_this_turns : Nat → Int32) (f_this_round : Nat → Int64) (f_this_statej30 : Nat → Int64) (f_this_otherj30 : Nat → Int64) (f_this_columnj30 : Nat → Int64) (f_this_wordsj30 : Nat → Int64) (f_this_blockj30 : Nat → Int32) (out : Int32 × Int64 × (Nat → Int64) × (Nat → Int64) × (Nat → Int64) × (Nat → Int64) × (Nat → Int32)) (h : kJX5_put_30 this_kind this_rate this_filledj30 this_totalj30 f_this_cubes f_this_turns f_this_round f_this_statej30 f_this_otherj30 f_this_columnj30 f_this_wordsj30 f_this_blockj30 = some out) (H : Heap) (locs : List Loc) (ls : Array Slot) (hP : va_P D kCl (kWX5_put cB cI cL cBB cII cSh h_this a_this this_taped this_code this_kind this_rate this_filledj30 this_totalj30 this_bitAt this_k this_e1 this_du this_dv f_this_cubes f_this_turns f_this_round f_this_statej30 f_this_otherj30 f_this_columnj30 f_this_wordsj30 f_this_blockj30) H) (hD : va_D A (kWX5_put cB cI cL cBB cII cSh h_this a_this this_taped this_code this_kind this_rate this_filledj30 this_totalj30 this_bitAt this_k this_e1 this_du this_dv f_this_cubes f_this_turns f_this_round f_this_statej30 f_this_otherj30 f_this_columnj30 f_this_wordsj30 f_this_blockj30)) (hS : va_S A s.heap H locs) (hl : lv_has ls 2 [(0, .ref h_this)]) : W p l e krX5_put s m args below meth c H locs 0 0 (MQ below (kb_Q D kCl (kb_T cB cI cL cBB cII cSh) A none (kWX5_put cB cI cL cBB cII cSh h_this a_this this_taped this_code this_kind this_rate out.1 out.2.1 this_bitAt this_k this_e1 this_du this_dv f_this_cubes f_this_turns f_this_round out.2.2.1 out.2.2.2.1 out.2.2.2.2.1 out.2.2.2.2.2.1 out.2.2.2.2.2.2)) args s 0 0 A) (F0 m 30 ls []) := by
  obtain ⟨hx, hb, hml, hown, hts⟩ := id C0
  unfold kJX5_put_30 at h
  refine lv_aload_n hx hb kdX5_put_30 rfl (lv_at hl 0 rfl) ?_
  refine lv_dup hx hb kdX5_put_31 rfl ?_
  refine va_get (ci := 5) (v := .int this_filledj30) (C := kRX5) (T := kTX5) (N := 35) hx hb hts kinX5 hown hK hP 0 rfl rfl 20 (by decide) (hts _ km_701) (fun _ h9 => h9) rfl kdX5_put_32 ?_
  refine lv_iconst (v := 1) hx hb kdX5_put_35 (by decide) ?_
  refine lv_iadd hx hb kdX5_put_36 ?_
  refine lv_topi (fun w_6 ew_6 => ?_)
  have h := kb_n_s ew_6 h
  refine va_put (ci := 5) (v := .int w_6) (C := kRX5) (T := kTX5) (N := 35) hx hb hts kinX5 ktyX5 ktyX5_ok knX5 hown hK hP hD hS 0 rfl rfl 20 (by decide) (hts _ km_701) (fun _ h9 => h9) rfl (ktyX5_ok 20 (by decide)) rfl rfl (Nat.le_of_ble_eq_true rfl) kdX5_put_37 (fun H locs hP hD hS => ?_)
  have hP : va_P D kCl (kWX5_put cB cI cL cBB cII cSh h_this a_this this_taped this_code this_kind this_rate w_6 this_totalj30 this_bitAt this_k this_e1 this_du this_dv f_this_cubes f_this_turns f_this_round f_this_statej30 f_this_otherj30 f_this_columnj30 f_this_wordsj30 f_this_blockj30) H := hP
  have hD : va_D A (kWX5_put cB cI cL cBB cII cSh h_this a_this this_taped this_code this_kind this_rate w_6 this_totalj30 this_bitAt this_k this_e1 this_du this_dv f_this_cubes f_this_turns f_this_round f_this_statej30 f_this_otherj30 f_this_columnj30 f_this_wordsj30 f_this_blockj30) := hD
  refine lv_aload_n hx hb kdX5_put_40 rfl (lv_at hl 0 rfl) ?_
  refine lv_dup hx hb kdX5_put_41 rfl ?_
  refine va_get (ci := 5) (v := .long this_totalj30) (C := kRX5) (T := kTX5) (N := 35) hx hb hts kinX5 hown hK hP 0 rfl rfl 21 (by decide) (hts _ km_702) (fun _ h9 => h9) rfl kdX5_put_42 ?_
  refine lv_lconst (v := 1) hx hb kdX5_put_45 (by decide) ?_
  refine lv_ladd hx hb kdX5_put_46 ?_
  refine lv_topl (fun w_7 ew_7 => ?_)
  have h := kb_n_s ew_7 h
  refine va_put (ci := 5) (v := .long w_7) (C := kRX5) (T := kTX5) (N := 35) hx hb hts kinX5 ktyX5 ktyX5_ok knX5 hown hK hP hD hS 0 rfl rfl 21 (by decide) (hts _ km_702) (fun _ h9 => h9) rfl (ktyX5_ok 21 (by decide)) rfl rfl (Nat.le_of_ble_eq_true rfl) kdX5_put_47 (fun H locs hP hD hS => ?_)
  have hP : va_P D kCl (kWX5_put cB cI cL cBB cII cSh h_this a_this this_taped this_code this_kind this_rate w_6 w_7 this_bitAt this_k this_e1 this_du this_dv f_this_cubes f_this_turns f_this_round f_this_statej30 f_this_otherj30 f_this_columnj30 f_this_wordsj30 f_this_blockj30) H := hP
  have hD : va_D A (kWX5_put cB cI cL cBB cII cSh h_this a_this this_taped this_code this_kind this_rate w_6 w_7 this_bitAt this_k this_e1 this_du this_dv f_this_cubes f_this_turns f_this_round f_this_statej30 f_this_otherj30 f_this_columnj30 f_this_wordsj30 f_this_blockj30) := hD
  refine lv_aload_n hx hb kdX5_put_50 rfl (lv_at hl 0 rfl) ?_
  refine va_get (ci := 5) (v := .int w_6) (C := kRX5) (T := kTX5) (N := 35) hx hb hts kinX5 hown hK hP 0 rfl rfl 20 (by decide) (hts _ km_701) (fun _ h9 => h9) rfl kdX5_put_51 ?_
  refine lv_aload_n hx hb kdX5_put_54 rfl (lv_at hl 0 rfl) ?_
  refine va_get (ci := 5) (v := .int this_rate) (C := kRX5) (T := kTX5) (N := 35) hx hb hts kinX5 hown hK hP 0 rfl rfl 19 (by decide) (hts _ km_700) (fun _ h9 => h9) rfl kdX5_put_55 ?_
  refine lv_icmp_ne (tgt := 100) hx hb kdX5_put_58 (by decide) (fun c_8 => ?_) (fun c_8 => ?_)
  · have h := kb_b_f c_8 h
    obtain rfl := Option.some.inj h
    exact W.vret hx hb hr (fun t ht hW => ⟨⟨rfl, by rw [ht]; exact hP, va_K.moved hW.alike hK, hD⟩, hS.F ht⟩) hS.2.2 kdX5_put_100
  · have h := kb_b_t c_8 h
    refine lv_aload_n hx hb kdX5_put_61 rfl (lv_at hl 0 rfl) ?_
    obtain ⟨u_10, hu_10, h⟩ := kb_o_s h
    obtain ⟨r_9, rfl⟩ : ∃ z, z = u_10 := ⟨_, rfl⟩
    have hC := (show ([0] : List Nat).map (fun i : Nat => (kWX5_put cB cI cL cBB cII cSh h_this a_this this_taped this_code this_kind this_rate w_6 w_7 this_bitAt this_k this_e1 this_du this_dv f_this_cubes f_this_turns f_this_round f_this_statej30 f_this_otherj30 f_this_columnj30 f_this_wordsj30 f_this_blockj30)[i]?) = List.map some (kWX5_sponge cB cI cL cBB cII cSh h_this a_this this_taped this_code this_kind this_rate w_6 w_7 this_bitAt this_k this_e1 this_du this_dv) from rfl)
    have hPc := kb_Psub hP ([0] : List Nat) hC
    have hDc := kb_Dsub hD ([0] : List Nat) hC (by simp [kb_nd])
    refine kb_call0 (va_runV (As := []) (rest := []) C0 (kcX5_sponge l D cB cI cL cBB cII cSh h_this a_this _ this_taped this_code this_kind this_rate w_6 w_7 this_bitAt this_k this_e1 this_du this_dv r_9 hu_10) (cwV 0 hts (kb_gV km_645 km_647 kp_3 km_6 km_648) rfl rfl rfl (by decide +kernel) ⟨Nat.le_of_ble_eq_true rfl, Nat.le_of_ble_eq_true rfl⟩) ⟨kb_P_bl, va_recv hK hP (ci := 5) (q0 := 0) rfl rfl, (fun U hU hW => ⟨rfl, by rw [hU], by rw [hU]; exact hPc, va_K.moved hW.alike hK, kb_N_to hW hN, hDc.weaken (fun _ _ _ _ => trivial)⟩)⟩ rfl rfl hl.1 rfl (lv_room (Nat.le_of_ble_eq_true rfl)) kdX5_put_62 ⟨Nat.le_of_ble_eq_true rfl, Nat.le_of_ble_eq_true rfl⟩) hP hD hS hA ([0] : List Nat) hC rfl (fun H locs hP hD hS => ?_)
    have hP : va_P D kCl (kWX5_put cB cI cL cBB cII cSh h_this a_this this_taped this_code this_kind this_rate w_6 w_7 this_bitAt this_k this_e1 this_du this_dv f_this_cubes f_this_turns f_this_round f_this_statej30 f_this_otherj30 f_this_columnj30 f_this_wordsj30 f_this_blockj30) H := hP
    have hD : va_D A (kWX5_put cB cI cL cBB cII cSh h_this a_this this_taped this_code this_kind this_rate w_6 w_7 this_bitAt this_k this_e1 this_du this_dv f_this_cubes f_this_turns f_this_round f_this_statej30 f_this_otherj30 f_this_columnj30 f_this_wordsj30 f_this_blockj30) := hD
    refine lv_if_eq (tgt := 75) hx hb kdX5_put_65 (by decide) (fun c_11 => ?_) (fun c_11 => ?_)
    · have h := kb_b_t c_11 h
      refine lv_aload_n hx hb kdX5_put_75 rfl (lv_at hl 0 rfl) ?_
      refine va_get (ci := 5) (v := .int this_rate) (C := kRX5) (T := kTX5) (N := 35) hx hb hts kinX5 hown hK hP 0 rfl rfl 19 (by decide) (hts _ km_700) (fun _ h9 => h9) rfl kdX5_put_76 ?_
      refine lv_bipush (v := 64) hx hb kdX5_put_79 (by decide) ?_
      refine lv_icmp_ne (tgt := 91) hx hb kdX5_put_81 (by decide) (fun c_12 => ?_) (fun c_12 => ?_)
      · have h := kb_b_f c_12 h
        refine lv_aload_n hx hb kdX5_put_91 rfl (lv_at hl 0 rfl) ?_
        obtain ⟨u_15, hu_15, h⟩ := kb_o_s h
        obtain ⟨f_13, f_14⟩ := u_15
        have hC := (show ([0, 1, 4, 7, 8] : List Nat).map (fun i : Nat => (kWX5_put cB cI cL cBB cII cSh h_this a_this this_taped this_code this_kind this_rate w_6 w_7 this_bitAt this_k this_e1 this_du this_dv f_this_cubes f_this_turns f_this_round f_this_statej30 f_this_otherj30 f_this_columnj30 f_this_wordsj30 f_this_blockj30)[i]?) = List.map some (kWX5_compress64 cB cI cL cBB cII cSh h_this a_this this_taped this_code this_kind this_rate w_6 w_7 this_bitAt this_k this_e1 this_du this_dv f_this_cubes f_this_statej30 f_this_wordsj30 f_this_blockj30) from rfl)
        have hPc := kb_Psub hP ([0, 1, 4, 7, 8] : List Nat) hC
        have hDc := kb_Dsub hD ([0, 1, 4, 7, 8] : List Nat) hC (by simp [kb_nd])
        refine kb_call0 (va_runV (As := []) (rest := []) C0 (kcX5_compress64 l D cB cI cL cBB cII cSh h_this a_this _ this_taped this_code this_kind this_rate w_6 w_7 this_bitAt this_k this_e1 this_du this_dv f_this_cubes f_this_statej30 f_this_wordsj30 f_this_blockj30 (f_13, f_14) hu_15) (cwV 0 hts (kb_gV km_669 km_671 kp_16 km_6 km_672) rfl rfl rfl (by decide +kernel) ⟨Nat.le_of_ble_eq_true rfl, Nat.le_of_ble_eq_true rfl⟩) ⟨kb_P_bl, va_recv hK hP (ci := 5) (q0 := 0) rfl rfl, (fun U hU hW => ⟨rfl, by rw [hU], by rw [hU]; exact hPc, va_K.moved hW.alike hK, kb_N_to hW hN, hDc.weaken (fun _ _ _ _ => trivial)⟩)⟩ rfl rfl hl.1 rfl (lv_room (Nat.le_of_ble_eq_true rfl)) kdX5_put_92 ⟨Nat.le_of_ble_eq_true rfl, Nat.le_of_ble_eq_true rfl⟩) hP hD hS hA ([0, 1, 4, 7, 8] : List Nat) hC rfl (fun H locs hP hD hS => ?_)
        have hP : va_P D kCl (kWX5_put cB cI cL cBB cII cSh h_this a_this this_taped this_code this_kind this_rate w_6 w_7 this_bitAt this_k this_e1 this_du this_dv f_this_cubes f_this_turns f_this_round f_13 f_this_otherj30 f_this_columnj30 f_14 f_this_blockj30) H := hP
        have hD : va_D A (kWX5_put cB cI cL cBB cII cSh h_this a_this this_taped this_code this_kind this_rate w_6 w_7 this_bitAt this_k this_e1 this_du this_dv f_this_cubes f_this_turns f_this_round f_13 f_this_otherj30 f_this_columnj30 f_14 f_this_blockj30) := hD
        refine lv_aload_n hx hb kdX5_put_95 rfl (lv_at hl 0 rfl) ?_
        refine lv_iconst (v := 0) hx hb kdX5_put_96 (by decide) ?_
        refine va_put (ci := 5) (v := .int (0 : Int32)) (C := kRX5) (T := kTX5) (N := 35) hx hb hts kinX5 ktyX5 ktyX5_ok knX5 hown hK hP hD hS 0 rfl rfl 20 (by decide) (hts _ km_701) (fun _ h9 => h9) rfl (ktyX5_ok 20 (by decide)) rfl rfl (Nat.le_of_ble_eq_true rfl) kdX5_put_97 (fun H locs hP hD hS => ?_)
        have hP : va_P D kCl (kWX5_put cB cI cL cBB cII cSh h_this a_this this_taped this_code this_kind this_rate (0 : Int32) w_7 this_bitAt this_k this_e1 this_du this_dv f_this_cubes f_this_turns f_this_round f_13 f_this_otherj30 f_this_columnj30 f_14 f_this_blockj30) H := hP
        have hD : va_D A (kWX5_put cB cI cL cBB cII cSh h_this a_this this_taped this_code this_kind this_rate (0 : Int32) w_7 this_bitAt this_k this_e1 this_du this_dv f_this_cubes f_this_turns f_this_round f_13 f_this_otherj30 f_this_columnj30 f_14 f_this_blockj30) := hD
        obtain rfl := Option.some.inj h
        exact W.vret hx hb hr (fun t ht hW => ⟨⟨rfl, by rw [ht]; exact hP, va_K.moved hW.alike hK, hD⟩, hS.F ht⟩) hS.2.2 kdX5_put_100
      · have h := kb_b_t c_12 h
        refine lv_aload_n hx hb kdX5_put_84 rfl (lv_at hl 0 rfl) ?_
        obtain ⟨u_18, hu_18, h⟩ := kb_o_s h
        obtain ⟨f_16, f_17⟩ := u_18
        have hC := (show ([0, 1, 4, 7, 8] : List Nat).map (fun i : Nat => (kWX5_put cB cI cL cBB cII cSh h_this a_this this_taped this_code this_kind this_rate w_6 w_7 this_bitAt this_k this_e1 this_du this_dv f_this_cubes f_this_turns f_this_round f_this_statej30 f_this_otherj30 f_this_columnj30 f_this_wordsj30 f_this_blockj30)[i]?) = List.map some (kWX5_compress32 cB cI cL cBB cII cSh h_this a_this this_taped this_code this_kind this_rate w_6 w_7 this_bitAt this_k this_e1 this_du this_dv f_this_cubes f_this_statej30 f_this_wordsj30 f_this_blockj30) from rfl)
        have hPc := kb_Psub hP ([0, 1, 4, 7, 8] : List Nat) hC
        have hDc := kb_Dsub hD ([0, 1, 4, 7, 8] : List Nat) hC (by simp [kb_nd])
        refine kb_call0 (va_runV (As := []) (rest := []) C0 (kcX5_compress32 l D cB cI cL cBB cII cSh h_this a_this _ this_taped this_code this_kind this_rate w_6 w_7 this_bitAt this_k this_e1 this_du this_dv f_this_cubes f_this_statej30 f_this_wordsj30 f_this_blockj30 (f_16, f_17) hu_18) (cwV 0 hts (kb_gV km_662 km_664 kp_17 km_6 km_665) rfl rfl rfl (by decide +kernel) ⟨Nat.le_of_ble_eq_true rfl, Nat.le_of_ble_eq_true rfl⟩) ⟨kb_P_bl, va_recv hK hP (ci := 5) (q0 := 0) rfl rfl, (fun U hU hW => ⟨rfl, by rw [hU], by rw [hU]; exact hPc, va_K.moved hW.alike hK, kb_N_to hW hN, hDc.weaken (fun _ _ _ _ => trivial)⟩)⟩ rfl rfl hl.1 rfl (lv_room (Nat.le_of_ble_eq_true rfl)) kdX5_put_85 ⟨Nat.le_of_ble_eq_true rfl, Nat.le_of_ble_eq_true rfl⟩) hP hD hS hA ([0, 1, 4, 7, 8] : List Nat) hC rfl (fun H locs hP hD hS => ?_)
        have hP : va_P D kCl (kWX5_put cB cI cL cBB cII cSh h_this a_this this_taped this_code this_kind this_rate w_6 w_7 this_bitAt this_k this_e1 this_du this_dv f_this_cubes f_this_turns f_this_round f_16 f_this_otherj30 f_this_columnj30 f_17 f_this_blockj30) H := hP
        have hD : va_D A (kWX5_put cB cI cL cBB cII cSh h_this a_this this_taped this_code this_kind this_rate w_6 w_7 this_bitAt this_k this_e1 this_du this_dv f_this_cubes f_this_turns f_this_round f_16 f_this_otherj30 f_this_columnj30 f_17 f_this_blockj30) := hD
        refine lv_goto (tgt := 95) hx hb kdX5_put_88 (by decide) ?_
        refine lv_aload_n hx hb kdX5_put_95 rfl (lv_at hl 0 rfl) ?_
        refine lv_iconst (v := 0) hx hb kdX5_put_96 (by decide) ?_
        refine va_put (ci := 5) (v := .int (0 : Int32)) (C := kRX5) (T := kTX5) (N := 35) hx hb hts kinX5 ktyX5 ktyX5_ok knX5 hown hK hP hD hS 0 rfl rfl 20 (by decide) (hts _ km_701) (fun _ h9 => h9) rfl (ktyX5_ok 20 (by decide)) rfl rfl (Nat.le_of_ble_eq_true rfl) kdX5_put_97 (fun H locs hP hD hS => ?_)
        have hP : va_P D kCl (kWX5_put cB cI cL cBB cII cSh h_this a_this this_taped this_code this_kind this_rate (0 : Int32) w_7 this_bitAt this_k this_e1 this_du this_dv f_this_cubes f_this_turns f_this_round f_16 f_this_otherj30 f_this_columnj30 f_17 f_this_blockj30) H := hP
        have hD : va_D A (kWX5_put cB cI cL cBB cII cSh h_this a_this this_taped this_code this_kind this_rate (0 : Int32) w_7 this_bitAt this_k this_e1 this_du this_dv f_this_cubes f_this_turns f_this_round f_16 f_this_otherj30 f_this_columnj30 f_17 f_this_blockj30) := hD
        obtain rfl := Option.some.inj h
        exact W.vret hx hb hr (fun t ht hW => ⟨⟨rfl, by rw [ht]; exact hP, va_K.moved hW.alike hK, hD⟩, hS.F ht⟩) hS.2.2 kdX5_put_100
    · have h := kb_b_f c_11 h
      refine lv_aload_n hx hb kdX5_put_68 rfl (lv_at hl 0 rfl) ?_
      obtain ⟨u_22, hu_22, h⟩ := kb_o_s h
      obtain ⟨f_19, f_20, f_21⟩ := u_22
      have hC := (show ([0, 2, 3, 4, 5, 6] : List Nat).map (fun i : Nat => (kWX5_put cB cI cL cBB cII cSh h_this a_this this_taped this_code this_kind this_rate w_6 w_7 this_bitAt this_k this_e1 this_du this_dv f_this_cubes f_this_turns f_this_round f_this_statej30 f_this_otherj30 f_this_columnj30 f_this_wordsj30 f_this_blockj30)[i]?) = List.map some (kWX5_permute cB cI cL cBB cII cSh h_this a_this this_taped this_code this_kind this_rate w_6 w_7 this_bitAt this_k this_e1 this_du this_dv f_this_turns f_this_round f_this_statej30 f_this_otherj30 f_this_columnj30) from rfl)
      have hPc := kb_Psub hP ([0, 2, 3, 4, 5, 6] : List Nat) hC
      have hDc := kb_Dsub hD ([0, 2, 3, 4, 5, 6] : List Nat) hC (by simp [kb_nd])
      refine kb_call0 (va_runV (As := []) (rest := []) C0 (kcX5_permute l D cB cI cL cBB cII cSh h_this a_this _ this_taped this_code this_kind this_rate w_6 w_7 this_bitAt this_k this_e1 this_du this_dv f_this_turns f_this_round f_this_statej30 f_this_otherj30 f_this_columnj30 (f_19, f_20, f_21) hu_22) (cwV 0 hts (kb_gV km_654 km_656 kp_18 km_6 km_657) rfl rfl rfl (by decide +kernel) ⟨Nat.le_of_ble_eq_true rfl, Nat.le_of_ble_eq_true rfl⟩) ⟨kb_P_bl, va_recv hK hP (ci := 5) (q0 := 0) rfl rfl, (fun U hU hW => ⟨rfl, by rw [hU], by rw [hU]; exact hPc, va_K.moved hW.alike hK, kb_N_to hW hN, hDc.weaken (fun _ _ _ _ => trivial)⟩)⟩ rfl rfl hl.1 rfl (lv_room (Nat.le_of_ble_eq_true rfl)) kdX5_put_69 ⟨Nat.le_of_ble_eq_true rfl, Nat.le_of_ble_eq_true rfl⟩) hP hD hS hA ([0, 2, 3, 4, 5, 6] : List Nat) hC rfl (fun H locs hP hD hS => ?_)
      have hP : va_P D kCl (kWX5_put cB cI cL cBB cII cSh h_this a_this this_taped this_code this_kind this_rate w_6 w_7 this_bitAt this_k this_e1 this_du this_dv f_this_cubes f_this_turns f_this_round f_19 f_20 f_21 f_this_wordsj30 f_this_blockj30) H := hP
      have hD : va_D A (kWX5_put cB cI cL cBB cII cSh h_this a_this this_taped this_code this_kind this_rate w_6 w_7 this_bitAt this_k this_e1 this_du this_dv f_this_cubes f_this_turns f_this_round f_19 f_20 f_21 f_this_wordsj30 f_this_blockj30) := hD
      refine lv_goto (tgt := 95) hx hb kdX5_put_72 (by decide) ?_
      refine lv_aload_n hx hb kdX5_put_95 rfl (lv_at hl 0 rfl) ?_
      refine lv_iconst (v := 0) hx hb kdX5_put_96 (by decide) ?_
      refine va_put (ci := 5) (v := .int (0 : Int32)) (C := kRX5) (T := kTX5) (N := 35) hx hb hts kinX5 ktyX5 ktyX5_ok knX5 hown hK hP hD hS 0 rfl rfl 20 (by decide) (hts _ km_701) (fun _ h9 => h9) rfl (ktyX5_ok 20 (by decide)) rfl rfl (Nat.le_of_ble_eq_true rfl) kdX5_put_97 (fun H locs hP hD hS => ?_)
      have hP : va_P D kCl (kWX5_put cB cI cL cBB cII cSh h_this a_this this_taped this_code this_kind this_rate (0 : Int32) w_7 this_bitAt this_k this_e1 this_du this_dv f_this_cubes f_this_turns f_this_round f_19 f_20 f_21 f_this_wordsj30 f_this_blockj30) H := hP
      have hD : va_D A (kWX5_put cB cI cL cBB cII cSh h_this a_this this_taped this_code this_kind this_rate (0 : Int32) w_7 this_bitAt this_k this_e1 this_du this_dv f_this_cubes f_this_turns f_this_round f_19 f_20 f_21 f_this_wordsj30 f_this_blockj30) := hD
      obtain rfl := Option.some.inj h
      exact W.vret hx hb hr (fun t ht hW => ⟨⟨rfl, by rw [ht]; exact hP, va_K.moved hW.alike hK, hD⟩, hS.F ht⟩) hS.2.2 kdX5_put_100
set_option maxHeartbeats 4000000 in
set_option maxRecDepth 100000 in
theorem kcX5_put (l : Launch) (D : va_G) (cB cI cL cBB cII cSh : ClassId) (h_this : Nat) (a_this : Nat → Nat) (sz : Nat) (p1 : Int32) (this_taped : Int32) (this_code : Int32) (this_kind : Int32) (this_rate : Int32) (this_filled : Int32) (this_total : Int64) (this_bitAt : Int32) (this_k : Int32) (this_e1 : Int32) (this_du : Int32) (this_dv : Int32) (f_this_cubes : Nat → Int64) (f_this_turns : Nat → Int32) (f_this_round : Nat → Int64) (f_this_state : Nat → Int64) (f_this_other : Nat → Int64) (f_this_column : Nat → Int64) (f_this_words : Nat → Int64) (f_this_block : Nat → Int32) (out : Int32 × Int64 × (Nat → Int64) × (Nat → Int64) × (Nat → Int64) × (Nat → Int64) × (Nat → Int32)) (h : kFX5_put p1 this_kind this_rate this_filled this_total f_this_cubes f_this_turns f_this_round f_this_state f_this_other f_this_column f_this_words f_this_block = some out) : Met l kyX5_put kwX5_put krX5_put (kb_P D kCl (kb_T cB cI cL cBB cII cSh) [.ref h_this, .int p1] (kWX5_put cB cI cL cBB cII cSh h_this a_this this_taped this_code this_kind this_rate this_filled this_total this_bitAt this_k this_e1 this_du this_dv f_this_cubes f_this_turns f_this_round f_this_state f_this_other f_this_column f_this_words f_this_block) sz) (kb_Q D kCl (kb_T cB cI cL cBB cII cSh) (va_A (kWX5_put cB cI cL cBB cII cSh h_this a_this this_taped this_code this_kind this_rate this_filled this_total this_bitAt this_k this_e1 this_du this_dv f_this_cubes f_this_turns f_this_round f_this_state f_this_other f_this_column f_this_words f_this_block) sz) none (kWX5_put cB cI cL cBB cII cSh h_this a_this this_taped this_code this_kind this_rate out.1 out.2.1 this_bitAt this_k this_e1 this_du this_dv f_this_cubes f_this_turns f_this_round out.2.2.1 out.2.2.2.1 out.2.2.2.2.1 out.2.2.2.2.2.1 out.2.2.2.2.2.2)) 0 0 (va_A (kWX5_put cB cI cL cBB cII cSh h_this a_this this_taped this_code this_kind this_rate this_filled this_total this_bitAt this_k this_e1 this_du this_dv f_this_cubes f_this_turns f_this_round f_this_state f_this_other f_this_column f_this_words f_this_block) sz) := by
  refine Met.ofW (cc := prog_8_method_27_code) (maxL := 2) (ret := none) (by decide) rfl ?_
  intro p e s m args below meth c s₁ B hml hv
  obtain ⟨rfl, hsz, hP, hK, hN, hD0⟩ := hv
  have hx := B.exec
  have hb := B.bytes
  have hr := B.returns
  have hts0 := atoms_spec (ws := kwX5_put) B.pre
  have hts : ∀ w ∈ kwA, w.before _ s = true := fun w h => hts0 w (List.mem_cons_of_mem _ h)
  have hown : s.vm.findClass kRX5 = some m.cls := findClass_of_methodNamed B.named
  have hlocks := B.notSynchronized
  subst hsz
  have hD := hD0.self (sz := s.heap.size)
  generalize hAe : va_A (kWX5_put cB cI cL cBB cII cSh h_this a_this this_taped this_code this_kind this_rate this_filled this_total this_bitAt this_k this_e1 this_du this_dv f_this_cubes f_this_turns f_this_round f_this_state f_this_other f_this_column f_this_words f_this_block) s.heap.size = A at hD ⊢
  have hA : ∀ q : Nat, s.heap.size ≤ q → A q := fun q h => by rw [← hAe]; exact Or.inr h
  have hS : va_S A s.heap s.heap [] := va_S.rf
  have C0 : CallFix p m c prog_8_method_27_code 2 s _ kwA kRX5 := ⟨hx, hb, hml, hown, hts⟩
  have hl := lv_entry ([.ref h_this, .int p1]) (n := 2) (Nat.le_of_ble_eq_true rfl)
  rw [lg_entry_eq]
  generalize (lg_sl ([.ref h_this, .int p1]) ++ List.replicate (2 - (lg_sl ([.ref h_this, .int p1])).length) Slot.unset).toArray = ls at hl ⊢
  have hl : lv_has ls 2 [(0, .ref h_this), (1, .int p1)] := hl
  unfold kFX5_put at h
  refine lv_aload_n hx hb kdX5_put_0 rfl (lv_at hl 0 rfl) ?_
  obtain ⟨u_2, hu_2, h⟩ := kb_o_s h
  obtain ⟨r_1, rfl⟩ : ∃ z, z = u_2 := ⟨_, rfl⟩
  have hC := (show ([0] : List Nat).map (fun i : Nat => (kWX5_put cB cI cL cBB cII cSh h_this a_this this_taped this_code this_kind this_rate this_filled this_total this_bitAt this_k this_e1 this_du this_dv f_this_cubes f_this_turns f_this_round f_this_state f_this_other f_this_column f_this_words f_this_block)[i]?) = List.map some (kWX5_sponge cB cI cL cBB cII cSh h_this a_this this_taped this_code this_kind this_rate this_filled this_total this_bitAt this_k this_e1 this_du this_dv) from rfl)
  have hPc := kb_Psub hP ([0] : List Nat) hC
  have hDc := kb_Dsub hD ([0] : List Nat) hC (by simp [kb_nd])
  refine kb_call0 (va_runV (As := []) (rest := []) C0 (kcX5_sponge l D cB cI cL cBB cII cSh h_this a_this _ this_taped this_code this_kind this_rate this_filled this_total this_bitAt this_k this_e1 this_du this_dv r_1 hu_2) (cwV 0 hts (kb_gV km_645 km_647 kp_3 km_6 km_648) rfl rfl rfl (by decide +kernel) ⟨Nat.le_of_ble_eq_true rfl, Nat.le_of_ble_eq_true rfl⟩) ⟨kb_P_bl, va_recv hK hP (ci := 5) (q0 := 0) rfl rfl, (fun U hU hW => ⟨rfl, by rw [hU], by rw [hU]; exact hPc, va_K.moved hW.alike hK, kb_N_to hW hN, hDc.weaken (fun _ _ _ _ => trivial)⟩)⟩ rfl rfl hl.1 rfl (lv_room (Nat.le_of_ble_eq_true rfl)) kdX5_put_1 ⟨Nat.le_of_ble_eq_true rfl, Nat.le_of_ble_eq_true rfl⟩) hP hD hS hA ([0] : List Nat) hC rfl (fun H locs hP hD hS => ?_)
  have hP : va_P D kCl (kWX5_put cB cI cL cBB cII cSh h_this a_this this_taped this_code this_kind this_rate this_filled this_total this_bitAt this_k this_e1 this_du this_dv f_this_cubes f_this_turns f_this_round f_this_state f_this_other f_this_column f_this_words f_this_block) H := hP
  have hD : va_D A (kWX5_put cB cI cL cBB cII cSh h_this a_this this_taped this_code this_kind this_rate this_filled this_total this_bitAt this_k this_e1 this_du this_dv f_this_cubes f_this_turns f_this_round f_this_state f_this_other f_this_column f_this_words f_this_block) := hD
  refine lv_if_eq (tgt := 19) hx hb kdX5_put_4 (by decide) (fun c_3 => ?_) (fun c_3 => ?_)
  · have h := kb_b_t c_3 h
    refine lv_aload_n hx hb kdX5_put_19 rfl (lv_at hl 0 rfl) ?_
    refine va_get (ci := 5) (v := .ref (a_this 17)) (C := kRX5) (T := kTX5) (N := 35) hx hb hts kinX5 hown hK hP 0 rfl rfl 17 (by decide) (hts _ km_698) (fun _ h9 => h9) rfl kdX5_put_20 ?_
    refine lv_aload_n hx hb kdX5_put_23 rfl (lv_at hl 0 rfl) ?_
    refine va_get (ci := 5) (v := .int this_filled) (C := kRX5) (T := kTX5) (N := 35) hx hb hts kinX5 hown hK hP 0 rfl rfl 20 (by decide) (hts _ km_701) (fun _ h9 => h9) rfl kdX5_put_24 ?_
    refine lv_iload_n hx hb kdX5_put_27 rfl (lv_at hl 1 rfl) ?_
    refine lv_i2b (v := (p1.toInt8.toInt32)) hx hb kdX5_put_28 rfl ?_
    obtain ⟨g_4, h⟩ := kb_g_s h
    refine va_bast hx hb hK hP hD hS 8 0 rfl rfl (kb_in_v g_4) kdX5_put_29 (fun H locs hP hD hS => ?_)
    obtain ⟨f_5, ef_5⟩ : ∃ y, y = upd f_this_block this_filled.toNatClampNeg (vp_nar .byte (p1.toInt8.toInt32)) := ⟨_, rfl⟩
    have h := kb_n_s ef_5 h
    have hP : va_P D kCl (kWX5_put cB cI cL cBB cII cSh h_this a_this this_taped this_code this_kind this_rate this_filled this_total this_bitAt this_k this_e1 this_du this_dv f_this_cubes f_this_turns f_this_round f_this_state f_this_other f_this_column f_this_words f_5) H := by rw [ef_5]; exact hP
    have hD : va_D A (kWX5_put cB cI cL cBB cII cSh h_this a_this this_taped this_code this_kind this_rate this_filled this_total this_bitAt this_k this_e1 this_du this_dv f_this_cubes f_this_turns f_this_round f_this_state f_this_other f_this_column f_this_words f_5) := by rw [ef_5]; exact hD
    exact kjX5_put_30 C0 hlocks hr hK hN hA h_this a_this this_taped this_code this_kind this_rate this_filled this_total this_bitAt this_k this_e1 this_du this_dv f_this_cubes f_this_turns f_this_round f_this_state f_this_other f_this_column f_this_words f_5 _ h _ _ _ hP hD hS (lv_sub hl [0] rfl)
  · have h := kb_b_f c_3 h
    refine lv_aload_n hx hb kdX5_put_7 rfl (lv_at hl 0 rfl) ?_
    refine lv_aload_n hx hb kdX5_put_8 rfl (lv_at hl 0 rfl) ?_
    refine va_get (ci := 5) (v := .int this_filled) (C := kRX5) (T := kTX5) (N := 35) hx hb hts kinX5 hown hK hP 0 rfl rfl 20 (by decide) (hts _ km_701) (fun _ h9 => h9) rfl kdX5_put_9 ?_
    refine lv_iload_n hx hb kdX5_put_12 rfl (lv_at hl 1 rfl) ?_
    obtain ⟨u_24, hu_24, h⟩ := kb_o_s h
    obtain ⟨f_23, rfl⟩ : ∃ z, z = u_24 := ⟨_, rfl⟩
    have hC := (show ([0, 4] : List Nat).map (fun i : Nat => (kWX5_put cB cI cL cBB cII cSh h_this a_this this_taped this_code this_kind this_rate this_filled this_total this_bitAt this_k this_e1 this_du this_dv f_this_cubes f_this_turns f_this_round f_this_state f_this_other f_this_column f_this_words f_this_block)[i]?) = List.map some (kWX5_flip cB cI cL cBB cII cSh h_this a_this this_taped this_code this_kind this_rate this_filled this_total this_bitAt this_k this_e1 this_du this_dv f_this_state) from rfl)
    have hPc := kb_Psub hP ([0, 4] : List Nat) hC
    have hDc := kb_Dsub hD ([0, 4] : List Nat) hC (by simp [kb_nd])
    refine kb_call0 (va_runV (As := [.int this_filled, .int p1]) (rest := []) C0 (kcX5_flip l D cB cI cL cBB cII cSh h_this a_this _ this_filled p1 this_taped this_code this_kind this_rate this_filled this_total this_bitAt this_k this_e1 this_du this_dv f_this_state f_23 hu_24) (cwV 2 hts (kb_gV km_649 km_651 kp_21 km_6 km_652) rfl rfl rfl (by decide +kernel) ⟨Nat.le_of_ble_eq_true rfl, Nat.le_of_ble_eq_true rfl⟩) ⟨kb_P_bl, va_recv hK hP (ci := 5) (q0 := 0) rfl rfl, (fun U hU hW => ⟨rfl, by rw [hU], by rw [hU]; exact hPc, va_K.moved hW.alike hK, kb_N_to hW hN, hDc.weaken (fun _ _ _ _ => trivial)⟩)⟩ rfl rfl hl.1 rfl (lv_room (Nat.le_of_ble_eq_true rfl)) kdX5_put_13 ⟨Nat.le_of_ble_eq_true rfl, Nat.le_of_ble_eq_true rfl⟩) hP hD hS hA ([0, 4] : List Nat) hC rfl (fun H locs hP hD hS => ?_)
    have hP : va_P D kCl (kWX5_put cB cI cL cBB cII cSh h_this a_this this_taped this_code this_kind this_rate this_filled this_total this_bitAt this_k this_e1 this_du this_dv f_this_cubes f_this_turns f_this_round f_23 f_this_other f_this_column f_this_words f_this_block) H := hP
    have hD : va_D A (kWX5_put cB cI cL cBB cII cSh h_this a_this this_taped this_code this_kind this_rate this_filled this_total this_bitAt this_k this_e1 this_du this_dv f_this_cubes f_this_turns f_this_round f_23 f_this_other f_this_column f_this_words f_this_block) := hD
    refine lv_goto (tgt := 30) hx hb kdX5_put_16 (by decide) ?_
    exact kjX5_put_30 C0 hlocks hr hK hN hA h_this a_this this_taped this_code this_kind this_rate this_filled this_total this_bitAt this_k this_e1 this_du this_dv f_this_cubes f_this_turns f_this_round f_23 f_this_other f_this_column f_this_words f_this_block _ h _ _ _ hP hD hS (lv_sub hl [0] rfl)

-- 487.ModuleKemModel.put2.lean.txt
abbrev kWX5_put2 (cB cI cL cBB cII cSh : ClassId) (h_this : Nat) (a_this : Nat → Nat) (h_a1 : Nat) (n_a1 : Nat) (this_taped : Int32) (this_code : Int32) (this_kind : Int32) (this_rate : Int32) (this_filled : Int32) (this_total : Int64) (this_bitAt : Int32) (this_k : Int32) (this_e1 : Int32) (this_du : Int32) (this_dv : Int32) (f_this_cubes : Nat → Int64) (f_this_turns : Nat → Int32) (f_this_round : Nat → Int64) (f_this_state : Nat → Int64) (f_this_other : Nat → Int64) (f_this_column : Nat → Int64) (f_this_words : Nat → Int64) (f_this_block : Nat → Int32) (f_a1 : Nat → Int32) : va_W := [(h_this, koX5 a_this this_taped this_code this_kind this_rate this_filled this_total this_bitAt this_k this_e1 this_du this_dv), ((a_this 6), .inl (cL, 80, .inr (.inl f_this_cubes))), ((a_this 11), .inl (cI, 25, .inl f_this_turns)), ((a_this 12), .inl (cL, 24, .inr (.inl f_this_round))), ((a_this 13), .inl (cL, 25, .inr (.inl f_this_state))), ((a_this 14), .inl (cL, 25, .inr (.inl f_this_other))), ((a_this 15), .inl (cL, 5, .inr (.inl f_this_column))), ((a_this 16), .inl (cL, 80, .inr (.inl f_this_words))), ((a_this 17), .inl (cB, 128, .inl f_this_block)), (h_a1, .inl (cB, n_a1, .inl f_a1))]
def krX5_put2 : Room := { frames := 3, cells := 0, slots := 0, locals := 84 }
set_option maxHeartbeats 4000000 in
set_option maxRecDepth 100000 in
theorem klX5_put2_3 {p : Program} {l : Launch} {e : Env} {s : State} {m : MethodId} {args : Array Value} {below : List Frame} {meth : Method} {c : Code} {cells slots : Nat} {Q : State → Prop} {D : va_G} {cB cI cL cBB cII cSh : ClassId} {A : Nat → Prop} (C0 : CallFix p m c prog_8_method_28_code 5 s args kwA kRX5) (hlocks : meth.locks = false) (hK : va_K D kCl (kb_T cB cI cL cBB cII cSh) s) (hN : kb_N s) (hA : ∀ q, s.heap.size ≤ q → A q) (hcR : cells ≤ krX5_put2.cells) (hsR : slots ≤ krX5_put2.slots) (h_this h_a1 : Nat) (a_this : Nat → Nat) (p2 : Int32) (p3 : Int32) (n_a1 : Nat) (this_taped : Int32) (this_code : Int32) (this_kind : Int32) (this_rate : Int32) (this_bitAt : Int32) (this_k : Int32) (this_e1 : Int32) (this_du : Int32) (this_dv : Int32) (f_this_cubes : Nat → Int64) (f_this_turns : Nat → Int32) (f_this_round : Nat → Int64) (f_a1 : Nat → Int32) :
    ∀ (fuel : Nat) (x4p3 : Int32) (this_filledp3 : Int32) (this_totalp3 : Int64) (f_this_blockp3 : Nat → Int32) (f_this_columnp3 : Nat → Int64) (f_this_otherp3 : Nat → Int64) (f_this_statep3 : Nat → Int64) (f_this_wordsp3 : Nat → Int64) (r : Int32 × Int32 × Int64 × (Nat → Int32) × (Nat → Int64) × (Nat → Int64) × (Nat → Int64) × (Nat → Int64)), kb_w (fun u : Int32 × Int32 × Int64 × (Nat → Int32) × (Nat → Int64) × (Nat → Int64) × (Nat → Int64) × (Nat → Int64) => kSX5_put2_3 p2 p3 n_a1 this_kind this_rate f_this_cubes f_this_turns f_this_round f_a1 u.1 u.2.1 u.2.2.1 u.2.2.2.1 u.2.2.2.2.1 u.2.2.2.2.2.1 u.2.2.2.2.2.2.1 u.2.2.2.2.2.2.2) fuel (x4p3, this_filledp3, this_totalp3, f_this_blockp3, f_this_columnp3, f_this_otherp3, f_this_statep3, f_this_wordsp3) = some r → ∀ (H : Heap) (locs : List Loc) (ls : Array Slot), va_P D kCl (kWX5_put2 cB cI cL cBB cII cSh h_this a_this h_a1 n_a1 this_taped this_code this_kind this_rate this_filledp3 this_totalp3 this_bitAt this_k this_e1 this_du this_dv f_this_cubes f_this_turns f_this_round f_this_statep3 f_this_otherp3 f_this_columnp3 f_this_wordsp3 f_this_blockp3 f_a1) H → va_D A (kWX5_put2 cB cI cL cBB cII cSh h_this a_this h_a1 n_a1 this_taped this_code this_kind this_rate this_filledp3 this_totalp3 this_bitAt this_k this_e1 this_du this_dv f_this_cubes f_this_turns f_this_round f_this_statep3 f_this_otherp3 f_this_columnp3 f_this_wordsp3 f_this_blockp3 f_a1) → va_S A s.heap H locs → lv_has ls 5 [(0, .ref h_this), (1, .ref h_a1), (2, .int p2), (3, .int p3), (4, .int x4p3)] → (∀ (x4p3' : Int32) (this_filledp3' : Int32) (this_totalp3' : Int64) (f_this_blockp3' : Nat → Int32) (f_this_columnp3' : Nat → Int64) (f_this_otherp3' : Nat → Int64) (f_this_statep3' : Nat → Int64) (f_this_wordsp3' : Nat → Int64), r = (x4p3', this_filledp3', this_totalp3', f_this_blockp3', f_this_columnp3', f_this_otherp3', f_this_statep3', f_this_wordsp3') → ∀ (H : Heap) (locs : List Loc) (ls : Array Slot), va_P D kCl (kWX5_put2 cB cI cL cBB cII cSh h_this a_this h_a1 n_a1 this_taped this_code this_kind this_rate this_filledp3' this_totalp3' this_bitAt this_k this_e1 this_du this_dv f_this_cubes f_this_turns f_this_round f_this_statep3' f_this_otherp3' f_this_columnp3' f_this_wordsp3' f_this_blockp3' f_a1) H → va_D A (kWX5_put2 cB cI cL cBB cII cSh h_this a_this h_a1 n_a1 this_taped this_code this_kind this_rate this_filledp3' this_totalp3' this_bitAt this_k this_e1 this_du this_dv f_this_cubes f_this_turns f_this_round f_this_statep3' f_this_otherp3' f_this_columnp3' f_this_wordsp3' f_this_blockp3' f_a1) → va_S A s.heap H locs → lv_has ls 5 [(0, .ref h_this), (1, .ref h_a1), (2, .int p2), (3, .int p3), (4, .int x4p3')] → W p l e krX5_put2 s m args below meth c H locs cells slots Q (F0 m 25 ls [])) → W p l e krX5_put2 s m args below meth c H locs cells slots Q (F0 m 3 ls []) := by
  obtain ⟨hx, hb, hml, hown, hts⟩ := id C0
  intro fuel
  induction fuel with
  | zero =>
    intro x4p3 this_filledp3 this_totalp3 f_this_blockp3 f_this_columnp3 f_this_otherp3 f_this_statep3 f_this_wordsp3 r h
    exact absurd h (kb_w_z _ _ _)
  | succ fuel ih =>
    intro x4p3 this_filledp3 this_totalp3 f_this_blockp3 f_this_columnp3 f_this_otherp3 f_this_statep3 f_this_wordsp3 r h H locs ls hP hD hS hl hk0
    obtain ⟨o, h, ho⟩ := kb_w_s h
    have h : kSX5_put2_3 p2 p3 n_a1 this_kind this_rate f_this_cubes f_this_turns f_this_round f_a1 x4p3 this_filledp3 this_totalp3 f_this_blockp3 f_this_columnp3 f_this_otherp3 f_this_statep3 f_this_wordsp3 = some o := h
    unfold kSX5_put2_3 at h
    refine lv_iload hx hb kdX5_put2_3 (lv_at hl 4 rfl) ?_
    refine lv_iload_n hx hb kdX5_put2_5 rfl (lv_at hl 3 rfl) ?_
    refine lv_icmp_ge (tgt := 25) hx hb kdX5_put2_6 (by decide) (fun c_1 => ?_) (fun c_1 => ?_)
    · have h := kb_b_t c_1 h
      obtain rfl := Option.some.inj h
      exact hk0 x4p3 this_filledp3 this_totalp3 f_this_blockp3 f_this_columnp3 f_this_otherp3 f_this_statep3 f_this_wordsp3 ho.symm _ _ _ hP hD hS (lv_sub hl [0, 1, 2, 3, 4] rfl)
    · have h := kb_b_f c_1 h
      refine lv_aload_n hx hb kdX5_put2_9 rfl (lv_at hl 0 rfl) ?_
      refine lv_aload_n hx hb kdX5_put2_10 rfl (lv_at hl 1 rfl) ?_
      refine lv_iload_n hx hb kdX5_put2_11 rfl (lv_at hl 2 rfl) ?_
      refine lv_iload hx hb kdX5_put2_12 (lv_at hl 4 rfl) ?_
      refine lv_iadd hx hb kdX5_put2_14 ?_
      obtain ⟨g_2, h⟩ := kb_g_s h
      refine va_bald hx hb hK hP 9 0 rfl rfl (kb_in_v g_2) kdX5_put2_15 ?_
      obtain ⟨u_10, hu_10, h⟩ := kb_o_s h
      obtain ⟨w_3, w_4, f_5, f_6, f_7, f_8, f_9⟩ := u_10
      have hC := (show ([0, 1, 2, 3, 4, 5, 6, 7, 8] : List Nat).map (fun i : Nat => (kWX5_put2 cB cI cL cBB cII cSh h_this a_this h_a1 n_a1 this_taped this_code this_kind this_rate this_filledp3 this_totalp3 this_bitAt this_k this_e1 this_du this_dv f_this_cubes f_this_turns f_this_round f_this_statep3 f_this_otherp3 f_this_columnp3 f_this_wordsp3 f_this_blockp3 f_a1)[i]?) = List.map some (kWX5_put cB cI cL cBB cII cSh h_this a_this this_taped this_code this_kind this_rate this_filledp3 this_totalp3 this_bitAt this_k this_e1 this_du this_dv f_this_cubes f_this_turns f_this_round f_this_statep3 f_this_otherp3 f_this_columnp3 f_this_wordsp3 f_this_blockp3) from rfl)
      have hPc := kb_Psub hP ([0, 1, 2, 3, 4, 5, 6, 7, 8] : List Nat) hC
      have hDc := kb_Dsub hD ([0, 1, 2, 3, 4, 5, 6, 7, 8] : List Nat) hC (by simp [kb_nd])
      refine kb_call0 (va_runV (As := [.int (f_a1 (p2 + x4p3).toNatClampNeg)]) (rest := []) C0 (kcX5_put l D cB cI cL cBB cII cSh h_this a_this _ (f_a1 (p2 + x4p3).toNatClampNeg) this_taped this_code this_kind this_rate this_filledp3 this_totalp3 this_bitAt this_k this_e1 this_du this_dv f_this_cubes f_this_turns f_this_round f_this_statep3 f_this_otherp3 f_this_columnp3 f_this_wordsp3 f_this_blockp3 (w_3, w_4, f_5, f_6, f_7, f_8, f_9) hu_10) (cwV 1 hts (kb_gV km_641 km_643 kp_22 km_6 km_644) rfl rfl rfl (by decide +kernel) ⟨Nat.le_of_ble_eq_true rfl, Nat.le_of_ble_eq_true rfl⟩) ⟨kb_P_bl, va_recv hK hP (ci := 5) (q0 := 0) rfl rfl, (fun U hU hW => ⟨rfl, by rw [hU], by rw [hU]; exact hPc, va_K.moved hW.alike hK, kb_N_to hW hN, hDc.weaken (fun _ _ _ _ => trivial)⟩)⟩ rfl rfl hl.1 rfl (lv_room (Nat.le_of_ble_eq_true rfl)) kdX5_put2_16 ⟨hcR, hsR⟩) hP hD hS hA ([0, 1, 2, 3, 4, 5, 6, 7, 8] : List Nat) hC rfl (fun H locs hP hD hS => ?_)
      have hP : va_P D kCl (kWX5_put2 cB cI cL cBB cII cSh h_this a_this h_a1 n_a1 this_taped this_code this_kind this_rate w_3 w_4 this_bitAt this_k this_e1 this_du this_dv f_this_cubes f_this_turns f_this_round f_5 f_6 f_7 f_8 f_9 f_a1) H := hP
      have hD : va_D A (kWX5_put2 cB cI cL cBB cII cSh h_this a_this h_a1 n_a1 this_taped this_code this_kind this_rate w_3 w_4 this_bitAt this_k this_e1 this_du this_dv f_this_cubes f_this_turns f_this_round f_5 f_6 f_7 f_8 f_9 f_a1) := hD
      obtain ⟨x4_11, ex4_11⟩ : ∃ y : Int32, y = x4p3 + Int32.ofInt 1 := ⟨_, rfl⟩
      have h := kb_n_s ex4_11 h
      refine lv_iinc (v := x4_11) (lv' := [(4, .int x4_11), (0, .ref h_this), (1, .ref h_a1), (2, .int p2), (3, .int p3)]) hx hb kdX5_put2_19 hl (k := 4) rfl ex4_11.symm (by decide) rfl (fun ls hl => ?_)
      refine lv_goto (tgt := 3) hx hb kdX5_put2_22 (by decide) ?_
      obtain rfl := Option.some.inj h
      exact ih x4_11 w_3 w_4 f_9 f_7 f_6 f_5 f_8 r ho _ _ _ hP hD hS (lv_sub hl [1, 2, 3, 4, 0] rfl) hk0
set_option maxHeartbeats 4000000 in
set_option maxRecDepth 100000 in
theorem kcX5_put2 (l : Launch) (D : va_G) (cB cI cL cBB cII cSh : ClassId) (h_this h_a1 : Nat) (a_this : Nat → Nat) (sz : Nat) (p2 : Int32) (p3 : Int32) (n_a1 : Nat) (this_taped : Int32) (this_code : Int32) (this_kind : Int32) (this_rate : Int32) (this_filled : Int32) (this_total : Int64) (this_bitAt : Int32) (this_k : Int32) (this_e1 : Int32) (this_du : Int32) (this_dv : Int32) (f_this_cubes : Nat → Int64) (f_this_turns : Nat → Int32) (f_this_round : Nat → Int64) (f_this_state : Nat → Int64) (f_this_other : Nat → Int64) (f_this_column : Nat → Int64) (f_this_words : Nat → Int64) (f_this_block : Nat → Int32) (f_a1 : Nat → Int32) (out : Int32 × Int64 × (Nat → Int64) × (Nat → Int64) × (Nat → Int64) × (Nat → Int64) × (Nat → Int32)) (h : kFX5_put2 p2 p3 n_a1 this_kind this_rate this_filled this_total f_this_cubes f_this_turns f_this_round f_this_state f_this_other f_this_column f_this_words f_this_block f_a1 = some out) : Met l kyX5_put2 kwX5_put2 krX5_put2 (kb_P D kCl (kb_T cB cI cL cBB cII cSh) [.ref h_this, .ref h_a1, .int p2, .int p3] (kWX5_put2 cB cI cL cBB cII cSh h_this a_this h_a1 n_a1 this_taped this_code this_kind this_rate this_filled this_total this_bitAt this_k this_e1 this_du this_dv f_this_cubes f_this_turns f_this_round f_this_state f_this_other f_this_column f_this_words f_this_block f_a1) sz) (kb_Q D kCl (kb_T cB cI cL cBB cII cSh) (va_A (kWX5_put2 cB cI cL cBB cII cSh h_this a_this h_a1 n_a1 this_taped this_code this_kind this_rate this_filled this_total this_bitAt this_k this_e1 this_du this_dv f_this_cubes f_this_turns f_this_round f_this_state f_this_other f_this_column f_this_words f_this_block f_a1) sz) none (kWX5_put2 cB cI cL cBB cII cSh h_this a_this h_a1 n_a1 this_taped this_code this_kind this_rate out.1 out.2.1 this_bitAt this_k this_e1 this_du this_dv f_this_cubes f_this_turns f_this_round out.2.2.1 out.2.2.2.1 out.2.2.2.2.1 out.2.2.2.2.2.1 out.2.2.2.2.2.2 f_a1)) 0 0 (va_A (kWX5_put2 cB cI cL cBB cII cSh h_this a_this h_a1 n_a1 this_taped this_code this_kind this_rate this_filled this_total this_bitAt this_k this_e1 this_du this_dv f_this_cubes f_this_turns f_this_round f_this_state f_this_other f_this_column f_this_words f_this_block f_a1) sz) := by
  refine Met.ofW (cc := prog_8_method_28_code) (maxL := 5) (ret := none) (by decide) rfl ?_
  intro p e s m args below meth c s₁ B hml hv
  obtain ⟨rfl, hsz, hP, hK, hN, hD0⟩ := hv
  have hx := B.exec
  have hb := B.bytes
  have hr := B.returns
  have hts0 := atoms_spec (ws := kwX5_put2) B.pre
  have hts : ∀ w ∈ kwA, w.before _ s = true := fun w h => hts0 w (List.mem_cons_of_mem _ h)
  have hown : s.vm.findClass kRX5 = some m.cls := findClass_of_methodNamed B.named
  have hlocks := B.notSynchronized
  subst hsz
  have hD := hD0.self (sz := s.heap.size)
  generalize hAe : va_A (kWX5_put2 cB cI cL cBB cII cSh h_this a_this h_a1 n_a1 this_taped this_code this_kind this_rate this_filled this_total this_bitAt this_k this_e1 this_du this_dv f_this_cubes f_this_turns f_this_round f_this_state f_this_other f_this_column f_this_words f_this_block f_a1) s.heap.size = A at hD ⊢
  have hA : ∀ q : Nat, s.heap.size ≤ q → A q := fun q h => by rw [← hAe]; exact Or.inr h
  have hS : va_S A s.heap s.heap [] := va_S.rf
  have C0 : CallFix p m c prog_8_method_28_code 5 s _ kwA kRX5 := ⟨hx, hb, hml, hown, hts⟩
  have hl := lv_entry ([.ref h_this, .ref h_a1, .int p2, .int p3]) (n := 5) (Nat.le_of_ble_eq_true rfl)
  rw [lg_entry_eq]
  generalize (lg_sl ([.ref h_this, .ref h_a1, .int p2, .int p3]) ++ List.replicate (5 - (lg_sl ([.ref h_this, .ref h_a1, .int p2, .int p3])).length) Slot.unset).toArray = ls at hl ⊢
  have hl : lv_has ls 5 [(0, .ref h_this), (1, .ref h_a1), (2, .int p2), (3, .int p3)] := hl
  unfold kFX5_put2 at h
  refine lv_iconst (v := 0) hx hb kdX5_put2_0 (by decide) ?_
  refine lv_istore (lv' := [(4, .int (0 : Int32)), (0, .ref h_this), (1, .ref h_a1), (2, .int p2), (3, .int p3)]) hx hb kdX5_put2_1 hl (by decide) rfl (fun ls hl => ?_)
  obtain ⟨r_20, hr_20, h⟩ := kb_o_s h
  refine klX5_put2_3 C0 hlocks hK hN hA (by decide) (by decide) h_this h_a1 a_this p2 p3 n_a1 this_taped this_code this_kind this_rate this_bitAt this_k this_e1 this_du this_dv f_this_cubes f_this_turns f_this_round f_a1 100000 (0 : Int32) this_filled this_total f_this_block f_this_column f_this_other f_this_state f_this_words r_20 hr_20 _ _ _ hP hD hS (lv_sub hl [1, 2, 3, 4, 0] rfl) (fun x4p3_12 this_filledp3_13 this_totalp3_14 f_this_blockp3_15 f_this_columnp3_16 f_this_otherp3_17 f_this_statep3_18 f_this_wordsp3_19 er_20 H locs ls hP hD hS hl => ?_)
  subst er_20
  obtain rfl := Option.some.inj h
  exact W.vret hx hb hr (fun t ht hW => ⟨⟨rfl, by rw [ht]; exact hP, va_K.moved hW.alike hK, hD⟩, hS.F ht⟩) hS.2.2 kdX5_put2_25

-- 488.ModuleKemModel.finish.lean.txt
abbrev kWX5_finish (cB cI cL cBB cII cSh : ClassId) (h_this : Nat) (a_this : Nat → Nat) (this_taped : Int32) (this_code : Int32) (this_kind : Int32) (this_rate : Int32) (this_filled : Int32) (this_total : Int64) (this_bitAt : Int32) (this_k : Int32) (this_e1 : Int32) (this_du : Int32) (this_dv : Int32) (f_this_cubes : Nat → Int64) (f_this_turns : Nat → Int32) (f_this_round : Nat → Int64) (f_this_state : Nat → Int64) (f_this_other : Nat → Int64) (f_this_column : Nat → Int64) (f_this_words : Nat → Int64) (f_this_block : Nat → Int32) : va_W := [(h_this, koX5 a_this this_taped this_code this_kind this_rate this_filled this_total this_bitAt this_k this_e1 this_du this_dv), ((a_this 6), .inl (cL, 80, .inr (.inl f_this_cubes))), ((a_this 11), .inl (cI, 25, .inl f_this_turns)), ((a_this 12), .inl (cL, 24, .inr (.inl f_this_round))), ((a_this 13), .inl (cL, 25, .inr (.inl f_this_state))), ((a_this 14), .inl (cL, 25, .inr (.inl f_this_other))), ((a_this 15), .inl (cL, 5, .inr (.inl f_this_column))), ((a_this 16), .inl (cL, 80, .inr (.inl f_this_words))), ((a_this 17), .inl (cB, 128, .inl f_this_block))]
def krX5_finish : Room := { frames := 3, cells := 0, slots := 0, locals := 84 }
set_option maxHeartbeats 4000000 in
set_option maxRecDepth 100000 in
theorem klX5_finish_70 {p : Program} {l : Launch} {e : Env} {s : State} {m : MethodId} {args : Array Value} {below : List Frame} {meth : Method} {c : Code} {cells slots : Nat} {Q : State → Prop} {D : va_G} {cB cI cL cBB cII cSh : ClassId} {A : Nat → Prop} (C0 : CallFix p m c prog_8_method_35_code 4 s args kwA kRX5) (hlocks : meth.locks = false) (hK : va_K D kCl (kb_T cB cI cL cBB cII cSh) s) (hN : kb_N s) (hA : ∀ q, s.heap.size ≤ q → A q) (hcR : cells ≤ krX5_finish.cells) (hsR : slots ≤ krX5_finish.slots) (h_this : Nat) (a_this : Nat → Nat) (x1_4 : Int64) (this_taped : Int32) (this_code : Int32) (this_kind : Int32) (this_rate : Int32) (this_bitAt : Int32) (this_k : Int32) (this_e1 : Int32) (this_du : Int32) (this_dv : Int32) (f_this_cubes : Nat → Int64) (f_this_turns : Nat → Int32) (f_this_round : Nat → Int64) :
    ∀ (fuel : Nat) (this_filledp70 : Int32) (this_totalp70 : Int64) (f_this_blockp70 : Nat → Int32) (f_this_columnp70 : Nat → Int64) (f_this_otherp70 : Nat → Int64) (f_this_statep70 : Nat → Int64) (f_this_wordsp70 : Nat → Int64) (r : Int32 × Int64 × (Nat → Int32) × (Nat → Int64) × (Nat → Int64) × (Nat → Int64) × (Nat → Int64)), kb_w (fun u : Int32 × Int64 × (Nat → Int32) × (Nat → Int64) × (Nat → Int64) × (Nat → Int64) × (Nat → Int64) => kSX5_finish_70 this_kind this_rate f_this_cubes f_this_turns f_this_round u.1 u.2.1 u.2.2.1 u.2.2.2.1 u.2.2.2.2.1 u.2.2.2.2.2.1 u.2.2.2.2.2.2) fuel (this_filledp70, this_totalp70, f_this_blockp70, f_this_columnp70, f_this_otherp70, f_this_statep70, f_this_wordsp70) = some r → ∀ (H : Heap) (locs : List Loc) (ls : Array Slot), va_P D kCl (kWX5_finish cB cI cL cBB cII cSh h_this a_this this_taped this_code this_kind this_rate this_filledp70 this_totalp70 this_bitAt this_k this_e1 this_du this_dv f_this_cubes f_this_turns f_this_round f_this_statep70 f_this_otherp70 f_this_columnp70 f_this_wordsp70 f_this_blockp70) H → va_D A (kWX5_finish cB cI cL cBB cII cSh h_this a_this this_taped this_code this_kind this_rate this_filledp70 this_totalp70 this_bitAt this_k this_e1 this_du this_dv f_this_cubes f_this_turns f_this_round f_this_statep70 f_this_otherp70 f_this_columnp70 f_this_wordsp70 f_this_blockp70) → va_S A s.heap H locs → lv_has ls 4 [(0, .ref h_this), (1, .long x1_4)] → (∀ (this_filledp70' : Int32) (this_totalp70' : Int64) (f_this_blockp70' : Nat → Int32) (f_this_columnp70' : Nat → Int64) (f_this_otherp70' : Nat → Int64) (f_this_statep70' : Nat → Int64) (f_this_wordsp70' : Nat → Int64), r = (this_filledp70', this_totalp70', f_this_blockp70', f_this_columnp70', f_this_otherp70', f_this_statep70', f_this_wordsp70') → ∀ (H : Heap) (locs : List Loc) (ls : Array Slot), va_P D kCl (kWX5_finish cB cI cL cBB cII cSh h_this a_this this_taped this_code this_kind this_rate this_filledp70' this_totalp70' this_bitAt this_k this_e1 this_du this_dv f_this_cubes f_this_turns f_this_round f_this_statep70' f_this_otherp70' f_this_columnp70' f_this_wordsp70' f_this_blockp70') H → va_D A (kWX5_finish cB cI cL cBB cII cSh h_this a_this this_taped this_code this_kind this_rate this_filledp70' this_totalp70' this_bitAt this_k this_e1 this_du this_dv f_this_cubes f_this_turns f_this_round f_this_statep70' f_this_otherp70' f_this_columnp70' f_this_wordsp70' f_this_blockp70') → va_S A s.heap H locs → lv_has ls 4 [(0, .ref h_this), (1, .long x1_4)] → W p l e krX5_finish s m args below meth c H locs cells slots Q (F0 m 97 ls [])) → W p l e krX5_finish s m args below meth c H locs cells slots Q (F0 m 70 ls []) := by
  obtain ⟨hx, hb, hml, hown, hts⟩ := id C0
  intro fuel
  induction fuel with
  | zero =>
    intro this_filledp70 this_totalp70 f_this_blockp70 f_this_columnp70 f_this_otherp70 f_this_statep70 f_this_wordsp70 r h
    exact absurd h (kb_w_z _ _ _)
  | succ fuel ih =>
    intro this_filledp70 this_totalp70 f_this_blockp70 f_this_columnp70 f_this_otherp70 f_this_statep70 f_this_wordsp70 r h H locs ls hP hD hS hl hk0
    obtain ⟨o, h, ho⟩ := kb_w_s h
    have h : kSX5_finish_70 this_kind this_rate f_this_cubes f_this_turns f_this_round this_filledp70 this_totalp70 f_this_blockp70 f_this_columnp70 f_this_otherp70 f_this_statep70 f_this_wordsp70 = some o := h
    unfold kSX5_finish_70 at h
    refine lv_aload_n hx hb kdX5_finish_70 rfl (lv_at hl 0 rfl) ?_
    refine va_get (ci := 5) (v := .int this_filledp70) (C := kRX5) (T := kTX5) (N := 35) hx hb hts kinX5 hown hK hP 0 rfl rfl 20 (by decide) (hts _ km_701) (fun _ h9 => h9) rfl kdX5_finish_71 ?_
    refine lv_aload_n hx hb kdX5_finish_74 rfl (lv_at hl 0 rfl) ?_
    refine va_get (ci := 5) (v := .int this_rate) (C := kRX5) (T := kTX5) (N := 35) hx hb hts kinX5 hown hK hP 0 rfl rfl 19 (by decide) (hts _ km_700) (fun _ h9 => h9) rfl kdX5_finish_75 ?_
    refine lv_aload_n hx hb kdX5_finish_78 rfl (lv_at hl 0 rfl) ?_
    refine va_get (ci := 5) (v := .int this_rate) (C := kRX5) (T := kTX5) (N := 35) hx hb hts kinX5 hown hK hP 0 rfl rfl 19 (by decide) (hts _ km_700) (fun _ h9 => h9) rfl kdX5_finish_79 ?_
    refine lv_bipush (v := 8) hx hb kdX5_finish_82 (by decide) ?_
    refine lv_idiv hx hb kdX5_finish_84 (by decide) ?_
    refine lv_isub hx hb kdX5_finish_85 ?_
    refine lv_icmp_eq (tgt := 97) hx hb kdX5_finish_86 (by decide) (fun c_13 => ?_) (fun c_13 => ?_)
    · have h := kb_b_t c_13 h
      obtain rfl := Option.some.inj h
      exact hk0 this_filledp70 this_totalp70 f_this_blockp70 f_this_columnp70 f_this_otherp70 f_this_statep70 f_this_wordsp70 ho.symm _ _ _ hP hD hS (lv_sub hl [0, 1] rfl)
    · have h := kb_b_f c_13 h
      refine lv_aload_n hx hb kdX5_finish_89 rfl (lv_at hl 0 rfl) ?_
      refine lv_iconst (v := 0) hx hb kdX5_finish_90 (by decide) ?_
      obtain ⟨u_21, hu_21, h⟩ := kb_o_s h
      obtain ⟨w_14, w_15, f_16, f_17, f_18, f_19, f_20⟩ := u_21
      have hC := (show ([0, 1, 2, 3, 4, 5, 6, 7, 8] : List Nat).map (fun i : Nat => (kWX5_finish cB cI cL cBB cII cSh h_this a_this this_taped this_code this_kind this_rate this_filledp70 this_totalp70 this_bitAt this_k this_e1 this_du this_dv f_this_cubes f_this_turns f_this_round f_this_statep70 f_this_otherp70 f_this_columnp70 f_this_wordsp70 f_this_blockp70)[i]?) = List.map some (kWX5_put cB cI cL cBB cII cSh h_this a_this this_taped this_code this_kind this_rate this_filledp70 this_totalp70 this_bitAt this_k this_e1 this_du this_dv f_this_cubes f_this_turns f_this_round f_this_statep70 f_this_otherp70 f_this_columnp70 f_this_wordsp70 f_this_blockp70) from rfl)
      have hPc := kb_Psub hP ([0, 1, 2, 3, 4, 5, 6, 7, 8] : List Nat) hC
      have hDc := kb_Dsub hD ([0, 1, 2, 3, 4, 5, 6, 7, 8] : List Nat) hC (by simp [kb_nd])
      refine kb_call0 (va_runV (As := [.int (0 : Int32)]) (rest := []) C0 (kcX5_put l D cB cI cL cBB cII cSh h_this a_this _ (0 : Int32) this_taped this_code this_kind this_rate this_filledp70 this_totalp70 this_bitAt this_k this_e1 this_du this_dv f_this_cubes f_this_turns f_this_round f_this_statep70 f_this_otherp70 f_this_columnp70 f_this_wordsp70 f_this_blockp70 (w_14, w_15, f_16, f_17, f_18, f_19, f_20) hu_21) (cwV 1 hts (kb_gV km_641 km_643 kp_22 km_6 km_644) rfl rfl rfl (by decide +kernel) ⟨Nat.le_of_ble_eq_true rfl, Nat.le_of_ble_eq_true rfl⟩) ⟨kb_P_bl, va_recv hK hP (ci := 5) (q0 := 0) rfl rfl, (fun U hU hW => ⟨rfl, by rw [hU], by rw [hU]; exact hPc, va_K.moved hW.alike hK, kb_N_to hW hN, hDc.weaken (fun _ _ _ _ => trivial)⟩)⟩ rfl rfl hl.1 rfl (lv_room (Nat.le_of_ble_eq_true rfl)) kdX5_finish_91 ⟨hcR, hsR⟩) hP hD hS hA ([0, 1, 2, 3, 4, 5, 6, 7, 8] : List Nat) hC rfl (fun H locs hP hD hS => ?_)
      have hP : va_P D kCl (kWX5_finish cB cI cL cBB cII cSh h_this a_this this_taped this_code this_kind this_rate w_14 w_15 this_bitAt this_k this_e1 this_du this_dv f_this_cubes f_this_turns f_this_round f_16 f_17 f_18 f_19 f_20) H := hP
      have hD : va_D A (kWX5_finish cB cI cL cBB cII cSh h_this a_this this_taped this_code this_kind this_rate w_14 w_15 this_bitAt this_k this_e1 this_du this_dv f_this_cubes f_this_turns f_this_round f_16 f_17 f_18 f_19 f_20) := hD
      refine lv_goto (tgt := 70) hx hb kdX5_finish_94 (by decide) ?_
      obtain rfl := Option.some.inj h
      exact ih w_14 w_15 f_20 f_18 f_17 f_16 f_19 r ho _ _ _ hP hD hS (lv_sub hl [0, 1] rfl) hk0
set_option maxHeartbeats 4000000 in
set_option maxRecDepth 100000 in
theorem klX5_finish_107 {p : Program} {l : Launch} {e : Env} {s : State} {m : MethodId} {args : Array Value} {below : List Frame} {meth : Method} {c : Code} {cells slots : Nat} {Q : State → Prop} {D : va_G} {cB cI cL cBB cII cSh : ClassId} {A : Nat → Prop} (C0 : CallFix p m c prog_8_method_35_code 4 s args kwA kRX5) (hlocks : meth.locks = false) (hK : va_K D kCl (kb_T cB cI cL cBB cII cSh) s) (hN : kb_N s) (hA : ∀ q, s.heap.size ≤ q → A q) (hcR : cells ≤ krX5_finish.cells) (hsR : slots ≤ krX5_finish.slots) (h_this : Nat) (a_this : Nat → Nat) (x1_4 : Int64) (this_taped : Int32) (this_code : Int32) (this_kind : Int32) (this_rate : Int32) (this_bitAt : Int32) (this_k : Int32) (this_e1 : Int32) (this_du : Int32) (this_dv : Int32) (f_this_cubes : Nat → Int64) (f_this_turns : Nat → Int32) (f_this_round : Nat → Int64) :
    ∀ (fuel : Nat) (x3p107 : Int32) (this_filledp107 : Int32) (this_totalp107 : Int64) (f_this_blockp107 : Nat → Int32) (f_this_columnp107 : Nat → Int64) (f_this_otherp107 : Nat → Int64) (f_this_statep107 : Nat → Int64) (f_this_wordsp107 : Nat → Int64) (r : Int32 × Int32 × Int64 × (Nat → Int32) × (Nat → Int64) × (Nat → Int64) × (Nat → Int64) × (Nat → Int64)), kb_w (fun u : Int32 × Int32 × Int64 × (Nat → Int32) × (Nat → Int64) × (Nat → Int64) × (Nat → Int64) × (Nat → Int64) => kSX5_finish_107 x1_4 this_kind this_rate f_this_cubes f_this_turns f_this_round u.1 u.2.1 u.2.2.1 u.2.2.2.1 u.2.2.2.2.1 u.2.2.2.2.2.1 u.2.2.2.2.2.2.1 u.2.2.2.2.2.2.2) fuel (x3p107, this_filledp107, this_totalp107, f_this_blockp107, f_this_columnp107, f_this_otherp107, f_this_statep107, f_this_wordsp107) = some r → ∀ (H : Heap) (locs : List Loc) (ls : Array Slot), va_P D kCl (kWX5_finish cB cI cL cBB cII cSh h_this a_this this_taped this_code this_kind this_rate this_filledp107 this_totalp107 this_bitAt this_k this_e1 this_du this_dv f_this_cubes f_this_turns f_this_round f_this_statep107 f_this_otherp107 f_this_columnp107 f_this_wordsp107 f_this_blockp107) H → va_D A (kWX5_finish cB cI cL cBB cII cSh h_this a_this this_taped this_code this_kind this_rate this_filledp107 this_totalp107 this_bitAt this_k this_e1 this_du this_dv f_this_cubes f_this_turns f_this_round f_this_statep107 f_this_otherp107 f_this_columnp107 f_this_wordsp107 f_this_blockp107) → va_S A s.heap H locs → lv_has ls 4 [(0, .ref h_this), (1, .long x1_4), (3, .int x3p107)] → (∀ (x3p107' : Int32) (this_filledp107' : Int32) (this_totalp107' : Int64) (f_this_blockp107' : Nat → Int32) (f_this_columnp107' : Nat → Int64) (f_this_otherp107' : Nat → Int64) (f_this_statep107' : Nat → Int64) (f_this_wordsp107' : Nat → Int64), r = (x3p107', this_filledp107', this_totalp107', f_this_blockp107', f_this_columnp107', f_this_otherp107', f_this_statep107', f_this_wordsp107') → ∀ (H : Heap) (locs : List Loc) (ls : Array Slot), va_P D kCl (kWX5_finish cB cI cL cBB cII cSh h_this a_this this_taped this_code this_kind this_rate this_filledp107' this_totalp107' this_bitAt this_k this_e1 this_du this_dv f_this_cubes f_this_turns f_this_round f_this_statep107' f_this_otherp107' f_this_columnp107' f_this_wordsp107' f_this_blockp107') H → va_D A (kWX5_finish cB cI cL cBB cII cSh h_this a_this this_taped this_code this_kind this_rate this_filledp107' this_totalp107' this_bitAt this_k this_e1 this_du this_dv f_this_cubes f_this_turns f_this_round f_this_statep107' f_this_otherp107' f_this_columnp107' f_this_wordsp107' f_this_blockp107') → va_S A s.heap H locs → lv_has ls 4 [(0, .ref h_this), (1, .long x1_4), (3, .int x3p107')] → W p l e krX5_finish s m args below meth c H locs cells slots Q (F0 m 138 ls [])) → W p l e krX5_finish s m args below meth c H locs cells slots Q (F0 m 107 ls []) := by
  obtain ⟨hx, hb, hml, hown, hts⟩ := id C0
  intro fuel
  induction fuel with
  | zero =>
    intro x3p107 this_filledp107 this_totalp107 f_this_blockp107 f_this_columnp107 f_this_otherp107 f_this_statep107 f_this_wordsp107 r h
    exact absurd h (kb_w_z _ _ _)
  | succ fuel ih =>
    intro x3p107 this_filledp107 this_totalp107 f_this_blockp107 f_this_columnp107 f_this_otherp107 f_this_statep107 f_this_wordsp107 r h H locs ls hP hD hS hl hk0
    obtain ⟨o, h, ho⟩ := kb_w_s h
    have h : kSX5_finish_107 x1_4 this_kind this_rate f_this_cubes f_this_turns f_this_round x3p107 this_filledp107 this_totalp107 f_this_blockp107 f_this_columnp107 f_this_otherp107 f_this_statep107 f_this_wordsp107 = some o := h
    unfold kSX5_finish_107 at h
    refine lv_iload_n hx hb kdX5_finish_107 rfl (lv_at hl 2 rfl) ?_
    refine lv_if_lt (tgt := 138) hx hb kdX5_finish_108 (by decide) (fun c_30 => ?_) (fun c_30 => ?_)
    · have h := kb_b_t c_30 h
      obtain rfl := Option.some.inj h
      exact hk0 x3p107 this_filledp107 this_totalp107 f_this_blockp107 f_this_columnp107 f_this_otherp107 f_this_statep107 f_this_wordsp107 ho.symm _ _ _ hP hD hS (lv_sub hl [0, 1, 2] rfl)
    · have h := kb_b_f c_30 h
      refine lv_aload_n hx hb kdX5_finish_111 rfl (lv_at hl 0 rfl) ?_
      refine lv_iload_n hx hb kdX5_finish_112 rfl (lv_at hl 2 rfl) ?_
      refine lv_bipush (v := 8) hx hb kdX5_finish_113 (by decide) ?_
      refine lv_icmp_ge (tgt := 128) hx hb kdX5_finish_115 (by decide) (fun c_31 => ?_) (fun c_31 => ?_)
      · have h := kb_b_t c_31 h
        refine lv_iconst (v := 0) hx hb kdX5_finish_128 (by decide) ?_
        obtain ⟨u_39, hu_39, h⟩ := kb_o_s h
        obtain ⟨w_32, w_33, f_34, f_35, f_36, f_37, f_38⟩ := u_39
        have hC := (show ([0, 1, 2, 3, 4, 5, 6, 7, 8] : List Nat).map (fun i : Nat => (kWX5_finish cB cI cL cBB cII cSh h_this a_this this_taped this_code this_kind this_rate this_filledp107 this_totalp107 this_bitAt this_k this_e1 this_du this_dv f_this_cubes f_this_turns f_this_round f_this_statep107 f_this_otherp107 f_this_columnp107 f_this_wordsp107 f_this_blockp107)[i]?) = List.map some (kWX5_put cB cI cL cBB cII cSh h_this a_this this_taped this_code this_kind this_rate this_filledp107 this_totalp107 this_bitAt this_k this_e1 this_du this_dv f_this_cubes f_this_turns f_this_round f_this_statep107 f_this_otherp107 f_this_columnp107 f_this_wordsp107 f_this_blockp107) from rfl)
        have hPc := kb_Psub hP ([0, 1, 2, 3, 4, 5, 6, 7, 8] : List Nat) hC
        have hDc := kb_Dsub hD ([0, 1, 2, 3, 4, 5, 6, 7, 8] : List Nat) hC (by simp [kb_nd])
        refine kb_call0 (va_runV (As := [.int (0 : Int32)]) (rest := []) C0 (kcX5_put l D cB cI cL cBB cII cSh h_this a_this _ (0 : Int32) this_taped this_code this_kind this_rate this_filledp107 this_totalp107 this_bitAt this_k this_e1 this_du this_dv f_this_cubes f_this_turns f_this_round f_this_statep107 f_this_otherp107 f_this_columnp107 f_this_wordsp107 f_this_blockp107 (w_32, w_33, f_34, f_35, f_36, f_37, f_38) hu_39) (cwV 1 hts (kb_gV km_641 km_643 kp_22 km_6 km_644) rfl rfl rfl (by decide +kernel) ⟨Nat.le_of_ble_eq_true rfl, Nat.le_of_ble_eq_true rfl⟩) ⟨kb_P_bl, va_recv hK hP (ci := 5) (q0 := 0) rfl rfl, (fun U hU hW => ⟨rfl, by rw [hU], by rw [hU]; exact hPc, va_K.moved hW.alike hK, kb_N_to hW hN, hDc.weaken (fun _ _ _ _ => trivial)⟩)⟩ rfl rfl hl.1 rfl (lv_room (Nat.le_of_ble_eq_true rfl)) kdX5_finish_129 ⟨hcR, hsR⟩) hP hD hS hA ([0, 1, 2, 3, 4, 5, 6, 7, 8] : List Nat) hC rfl (fun H locs hP hD hS => ?_)
        have hP : va_P D kCl (kWX5_finish cB cI cL cBB cII cSh h_this a_this this_taped this_code this_kind this_rate w_32 w_33 this_bitAt this_k this_e1 this_du this_dv f_this_cubes f_this_turns f_this_round f_34 f_35 f_36 f_37 f_38) H := hP
        have hD : va_D A (kWX5_finish cB cI cL cBB cII cSh h_this a_this this_taped this_code this_kind this_rate w_32 w_33 this_bitAt this_k this_e1 this_du this_dv f_this_cubes f_this_turns f_this_round f_34 f_35 f_36 f_37 f_38) := hD
        obtain ⟨x3_40, ex3_40⟩ : ∃ y : Int32, y = x3p107 + Int32.ofInt (-1) := ⟨_, rfl⟩
        have h := kb_n_s ex3_40 h
        refine lv_iinc (v := x3_40) (lv' := [(3, .int x3_40), (0, .ref h_this), (1, .long x1_4)]) hx hb kdX5_finish_132 hl (k := 2) rfl ex3_40.symm (by decide) rfl (fun ls hl => ?_)
        refine lv_goto (tgt := 107) hx hb kdX5_finish_135 (by decide) ?_
        obtain rfl := Option.some.inj h
        exact ih x3_40 w_32 w_33 f_38 f_36 f_35 f_34 f_37 r ho _ _ _ hP hD hS (lv_sub hl [1, 2, 0] rfl) hk0
      · have h := kb_b_f c_31 h
        refine lv_lload_n hx hb kdX5_finish_118 rfl (lv_at hl 1 rfl) ?_
        refine lv_bipush (v := 8) hx hb kdX5_finish_119 (by decide) ?_
        refine lv_iload_n hx hb kdX5_finish_121 rfl (lv_at hl 2 rfl) ?_
        refine lv_imul hx hb kdX5_finish_122 ?_
        refine lv_lushr (v := ((x1_4.toUInt64 >>> (((8 : Int32) * x3p107).toInt64.toUInt64 &&& Int64.toUInt64 63)).toInt64)) hx hb kdX5_finish_123 rfl ?_
        refine lv_l2i (v := (((x1_4.toUInt64 >>> (((8 : Int32) * x3p107).toInt64.toUInt64 &&& Int64.toUInt64 63)).toInt64).toInt32)) hx hb kdX5_finish_124 rfl ?_
        refine lv_goto (tgt := 129) hx hb kdX5_finish_125 (by decide) ?_
        obtain ⟨u_48, hu_48, h⟩ := kb_o_s h
        obtain ⟨w_41, w_42, f_43, f_44, f_45, f_46, f_47⟩ := u_48
        have hC := (show ([0, 1, 2, 3, 4, 5, 6, 7, 8] : List Nat).map (fun i : Nat => (kWX5_finish cB cI cL cBB cII cSh h_this a_this this_taped this_code this_kind this_rate this_filledp107 this_totalp107 this_bitAt this_k this_e1 this_du this_dv f_this_cubes f_this_turns f_this_round f_this_statep107 f_this_otherp107 f_this_columnp107 f_this_wordsp107 f_this_blockp107)[i]?) = List.map some (kWX5_put cB cI cL cBB cII cSh h_this a_this this_taped this_code this_kind this_rate this_filledp107 this_totalp107 this_bitAt this_k this_e1 this_du this_dv f_this_cubes f_this_turns f_this_round f_this_statep107 f_this_otherp107 f_this_columnp107 f_this_wordsp107 f_this_blockp107) from rfl)
        have hPc := kb_Psub hP ([0, 1, 2, 3, 4, 5, 6, 7, 8] : List Nat) hC
        have hDc := kb_Dsub hD ([0, 1, 2, 3, 4, 5, 6, 7, 8] : List Nat) hC (by simp [kb_nd])
        refine kb_call0 (va_runV (As := [.int (((x1_4.toUInt64 >>> (((8 : Int32) * x3p107).toInt64.toUInt64 &&& Int64.toUInt64 63)).toInt64).toInt32)]) (rest := []) C0 (kcX5_put l D cB cI cL cBB cII cSh h_this a_this _ (((x1_4.toUInt64 >>> (((8 : Int32) * x3p107).toInt64.toUInt64 &&& Int64.toUInt64 63)).toInt64).toInt32) this_taped this_code this_kind this_rate this_filledp107 this_totalp107 this_bitAt this_k this_e1 this_du this_dv f_this_cubes f_this_turns f_this_round f_this_statep107 f_this_otherp107 f_this_columnp107 f_this_wordsp107 f_this_blockp107 (w_41, w_42, f_43, f_44, f_45, f_46, f_47) hu_48) (cwV 1 hts (kb_gV km_641 km_643 kp_22 km_6 km_644) rfl rfl rfl (by decide +kernel) ⟨Nat.le_of_ble_eq_true rfl, Nat.le_of_ble_eq_true rfl⟩) ⟨kb_P_bl, va_recv hK hP (ci := 5) (q0 := 0) rfl rfl, (fun U hU hW => ⟨rfl, by rw [hU], by rw [hU]; exact hPc, va_K.moved hW.alike hK, kb_N_to hW hN, hDc.weaken (fun _ _ _ _ => trivial)⟩)⟩ rfl rfl hl.1 rfl (lv_room (Nat.le_of_ble_eq_true rfl)) kdX5_finish_129 ⟨hcR, hsR⟩) hP hD hS hA ([0, 1, 2, 3, 4, 5, 6, 7, 8] : List Nat) hC rfl (fun H locs hP hD hS => ?_)
        have hP : va_P D kCl (kWX5_finish cB cI cL cBB cII cSh h_this a_this this_taped this_code this_kind this_rate w_41 w_42 this_bitAt this_k this_e1 this_du this_dv f_this_cubes f_this_turns f_this_round f_43 f_44 f_45 f_46 f_47) H := hP
        have hD : va_D A (kWX5_finish cB cI cL cBB cII cSh h_this a_this this_taped this_code this_kind this_rate w_41 w_42 this_bitAt this_k this_e1 this_du this_dv f_this_cubes f_this_turns f_this_round f_43 f_44 f_45 f_46 f_47) := hD
        obtain ⟨x3_49, ex3_49⟩ : ∃ y : Int32, y = x3p107 + Int32.ofInt (-1) := ⟨_, rfl⟩
        have h := kb_n_s ex3_49 h
        refine lv_iinc (v := x3_49) (lv' := [(3, .int x3_49), (0, .ref h_this), (1, .long x1_4)]) hx hb kdX5_finish_132 hl (k := 2) rfl ex3_49.symm (by decide) rfl (fun ls hl => ?_)
        refine lv_goto (tgt := 107) hx hb kdX5_finish_135 (by decide) ?_
        obtain rfl := Option.some.inj h
        exact ih x3_49 w_41 w_42 f_47 f_45 f_44 f_43 f_46 r ho _ _ _ hP hD hS (lv_sub hl [1, 2, 0] rfl) hk0
set_option maxHeartbeats 4000000 in
set_option maxRecDepth 100000 in
theorem kcX5_finish (l : Launch) (D : va_G) (cB cI cL cBB cII cSh : ClassId) (h_this : Nat) (a_this : Nat → Nat) (sz : Nat) (this_taped : Int32) (this_code : Int32) (this_kind : Int32) (this_rate : Int32) (this_filled : Int32) (this_total : Int64) (this_bitAt : Int32) (this_k : Int32) (this_e1 : Int32) (this_du : Int32) (this_dv : Int32) (f_this_cubes : Nat → Int64) (f_this_turns : Nat → Int32) (f_this_round : Nat → Int64) (f_this_state : Nat → Int64) (f_this_other : Nat → Int64) (f_this_column : Nat → Int64) (f_this_words : Nat → Int64) (f_this_block : Nat → Int32) (out : Int32 × Int64 × (Nat → Int64) × (Nat → Int64) × (Nat → Int64) × (Nat → Int64) × (Nat → Int32)) (h : kFX5_finish this_kind this_rate this_filled this_total f_this_cubes f_this_turns f_this_round f_this_state f_this_other f_this_column f_this_words f_this_block = some out) : Met l kyX5_finish kwX5_finish krX5_finish (kb_P D kCl (kb_T cB cI cL cBB cII cSh) [.ref h_this] (kWX5_finish cB cI cL cBB cII cSh h_this a_this this_taped this_code this_kind this_rate this_filled this_total this_bitAt this_k this_e1 this_du this_dv f_this_cubes f_this_turns f_this_round f_this_state f_this_other f_this_column f_this_words f_this_block) sz) (kb_Q D kCl (kb_T cB cI cL cBB cII cSh) (va_A (kWX5_finish cB cI cL cBB cII cSh h_this a_this this_taped this_code this_kind this_rate this_filled this_total this_bitAt this_k this_e1 this_du this_dv f_this_cubes f_this_turns f_this_round f_this_state f_this_other f_this_column f_this_words f_this_block) sz) none (kWX5_finish cB cI cL cBB cII cSh h_this a_this this_taped this_code this_kind this_rate out.1 out.2.1 this_bitAt this_k this_e1 this_du this_dv f_this_cubes f_this_turns f_this_round out.2.2.1 out.2.2.2.1 out.2.2.2.2.1 out.2.2.2.2.2.1 out.2.2.2.2.2.2)) 0 0 (va_A (kWX5_finish cB cI cL cBB cII cSh h_this a_this this_taped this_code this_kind this_rate this_filled this_total this_bitAt this_k this_e1 this_du this_dv f_this_cubes f_this_turns f_this_round f_this_state f_this_other f_this_column f_this_words f_this_block) sz) := by
  refine Met.ofW (cc := prog_8_method_35_code) (maxL := 4) (ret := none) (by decide) rfl ?_
  intro p e s m args below meth c s₁ B hml hv
  obtain ⟨rfl, hsz, hP, hK, hN, hD0⟩ := hv
  have hx := B.exec
  have hb := B.bytes
  have hr := B.returns
  have hts0 := atoms_spec (ws := kwX5_finish) B.pre
  have hts : ∀ w ∈ kwA, w.before _ s = true := fun w h => hts0 w (List.mem_cons_of_mem _ h)
  have hown : s.vm.findClass kRX5 = some m.cls := findClass_of_methodNamed B.named
  have hlocks := B.notSynchronized
  subst hsz
  have hD := hD0.self (sz := s.heap.size)
  generalize hAe : va_A (kWX5_finish cB cI cL cBB cII cSh h_this a_this this_taped this_code this_kind this_rate this_filled this_total this_bitAt this_k this_e1 this_du this_dv f_this_cubes f_this_turns f_this_round f_this_state f_this_other f_this_column f_this_words f_this_block) s.heap.size = A at hD ⊢
  have hA : ∀ q : Nat, s.heap.size ≤ q → A q := fun q h => by rw [← hAe]; exact Or.inr h
  have hS : va_S A s.heap s.heap [] := va_S.rf
  have C0 : CallFix p m c prog_8_method_35_code 4 s _ kwA kRX5 := ⟨hx, hb, hml, hown, hts⟩
  have hl := lv_entry ([.ref h_this]) (n := 4) (Nat.le_of_ble_eq_true rfl)
  rw [lg_entry_eq]
  generalize (lg_sl ([.ref h_this]) ++ List.replicate (4 - (lg_sl ([.ref h_this])).length) Slot.unset).toArray = ls at hl ⊢
  have hl : lv_has ls 4 [(0, .ref h_this)] := hl
  unfold kFX5_finish at h
  refine lv_aload_n hx hb kdX5_finish_0 rfl (lv_at hl 0 rfl) ?_
  obtain ⟨u_2, hu_2, h⟩ := kb_o_s h
  obtain ⟨r_1, rfl⟩ : ∃ z, z = u_2 := ⟨_, rfl⟩
  have hC := (show ([0] : List Nat).map (fun i : Nat => (kWX5_finish cB cI cL cBB cII cSh h_this a_this this_taped this_code this_kind this_rate this_filled this_total this_bitAt this_k this_e1 this_du this_dv f_this_cubes f_this_turns f_this_round f_this_state f_this_other f_this_column f_this_words f_this_block)[i]?) = List.map some (kWX5_sponge cB cI cL cBB cII cSh h_this a_this this_taped this_code this_kind this_rate this_filled this_total this_bitAt this_k this_e1 this_du this_dv) from rfl)
  have hPc := kb_Psub hP ([0] : List Nat) hC
  have hDc := kb_Dsub hD ([0] : List Nat) hC (by simp [kb_nd])
  refine kb_call0 (va_runV (As := []) (rest := []) C0 (kcX5_sponge l D cB cI cL cBB cII cSh h_this a_this _ this_taped this_code this_kind this_rate this_filled this_total this_bitAt this_k this_e1 this_du this_dv r_1 hu_2) (cwV 0 hts (kb_gV km_645 km_647 kp_3 km_6 km_648) rfl rfl rfl (by decide +kernel) ⟨Nat.le_of_ble_eq_true rfl, Nat.le_of_ble_eq_true rfl⟩) ⟨kb_P_bl, va_recv hK hP (ci := 5) (q0 := 0) rfl rfl, (fun U hU hW => ⟨rfl, by rw [hU], by rw [hU]; exact hPc, va_K.moved hW.alike hK, kb_N_to hW hN, hDc.weaken (fun _ _ _ _ => trivial)⟩)⟩ rfl rfl hl.1 rfl (lv_room (Nat.le_of_ble_eq_true rfl)) kdX5_finish_1 ⟨Nat.le_of_ble_eq_true rfl, Nat.le_of_ble_eq_true rfl⟩) hP hD hS hA ([0] : List Nat) hC rfl (fun H locs hP hD hS => ?_)
  have hP : va_P D kCl (kWX5_finish cB cI cL cBB cII cSh h_this a_this this_taped this_code this_kind this_rate this_filled this_total this_bitAt this_k this_e1 this_du this_dv f_this_cubes f_this_turns f_this_round f_this_state f_this_other f_this_column f_this_words f_this_block) H := hP
  have hD : va_D A (kWX5_finish cB cI cL cBB cII cSh h_this a_this this_taped this_code this_kind this_rate this_filled this_total this_bitAt this_k this_e1 this_du this_dv f_this_cubes f_this_turns f_this_round f_this_state f_this_other f_this_column f_this_words f_this_block) := hD
  refine lv_if_eq (tgt := 54) hx hb kdX5_finish_4 (by decide) (fun c_3 => ?_) (fun c_3 => ?_)
  · have h := kb_b_t c_3 h
    refine lv_ldc2 (v := 8) hx hb hown (hts _ km_680) kdX5_finish_54 ?_
    refine lv_aload_n hx hb kdX5_finish_57 rfl (lv_at hl 0 rfl) ?_
    refine va_get (ci := 5) (v := .long this_total) (C := kRX5) (T := kTX5) (N := 35) hx hb hts kinX5 hown hK hP 0 rfl rfl 21 (by decide) (hts _ km_702) (fun _ h9 => h9) rfl kdX5_finish_58 ?_
    refine lv_lmul hx hb kdX5_finish_61 ?_
    refine lv_topl (fun x1_4 ex1_4 => ?_)
    have h := kb_n_s ex1_4 h
    refine lv_lstore_n (lv' := [(1, .long x1_4), (0, .ref h_this)]) hx hb kdX5_finish_62 rfl hl (by decide) rfl (fun ls hl => ?_)
    refine lv_aload_n hx hb kdX5_finish_63 rfl (lv_at hl 1 rfl) ?_
    refine lv_sipush (v := 128) hx hb kdX5_finish_64 (by decide) ?_
    obtain ⟨u_12, hu_12, h⟩ := kb_o_s h
    obtain ⟨w_5, w_6, f_7, f_8, f_9, f_10, f_11⟩ := u_12
    have hC := (show ([0, 1, 2, 3, 4, 5, 6, 7, 8] : List Nat).map (fun i : Nat => (kWX5_finish cB cI cL cBB cII cSh h_this a_this this_taped this_code this_kind this_rate this_filled this_total this_bitAt this_k this_e1 this_du this_dv f_this_cubes f_this_turns f_this_round f_this_state f_this_other f_this_column f_this_words f_this_block)[i]?) = List.map some (kWX5_put cB cI cL cBB cII cSh h_this a_this this_taped this_code this_kind this_rate this_filled this_total this_bitAt this_k this_e1 this_du this_dv f_this_cubes f_this_turns f_this_round f_this_state f_this_other f_this_column f_this_words f_this_block) from rfl)
    have hPc := kb_Psub hP ([0, 1, 2, 3, 4, 5, 6, 7, 8] : List Nat) hC
    have hDc := kb_Dsub hD ([0, 1, 2, 3, 4, 5, 6, 7, 8] : List Nat) hC (by simp [kb_nd])
    refine kb_call0 (va_runV (As := [.int (128 : Int32)]) (rest := []) C0 (kcX5_put l D cB cI cL cBB cII cSh h_this a_this _ (128 : Int32) this_taped this_code this_kind this_rate this_filled this_total this_bitAt this_k this_e1 this_du this_dv f_this_cubes f_this_turns f_this_round f_this_state f_this_other f_this_column f_this_words f_this_block (w_5, w_6, f_7, f_8, f_9, f_10, f_11) hu_12) (cwV 1 hts (kb_gV km_641 km_643 kp_22 km_6 km_644) rfl rfl rfl (by decide +kernel) ⟨Nat.le_of_ble_eq_true rfl, Nat.le_of_ble_eq_true rfl⟩) ⟨kb_P_bl, va_recv hK hP (ci := 5) (q0 := 0) rfl rfl, (fun U hU hW => ⟨rfl, by rw [hU], by rw [hU]; exact hPc, va_K.moved hW.alike hK, kb_N_to hW hN, hDc.weaken (fun _ _ _ _ => trivial)⟩)⟩ rfl rfl hl.1 rfl (lv_room (Nat.le_of_ble_eq_true rfl)) kdX5_finish_67 ⟨Nat.le_of_ble_eq_true rfl, Nat.le_of_ble_eq_true rfl⟩) hP hD hS hA ([0, 1, 2, 3, 4, 5, 6, 7, 8] : List Nat) hC rfl (fun H locs hP hD hS => ?_)
    have hP : va_P D kCl (kWX5_finish cB cI cL cBB cII cSh h_this a_this this_taped this_code this_kind this_rate w_5 w_6 this_bitAt this_k this_e1 this_du this_dv f_this_cubes f_this_turns f_this_round f_7 f_8 f_9 f_10 f_11) H := hP
    have hD : va_D A (kWX5_finish cB cI cL cBB cII cSh h_this a_this this_taped this_code this_kind this_rate w_5 w_6 this_bitAt this_k this_e1 this_du this_dv f_this_cubes f_this_turns f_this_round f_7 f_8 f_9 f_10 f_11) := hD
    obtain ⟨r_59, hr_59, h⟩ := kb_o_s h
    refine klX5_finish_70 C0 hlocks hK hN hA (by decide) (by decide) h_this a_this x1_4 this_taped this_code this_kind this_rate this_bitAt this_k this_e1 this_du this_dv f_this_cubes f_this_turns f_this_round 100000 w_5 w_6 f_11 f_9 f_8 f_7 f_10 r_59 hr_59 _ _ _ hP hD hS (lv_sub hl [1, 0] rfl) (fun this_filledp70_22 this_totalp70_23 f_this_blockp70_24 f_this_columnp70_25 f_this_otherp70_26 f_this_statep70_27 f_this_wordsp70_28 er_59 H locs ls hP hD hS hl => ?_)
    subst er_59
    refine lv_aload_n hx hb kdX5_finish_97 rfl (lv_at hl 0 rfl) ?_
    refine va_get (ci := 5) (v := .int this_rate) (C := kRX5) (T := kTX5) (N := 35) hx hb hts kinX5 hown hK hP 0 rfl rfl 19 (by decide) (hts _ km_700) (fun _ h9 => h9) rfl kdX5_finish_98 ?_
    refine lv_bipush (v := 8) hx hb kdX5_finish_101 (by decide) ?_
    refine lv_idiv hx hb kdX5_finish_103 (by decide) ?_
    refine lv_iconst (v := 1) hx hb kdX5_finish_104 (by decide) ?_
    refine lv_isub hx hb kdX5_finish_105 ?_
    refine lv_topi (fun x3_29 ex3_29 => ?_)
    have h := kb_n_s ex3_29 h
    refine lv_istore_n (lv' := [(3, .int x3_29), (0, .ref h_this), (1, .long x1_4)]) hx hb kdX5_finish_106 rfl hl (by decide) rfl (fun ls hl => ?_)
    obtain ⟨r_58, hr_58, h⟩ := kb_o_s h
    refine klX5_finish_107 C0 hlocks hK hN hA (by decide) (by decide) h_this a_this x1_4 this_taped this_code this_kind this_rate this_bitAt this_k this_e1 this_du this_dv f_this_cubes f_this_turns f_this_round 100000 x3_29 this_filledp70_22 this_totalp70_23 f_this_blockp70_24 f_this_columnp70_25 f_this_otherp70_26 f_this_statep70_27 f_this_wordsp70_28 r_58 hr_58 _ _ _ hP hD hS (lv_sub hl [1, 2, 0] rfl) (fun x3p107_50 this_filledp107_51 this_totalp107_52 f_this_blockp107_53 f_this_columnp107_54 f_this_otherp107_55 f_this_statep107_56 f_this_wordsp107_57 er_58 H locs ls hP hD hS hl => ?_)
    subst er_58
    obtain rfl := Option.some.inj h
    exact W.vret hx hb hr (fun t ht hW => ⟨⟨rfl, by rw [ht]; exact hP, va_K.moved hW.alike hK, hD⟩, hS.F ht⟩) hS.2.2 kdX5_finish_138
  · have h := kb_b_f c_3 h
    refine lv_aload_n hx hb kdX5_finish_7 rfl (lv_at hl 0 rfl) ?_
    refine lv_aload_n hx hb kdX5_finish_8 rfl (lv_at hl 0 rfl) ?_
    refine va_get (ci := 5) (v := .int this_filled) (C := kRX5) (T := kTX5) (N := 35) hx hb hts kinX5 hown hK hP 0 rfl rfl 20 (by decide) (hts _ km_701) (fun _ h9 => h9) rfl kdX5_finish_9 ?_
    refine lv_aload_n hx hb kdX5_finish_12 rfl (lv_at hl 0 rfl) ?_
    refine va_get (ci := 5) (v := .int this_kind) (C := kRX5) (T := kTX5) (N := 35) hx hb hts kinX5 hown hK hP 0 rfl rfl 18 (by decide) (hts _ km_699) (fun _ h9 => h9) rfl kdX5_finish_13 ?_
    refine lv_bipush (v := 10) hx hb kdX5_finish_16 (by decide) ?_
    refine lv_icmp_le (tgt := 26) hx hb kdX5_finish_18 (by decide) (fun c_60 => ?_) (fun c_60 => ?_)
    · have h := kb_b_t c_60 h
      refine lv_bipush (v := 6) hx hb kdX5_finish_26 (by decide) ?_
      obtain ⟨u_62, hu_62, h⟩ := kb_o_s h
      obtain ⟨f_61, rfl⟩ : ∃ z, z = u_62 := ⟨_, rfl⟩
      have hC := (show ([0, 4] : List Nat).map (fun i : Nat => (kWX5_finish cB cI cL cBB cII cSh h_this a_this this_taped this_code this_kind this_rate this_filled this_total this_bitAt this_k this_e1 this_du this_dv f_this_cubes f_this_turns f_this_round f_this_state f_this_other f_this_column f_this_words f_this_block)[i]?) = List.map some (kWX5_flip cB cI cL cBB cII cSh h_this a_this this_taped this_code this_kind this_rate this_filled this_total this_bitAt this_k this_e1 this_du this_dv f_this_state) from rfl)
      have hPc := kb_Psub hP ([0, 4] : List Nat) hC
      have hDc := kb_Dsub hD ([0, 4] : List Nat) hC (by simp [kb_nd])
      refine kb_call0 (va_runV (As := [.int this_filled, .int (6 : Int32)]) (rest := []) C0 (kcX5_flip l D cB cI cL cBB cII cSh h_this a_this _ this_filled (6 : Int32) this_taped this_code this_kind this_rate this_filled this_total this_bitAt this_k this_e1 this_du this_dv f_this_state f_61 hu_62) (cwV 2 hts (kb_gV km_649 km_651 kp_21 km_6 km_652) rfl rfl rfl (by decide +kernel) ⟨Nat.le_of_ble_eq_true rfl, Nat.le_of_ble_eq_true rfl⟩) ⟨kb_P_bl, va_recv hK hP (ci := 5) (q0 := 0) rfl rfl, (fun U hU hW => ⟨rfl, by rw [hU], by rw [hU]; exact hPc, va_K.moved hW.alike hK, kb_N_to hW hN, hDc.weaken (fun _ _ _ _ => trivial)⟩)⟩ rfl rfl hl.1 rfl (lv_room (Nat.le_of_ble_eq_true rfl)) kdX5_finish_28 ⟨Nat.le_of_ble_eq_true rfl, Nat.le_of_ble_eq_true rfl⟩) hP hD hS hA ([0, 4] : List Nat) hC rfl (fun H locs hP hD hS => ?_)
      have hP : va_P D kCl (kWX5_finish cB cI cL cBB cII cSh h_this a_this this_taped this_code this_kind this_rate this_filled this_total this_bitAt this_k this_e1 this_du this_dv f_this_cubes f_this_turns f_this_round f_61 f_this_other f_this_column f_this_words f_this_block) H := hP
      have hD : va_D A (kWX5_finish cB cI cL cBB cII cSh h_this a_this this_taped this_code this_kind this_rate this_filled this_total this_bitAt this_k this_e1 this_du this_dv f_this_cubes f_this_turns f_this_round f_61 f_this_other f_this_column f_this_words f_this_block) := hD
      refine lv_aload_n hx hb kdX5_finish_31 rfl (lv_at hl 0 rfl) ?_
      refine lv_aload_n hx hb kdX5_finish_32 rfl (lv_at hl 0 rfl) ?_
      refine va_get (ci := 5) (v := .int this_rate) (C := kRX5) (T := kTX5) (N := 35) hx hb hts kinX5 hown hK hP 0 rfl rfl 19 (by decide) (hts _ km_700) (fun _ h9 => h9) rfl kdX5_finish_33 ?_
      refine lv_iconst (v := 1) hx hb kdX5_finish_36 (by decide) ?_
      refine lv_isub hx hb kdX5_finish_37 ?_
      refine lv_sipush (v := 128) hx hb kdX5_finish_38 (by decide) ?_
      obtain ⟨u_64, hu_64, h⟩ := kb_o_s h
      obtain ⟨f_63, rfl⟩ : ∃ z, z = u_64 := ⟨_, rfl⟩
      have hC := (show ([0, 4] : List Nat).map (fun i : Nat => (kWX5_finish cB cI cL cBB cII cSh h_this a_this this_taped this_code this_kind this_rate this_filled this_total this_bitAt this_k this_e1 this_du this_dv f_this_cubes f_this_turns f_this_round f_61 f_this_other f_this_column f_this_words f_this_block)[i]?) = List.map some (kWX5_flip cB cI cL cBB cII cSh h_this a_this this_taped this_code this_kind this_rate this_filled this_total this_bitAt this_k this_e1 this_du this_dv f_61) from rfl)
      have hPc := kb_Psub hP ([0, 4] : List Nat) hC
      have hDc := kb_Dsub hD ([0, 4] : List Nat) hC (by simp [kb_nd])
      refine kb_call0 (va_runV (As := [.int (this_rate - (1 : Int32)), .int (128 : Int32)]) (rest := []) C0 (kcX5_flip l D cB cI cL cBB cII cSh h_this a_this _ (this_rate - (1 : Int32)) (128 : Int32) this_taped this_code this_kind this_rate this_filled this_total this_bitAt this_k this_e1 this_du this_dv f_61 f_63 hu_64) (cwV 2 hts (kb_gV km_649 km_651 kp_21 km_6 km_652) rfl rfl rfl (by decide +kernel) ⟨Nat.le_of_ble_eq_true rfl, Nat.le_of_ble_eq_true rfl⟩) ⟨kb_P_bl, va_recv hK hP (ci := 5) (q0 := 0) rfl rfl, (fun U hU hW => ⟨rfl, by rw [hU], by rw [hU]; exact hPc, va_K.moved hW.alike hK, kb_N_to hW hN, hDc.weaken (fun _ _ _ _ => trivial)⟩)⟩ rfl rfl hl.1 rfl (lv_room (Nat.le_of_ble_eq_true rfl)) kdX5_finish_41 ⟨Nat.le_of_ble_eq_true rfl, Nat.le_of_ble_eq_true rfl⟩) hP hD hS hA ([0, 4] : List Nat) hC rfl (fun H locs hP hD hS => ?_)
      have hP : va_P D kCl (kWX5_finish cB cI cL cBB cII cSh h_this a_this this_taped this_code this_kind this_rate this_filled this_total this_bitAt this_k this_e1 this_du this_dv f_this_cubes f_this_turns f_this_round f_63 f_this_other f_this_column f_this_words f_this_block) H := hP
      have hD : va_D A (kWX5_finish cB cI cL cBB cII cSh h_this a_this this_taped this_code this_kind this_rate this_filled this_total this_bitAt this_k this_e1 this_du this_dv f_this_cubes f_this_turns f_this_round f_63 f_this_other f_this_column f_this_words f_this_block) := hD
      refine lv_aload_n hx hb kdX5_finish_44 rfl (lv_at hl 0 rfl) ?_
      obtain ⟨u_68, hu_68, h⟩ := kb_o_s h
      obtain ⟨f_65, f_66, f_67⟩ := u_68
      have hC := (show ([0, 2, 3, 4, 5, 6] : List Nat).map (fun i : Nat => (kWX5_finish cB cI cL cBB cII cSh h_this a_this this_taped this_code this_kind this_rate this_filled this_total this_bitAt this_k this_e1 this_du this_dv f_this_cubes f_this_turns f_this_round f_63 f_this_other f_this_column f_this_words f_this_block)[i]?) = List.map some (kWX5_permute cB cI cL cBB cII cSh h_this a_this this_taped this_code this_kind this_rate this_filled this_total this_bitAt this_k this_e1 this_du this_dv f_this_turns f_this_round f_63 f_this_other f_this_column) from rfl)
      have hPc := kb_Psub hP ([0, 2, 3, 4, 5, 6] : List Nat) hC
      have hDc := kb_Dsub hD ([0, 2, 3, 4, 5, 6] : List Nat) hC (by simp [kb_nd])
      refine kb_call0 (va_runV (As := []) (rest := []) C0 (kcX5_permute l D cB cI cL cBB cII cSh h_this a_this _ this_taped this_code this_kind this_rate this_filled this_total this_bitAt this_k this_e1 this_du this_dv f_this_turns f_this_round f_63 f_this_other f_this_column (f_65, f_66, f_67) hu_68) (cwV 0 hts (kb_gV km_654 km_656 kp_18 km_6 km_657) rfl rfl rfl (by decide +kernel) ⟨Nat.le_of_ble_eq_true rfl, Nat.le_of_ble_eq_true rfl⟩) ⟨kb_P_bl, va_recv hK hP (ci := 5) (q0 := 0) rfl rfl, (fun U hU hW => ⟨rfl, by rw [hU], by rw [hU]; exact hPc, va_K.moved hW.alike hK, kb_N_to hW hN, hDc.weaken (fun _ _ _ _ => trivial)⟩)⟩ rfl rfl hl.1 rfl (lv_room (Nat.le_of_ble_eq_true rfl)) kdX5_finish_45 ⟨Nat.le_of_ble_eq_true rfl, Nat.le_of_ble_eq_true rfl⟩) hP hD hS hA ([0, 2, 3, 4, 5, 6] : List Nat) hC rfl (fun H locs hP hD hS => ?_)
      have hP : va_P D kCl (kWX5_finish cB cI cL cBB cII cSh h_this a_this this_taped this_code this_kind this_rate this_filled this_total this_bitAt this_k this_e1 this_du this_dv f_this_cubes f_this_turns f_this_round f_65 f_66 f_67 f_this_words f_this_block) H := hP
      have hD : va_D A (kWX5_finish cB cI cL cBB cII cSh h_this a_this this_taped this_code this_kind this_rate this_filled this_total this_bitAt this_k this_e1 this_du this_dv f_this_cubes f_this_turns f_this_round f_65 f_66 f_67 f_this_words f_this_block) := hD
      refine lv_aload_n hx hb kdX5_finish_48 rfl (lv_at hl 0 rfl) ?_
      refine lv_iconst (v := 0) hx hb kdX5_finish_49 (by decide) ?_
      refine va_put (ci := 5) (v := .int (0 : Int32)) (C := kRX5) (T := kTX5) (N := 35) hx hb hts kinX5 ktyX5 ktyX5_ok knX5 hown hK hP hD hS 0 rfl rfl 20 (by decide) (hts _ km_701) (fun _ h9 => h9) rfl (ktyX5_ok 20 (by decide)) rfl rfl (Nat.le_of_ble_eq_true rfl) kdX5_finish_50 (fun H locs hP hD hS => ?_)
      have hP : va_P D kCl (kWX5_finish cB cI cL cBB cII cSh h_this a_this this_taped this_code this_kind this_rate (0 : Int32) this_total this_bitAt this_k this_e1 this_du this_dv f_this_cubes f_this_turns f_this_round f_65 f_66 f_67 f_this_words f_this_block) H := hP
      have hD : va_D A (kWX5_finish cB cI cL cBB cII cSh h_this a_this this_taped this_code this_kind this_rate (0 : Int32) this_total this_bitAt this_k this_e1 this_du this_dv f_this_cubes f_this_turns f_this_round f_65 f_66 f_67 f_this_words f_this_block) := hD
      obtain rfl := Option.some.inj h
      exact W.vret hx hb hr (fun t ht hW => ⟨⟨rfl, by rw [ht]; exact hP, va_K.moved hW.alike hK, hD⟩, hS.F ht⟩) hS.2.2 kdX5_finish_53
    · have h := kb_b_f c_60 h
      refine lv_bipush (v := 31) hx hb kdX5_finish_21 (by decide) ?_
      refine lv_goto (tgt := 28) hx hb kdX5_finish_23 (by decide) ?_
      obtain ⟨u_70, hu_70, h⟩ := kb_o_s h
      obtain ⟨f_69, rfl⟩ : ∃ z, z = u_70 := ⟨_, rfl⟩
      have hC := (show ([0, 4] : List Nat).map (fun i : Nat => (kWX5_finish cB cI cL cBB cII cSh h_this a_this this_taped this_code this_kind this_rate this_filled this_total this_bitAt this_k this_e1 this_du this_dv f_this_cubes f_this_turns f_this_round f_this_state f_this_other f_this_column f_this_words f_this_block)[i]?) = List.map some (kWX5_flip cB cI cL cBB cII cSh h_this a_this this_taped this_code this_kind this_rate this_filled this_total this_bitAt this_k this_e1 this_du this_dv f_this_state) from rfl)
      have hPc := kb_Psub hP ([0, 4] : List Nat) hC
      have hDc := kb_Dsub hD ([0, 4] : List Nat) hC (by simp [kb_nd])
      refine kb_call0 (va_runV (As := [.int this_filled, .int (31 : Int32)]) (rest := []) C0 (kcX5_flip l D cB cI cL cBB cII cSh h_this a_this _ this_filled (31 : Int32) this_taped this_code this_kind this_rate this_filled this_total this_bitAt this_k this_e1 this_du this_dv f_this_state f_69 hu_70) (cwV 2 hts (kb_gV km_649 km_651 kp_21 km_6 km_652) rfl rfl rfl (by decide +kernel) ⟨Nat.le_of_ble_eq_true rfl, Nat.le_of_ble_eq_true rfl⟩) ⟨kb_P_bl, va_recv hK hP (ci := 5) (q0 := 0) rfl rfl, (fun U hU hW => ⟨rfl, by rw [hU], by rw [hU]; exact hPc, va_K.moved hW.alike hK, kb_N_to hW hN, hDc.weaken (fun _ _ _ _ => trivial)⟩)⟩ rfl rfl hl.1 rfl (lv_room (Nat.le_of_ble_eq_true rfl)) kdX5_finish_28 ⟨Nat.le_of_ble_eq_true rfl, Nat.le_of_ble_eq_true rfl⟩) hP hD hS hA ([0, 4] : List Nat) hC rfl (fun H locs hP hD hS => ?_)
      have hP : va_P D kCl (kWX5_finish cB cI cL cBB cII cSh h_this a_this this_taped this_code this_kind this_rate this_filled this_total this_bitAt this_k this_e1 this_du this_dv f_this_cubes f_this_turns f_this_round f_69 f_this_other f_this_column f_this_words f_this_block) H := hP
      have hD : va_D A (kWX5_finish cB cI cL cBB cII cSh h_this a_this this_taped this_code this_kind this_rate this_filled this_total this_bitAt this_k this_e1 this_du this_dv f_this_cubes f_this_turns f_this_round f_69 f_this_other f_this_column f_this_words f_this_block) := hD
      refine lv_aload_n hx hb kdX5_finish_31 rfl (lv_at hl 0 rfl) ?_
      refine lv_aload_n hx hb kdX5_finish_32 rfl (lv_at hl 0 rfl) ?_
      refine va_get (ci := 5) (v := .int this_rate) (C := kRX5) (T := kTX5) (N := 35) hx hb hts kinX5 hown hK hP 0 rfl rfl 19 (by decide) (hts _ km_700) (fun _ h9 => h9) rfl kdX5_finish_33 ?_
      refine lv_iconst (v := 1) hx hb kdX5_finish_36 (by decide) ?_
      refine lv_isub hx hb kdX5_finish_37 ?_
      refine lv_sipush (v := 128) hx hb kdX5_finish_38 (by decide) ?_
      obtain ⟨u_72, hu_72, h⟩ := kb_o_s h
      obtain ⟨f_71, rfl⟩ : ∃ z, z = u_72 := ⟨_, rfl⟩
      have hC := (show ([0, 4] : List Nat).map (fun i : Nat => (kWX5_finish cB cI cL cBB cII cSh h_this a_this this_taped this_code this_kind this_rate this_filled this_total this_bitAt this_k this_e1 this_du this_dv f_this_cubes f_this_turns f_this_round f_69 f_this_other f_this_column f_this_words f_this_block)[i]?) = List.map some (kWX5_flip cB cI cL cBB cII cSh h_this a_this this_taped this_code this_kind this_rate this_filled this_total this_bitAt this_k this_e1 this_du this_dv f_69) from rfl)
      have hPc := kb_Psub hP ([0, 4] : List Nat) hC
      have hDc := kb_Dsub hD ([0, 4] : List Nat) hC (by simp [kb_nd])
      refine kb_call0 (va_runV (As := [.int (this_rate - (1 : Int32)), .int (128 : Int32)]) (rest := []) C0 (kcX5_flip l D cB cI cL cBB cII cSh h_this a_this _ (this_rate - (1 : Int32)) (128 : Int32) this_taped this_code this_kind this_rate this_filled this_total this_bitAt this_k this_e1 this_du this_dv f_69 f_71 hu_72) (cwV 2 hts (kb_gV km_649 km_651 kp_21 km_6 km_652) rfl rfl rfl (by decide +kernel) ⟨Nat.le_of_ble_eq_true rfl, Nat.le_of_ble_eq_true rfl⟩) ⟨kb_P_bl, va_recv hK hP (ci := 5) (q0 := 0) rfl rfl, (fun U hU hW => ⟨rfl, by rw [hU], by rw [hU]; exact hPc, va_K.moved hW.alike hK, kb_N_to hW hN, hDc.weaken (fun _ _ _ _ => trivial)⟩)⟩ rfl rfl hl.1 rfl (lv_room (Nat.le_of_ble_eq_true rfl)) kdX5_finish_41 ⟨Nat.le_of_ble_eq_true rfl, Nat.le_of_ble_eq_true rfl⟩) hP hD hS hA ([0, 4] : List Nat) hC rfl (fun H locs hP hD hS => ?_)
      have hP : va_P D kCl (kWX5_finish cB cI cL cBB cII cSh h_this a_this this_taped this_code this_kind this_rate this_filled this_total this_bitAt this_k this_e1 this_du this_dv f_this_cubes f_this_turns f_this_round f_71 f_this_other f_this_column f_this_words f_this_block) H := hP
      have hD : va_D A (kWX5_finish cB cI cL cBB cII cSh h_this a_this this_taped this_code this_kind this_rate this_filled this_total this_bitAt this_k this_e1 this_du this_dv f_this_cubes f_this_turns f_this_round f_71 f_this_other f_this_column f_this_words f_this_block) := hD
      refine lv_aload_n hx hb kdX5_finish_44 rfl (lv_at hl 0 rfl) ?_
      obtain ⟨u_76, hu_76, h⟩ := kb_o_s h
      obtain ⟨f_73, f_74, f_75⟩ := u_76
      have hC := (show ([0, 2, 3, 4, 5, 6] : List Nat).map (fun i : Nat => (kWX5_finish cB cI cL cBB cII cSh h_this a_this this_taped this_code this_kind this_rate this_filled this_total this_bitAt this_k this_e1 this_du this_dv f_this_cubes f_this_turns f_this_round f_71 f_this_other f_this_column f_this_words f_this_block)[i]?) = List.map some (kWX5_permute cB cI cL cBB cII cSh h_this a_this this_taped this_code this_kind this_rate this_filled this_total this_bitAt this_k this_e1 this_du this_dv f_this_turns f_this_round f_71 f_this_other f_this_column) from rfl)
      have hPc := kb_Psub hP ([0, 2, 3, 4, 5, 6] : List Nat) hC
      have hDc := kb_Dsub hD ([0, 2, 3, 4, 5, 6] : List Nat) hC (by simp [kb_nd])
      refine kb_call0 (va_runV (As := []) (rest := []) C0 (kcX5_permute l D cB cI cL cBB cII cSh h_this a_this _ this_taped this_code this_kind this_rate this_filled this_total this_bitAt this_k this_e1 this_du this_dv f_this_turns f_this_round f_71 f_this_other f_this_column (f_73, f_74, f_75) hu_76) (cwV 0 hts (kb_gV km_654 km_656 kp_18 km_6 km_657) rfl rfl rfl (by decide +kernel) ⟨Nat.le_of_ble_eq_true rfl, Nat.le_of_ble_eq_true rfl⟩) ⟨kb_P_bl, va_recv hK hP (ci := 5) (q0 := 0) rfl rfl, (fun U hU hW => ⟨rfl, by rw [hU], by rw [hU]; exact hPc, va_K.moved hW.alike hK, kb_N_to hW hN, hDc.weaken (fun _ _ _ _ => trivial)⟩)⟩ rfl rfl hl.1 rfl (lv_room (Nat.le_of_ble_eq_true rfl)) kdX5_finish_45 ⟨Nat.le_of_ble_eq_true rfl, Nat.le_of_ble_eq_true rfl⟩) hP hD hS hA ([0, 2, 3, 4, 5, 6] : List Nat) hC rfl (fun H locs hP hD hS => ?_)
      have hP : va_P D kCl (kWX5_finish cB cI cL cBB cII cSh h_this a_this this_taped this_code this_kind this_rate this_filled this_total this_bitAt this_k this_e1 this_du this_dv f_this_cubes f_this_turns f_this_round f_73 f_74 f_75 f_this_words f_this_block) H := hP
      have hD : va_D A (kWX5_finish cB cI cL cBB cII cSh h_this a_this this_taped this_code this_kind this_rate this_filled this_total this_bitAt this_k this_e1 this_du this_dv f_this_cubes f_this_turns f_this_round f_73 f_74 f_75 f_this_words f_this_block) := hD
      refine lv_aload_n hx hb kdX5_finish_48 rfl (lv_at hl 0 rfl) ?_
      refine lv_iconst (v := 0) hx hb kdX5_finish_49 (by decide) ?_
      refine va_put (ci := 5) (v := .int (0 : Int32)) (C := kRX5) (T := kTX5) (N := 35) hx hb hts kinX5 ktyX5 ktyX5_ok knX5 hown hK hP hD hS 0 rfl rfl 20 (by decide) (hts _ km_701) (fun _ h9 => h9) rfl (ktyX5_ok 20 (by decide)) rfl rfl (Nat.le_of_ble_eq_true rfl) kdX5_finish_50 (fun H locs hP hD hS => ?_)
      have hP : va_P D kCl (kWX5_finish cB cI cL cBB cII cSh h_this a_this this_taped this_code this_kind this_rate (0 : Int32) this_total this_bitAt this_k this_e1 this_du this_dv f_this_cubes f_this_turns f_this_round f_73 f_74 f_75 f_this_words f_this_block) H := hP
      have hD : va_D A (kWX5_finish cB cI cL cBB cII cSh h_this a_this this_taped this_code this_kind this_rate (0 : Int32) this_total this_bitAt this_k this_e1 this_du this_dv f_this_cubes f_this_turns f_this_round f_73 f_74 f_75 f_this_words f_this_block) := hD
      obtain rfl := Option.some.inj h
      exact W.vret hx hb hr (fun t ht hW => ⟨⟨rfl, by rw [ht]; exact hP, va_K.moved hW.alike hK, hD⟩, hS.F ht⟩) hS.2.2 kdX5_finish_53

-- 489.ModuleKemModel.give.lean.txt
abbrev kWX5_give (cB cI cL cBB cII cSh : ClassId) (h_this : Nat) (a_this : Nat → Nat) (h_a1 : Nat) (n_a1 : Nat) (this_taped : Int32) (this_code : Int32) (this_kind : Int32) (this_rate : Int32) (this_filled : Int32) (this_total : Int64) (this_bitAt : Int32) (this_k : Int32) (this_e1 : Int32) (this_du : Int32) (this_dv : Int32) (f_this_cubes : Nat → Int64) (f_this_turns : Nat → Int32) (f_this_round : Nat → Int64) (f_this_state : Nat → Int64) (f_this_other : Nat → Int64) (f_this_column : Nat → Int64) (f_this_words : Nat → Int64) (f_this_block : Nat → Int32) (f_a1 : Nat → Int32) : va_W := [(h_this, koX5 a_this this_taped this_code this_kind this_rate this_filled this_total this_bitAt this_k this_e1 this_du this_dv), ((a_this 6), .inl (cL, 80, .inr (.inl f_this_cubes))), ((a_this 11), .inl (cI, 25, .inl f_this_turns)), ((a_this 12), .inl (cL, 24, .inr (.inl f_this_round))), ((a_this 13), .inl (cL, 25, .inr (.inl f_this_state))), ((a_this 14), .inl (cL, 25, .inr (.inl f_this_other))), ((a_this 15), .inl (cL, 5, .inr (.inl f_this_column))), ((a_this 16), .inl (cL, 80, .inr (.inl f_this_words))), ((a_this 17), .inl (cB, 128, .inl f_this_block)), (h_a1, .inl (cB, n_a1, .inl f_a1))]
def krX5_give : Room := { frames := 4, cells := 0, slots := 0, locals := 107 }
set_option maxHeartbeats 4000000 in
set_option maxRecDepth 100000 in
theorem klX5_give_7 {p : Program} {l : Launch} {e : Env} {s : State} {m : MethodId} {args : Array Value} {below : List Frame} {meth : Method} {c : Code} {cells slots : Nat} {Q : State → Prop} {D : va_G} {cB cI cL cBB cII cSh : ClassId} {A : Nat → Prop} (C0 : CallFix p m c prog_8_method_37_code 5 s args kwA kRX5) (hlocks : meth.locks = false) (hK : va_K D kCl (kb_T cB cI cL cBB cII cSh) s) (hN : kb_N s) (hA : ∀ q, s.heap.size ≤ q → A q) (hcR : cells ≤ krX5_give.cells) (hsR : slots ≤ krX5_give.slots) (h_this h_a1 : Nat) (a_this : Nat → Nat) (p2 : Int32) (p3 : Int32) (n_a1 : Nat) (this_taped : Int32) (this_code : Int32) (this_kind : Int32) (this_rate : Int32) (w_2 : Int64) (this_bitAt : Int32) (this_k : Int32) (this_e1 : Int32) (this_du : Int32) (this_dv : Int32) (f_this_cubes : Nat → Int64) (f_this_turns : Nat → Int32) (f_this_round : Nat → Int64) (f_6 : Nat → Int64) (f_7 : Nat → Int32) :
    ∀ (fuel : Nat) (x4p7 : Int32) (f_a1p7 : Nat → Int32) (this_filledp7 : Int32) (f_this_columnp7 : Nat → Int64) (f_this_otherp7 : Nat → Int64) (f_this_statep7 : Nat → Int64) (r : Int32 × (Nat → Int32) × Int32 × (Nat → Int64) × (Nat → Int64) × (Nat → Int64)), kb_w (fun u : Int32 × (Nat → Int32) × Int32 × (Nat → Int64) × (Nat → Int64) × (Nat → Int64) => kSX5_give_7 p2 p3 n_a1 this_kind this_rate f_this_turns f_this_round u.1 u.2.1 u.2.2.1 u.2.2.2.1 u.2.2.2.2.1 u.2.2.2.2.2) fuel (x4p7, f_a1p7, this_filledp7, f_this_columnp7, f_this_otherp7, f_this_statep7) = some r → ∀ (H : Heap) (locs : List Loc) (ls : Array Slot), va_P D kCl (kWX5_give cB cI cL cBB cII cSh h_this a_this h_a1 n_a1 this_taped this_code this_kind this_rate this_filledp7 w_2 this_bitAt this_k this_e1 this_du this_dv f_this_cubes f_this_turns f_this_round f_this_statep7 f_this_otherp7 f_this_columnp7 f_6 f_7 f_a1p7) H → va_D A (kWX5_give cB cI cL cBB cII cSh h_this a_this h_a1 n_a1 this_taped this_code this_kind this_rate this_filledp7 w_2 this_bitAt this_k this_e1 this_du this_dv f_this_cubes f_this_turns f_this_round f_this_statep7 f_this_otherp7 f_this_columnp7 f_6 f_7 f_a1p7) → va_S A s.heap H locs → lv_has ls 5 [(0, .ref h_this), (1, .ref h_a1), (2, .int p2), (3, .int p3), (4, .int x4p7)] → (∀ (x4p7' : Int32) (f_a1p7' : Nat → Int32) (this_filledp7' : Int32) (f_this_columnp7' : Nat → Int64) (f_this_otherp7' : Nat → Int64) (f_this_statep7' : Nat → Int64), r = (x4p7', f_a1p7', this_filledp7', f_this_columnp7', f_this_otherp7', f_this_statep7') → ∀ (H : Heap) (locs : List Loc) (ls : Array Slot), va_P D kCl (kWX5_give cB cI cL cBB cII cSh h_this a_this h_a1 n_a1 this_taped this_code this_kind this_rate this_filledp7' w_2 this_bitAt this_k this_e1 this_du this_dv f_this_cubes f_this_turns f_this_round f_this_statep7' f_this_otherp7' f_this_columnp7' f_6 f_7 f_a1p7') H → va_D A (kWX5_give cB cI cL cBB cII cSh h_this a_this h_a1 n_a1 this_taped this_code this_kind this_rate this_filledp7' w_2 this_bitAt this_k this_e1 this_du this_dv f_this_cubes f_this_turns f_this_round f_this_statep7' f_this_otherp7' f_this_columnp7' f_6 f_7 f_a1p7') → va_S A s.heap H locs → lv_has ls 5 [(0, .ref h_this), (1, .ref h_a1), (2, .int p2), (3, .int p3), (4, .int x4p7')] → W p l e krX5_give s m args below meth c H locs cells slots Q (F0 m 102 ls [])) → W p l e krX5_give s m args below meth c H locs cells slots Q (F0 m 7 ls []) := by
  obtain ⟨hx, hb, hml, hown, hts⟩ := id C0
  intro fuel
  induction fuel with
  | zero =>
    intro x4p7 f_a1p7 this_filledp7 f_this_columnp7 f_this_otherp7 f_this_statep7 r h
    exact absurd h (kb_w_z _ _ _)
  | succ fuel ih =>
    intro x4p7 f_a1p7 this_filledp7 f_this_columnp7 f_this_otherp7 f_this_statep7 r h H locs ls hP hD hS hl hk0
    obtain ⟨o, h, ho⟩ := kb_w_s h
    have h : kSX5_give_7 p2 p3 n_a1 this_kind this_rate f_this_turns f_this_round x4p7 f_a1p7 this_filledp7 f_this_columnp7 f_this_otherp7 f_this_statep7 = some o := h
    unfold kSX5_give_7 at h
    refine lv_iload hx hb kdX5_give_7 (lv_at hl 4 rfl) ?_
    refine lv_iload_n hx hb kdX5_give_9 rfl (lv_at hl 3 rfl) ?_
    refine lv_icmp_ge (tgt := 102) hx hb kdX5_give_10 (by decide) (fun c_9 => ?_) (fun c_9 => ?_)
    · have h := kb_b_t c_9 h
      obtain rfl := Option.some.inj h
      exact hk0 x4p7 f_a1p7 this_filledp7 f_this_columnp7 f_this_otherp7 f_this_statep7 ho.symm _ _ _ hP hD hS (lv_sub hl [0, 1, 2, 3, 4] rfl)
    · have h := kb_b_f c_9 h
      refine lv_aload_n hx hb kdX5_give_13 rfl (lv_at hl 0 rfl) ?_
      obtain ⟨u_11, hu_11, h⟩ := kb_o_s h
      obtain ⟨r_10, rfl⟩ : ∃ z, z = u_11 := ⟨_, rfl⟩
      have hC := (show ([0] : List Nat).map (fun i : Nat => (kWX5_give cB cI cL cBB cII cSh h_this a_this h_a1 n_a1 this_taped this_code this_kind this_rate this_filledp7 w_2 this_bitAt this_k this_e1 this_du this_dv f_this_cubes f_this_turns f_this_round f_this_statep7 f_this_otherp7 f_this_columnp7 f_6 f_7 f_a1p7)[i]?) = List.map some (kWX5_sponge cB cI cL cBB cII cSh h_this a_this this_taped this_code this_kind this_rate this_filledp7 w_2 this_bitAt this_k this_e1 this_du this_dv) from rfl)
      have hPc := kb_Psub hP ([0] : List Nat) hC
      have hDc := kb_Dsub hD ([0] : List Nat) hC (by simp [kb_nd])
      refine kb_call0 (va_runV (As := []) (rest := []) C0 (kcX5_sponge l D cB cI cL cBB cII cSh h_this a_this _ this_taped this_code this_kind this_rate this_filledp7 w_2 this_bitAt this_k this_e1 this_du this_dv r_10 hu_11) (cwV 0 hts (kb_gV km_645 km_647 kp_3 km_6 km_648) rfl rfl rfl (by decide +kernel) ⟨Nat.le_of_ble_eq_true rfl, Nat.le_of_ble_eq_true rfl⟩) ⟨kb_P_bl, va_recv hK hP (ci := 5) (q0 := 0) rfl rfl, (fun U hU hW => ⟨rfl, by rw [hU], by rw [hU]; exact hPc, va_K.moved hW.alike hK, kb_N_to hW hN, hDc.weaken (fun _ _ _ _ => trivial)⟩)⟩ rfl rfl hl.1 rfl (lv_room (Nat.le_of_ble_eq_true rfl)) kdX5_give_14 ⟨hcR, hsR⟩) hP hD hS hA ([0] : List Nat) hC rfl (fun H locs hP hD hS => ?_)
      have hP : va_P D kCl (kWX5_give cB cI cL cBB cII cSh h_this a_this h_a1 n_a1 this_taped this_code this_kind this_rate this_filledp7 w_2 this_bitAt this_k this_e1 this_du this_dv f_this_cubes f_this_turns f_this_round f_this_statep7 f_this_otherp7 f_this_columnp7 f_6 f_7 f_a1p7) H := hP
      have hD : va_D A (kWX5_give cB cI cL cBB cII cSh h_this a_this h_a1 n_a1 this_taped this_code this_kind this_rate this_filledp7 w_2 this_bitAt this_k this_e1 this_du this_dv f_this_cubes f_this_turns f_this_round f_this_statep7 f_this_otherp7 f_this_columnp7 f_6 f_7 f_a1p7) := hD
      refine lv_if_eq (tgt := 34) hx hb kdX5_give_17 (by decide) (fun c_12 => ?_) (fun c_12 => ?_)
      · have h := kb_b_t c_12 h
        refine lv_aload_n hx hb kdX5_give_34 rfl (lv_at hl 1 rfl) ?_
        refine lv_iload_n hx hb kdX5_give_35 rfl (lv_at hl 2 rfl) ?_
        refine lv_iload hx hb kdX5_give_36 (lv_at hl 4 rfl) ?_
        refine lv_iadd hx hb kdX5_give_38 ?_
        refine lv_aload_n hx hb kdX5_give_39 rfl (lv_at hl 0 rfl) ?_
        refine va_get (ci := 5) (v := .int this_rate) (C := kRX5) (T := kTX5) (N := 35) hx hb hts kinX5 hown hK hP 0 rfl rfl 19 (by decide) (hts _ km_700) (fun _ h9 => h9) rfl kdX5_give_40 ?_
        refine lv_bipush (v := 64) hx hb kdX5_give_43 (by decide) ?_
        refine lv_icmp_ne (tgt := 71) hx hb kdX5_give_45 (by decide) (fun c_13 => ?_) (fun c_13 => ?_)
        · have h := kb_b_f c_13 h
          refine lv_aload_n hx hb kdX5_give_71 rfl (lv_at hl 0 rfl) ?_
          refine va_get (ci := 5) (v := .ref (a_this 13)) (C := kRX5) (T := kTX5) (N := 35) hx hb hts kinX5 hown hK hP 0 rfl rfl 13 (by decide) (hts _ km_694) (fun _ h9 => h9) rfl kdX5_give_72 ?_
          refine lv_iload hx hb kdX5_give_75 (lv_at hl 4 rfl) ?_
          refine lv_bipush (v := 8) hx hb kdX5_give_77 (by decide) ?_
          refine lv_idiv hx hb kdX5_give_79 (by decide) ?_
          obtain ⟨g_14, h⟩ := kb_g_s h
          refine va_lald hx hb hK hP 4 2 rfl rfl (kb_in_v g_14) kdX5_give_80 ?_
          refine lv_bipush (v := 56) hx hb kdX5_give_81 (by decide) ?_
          refine lv_bipush (v := 8) hx hb kdX5_give_83 (by decide) ?_
          refine lv_iload hx hb kdX5_give_85 (lv_at hl 4 rfl) ?_
          refine lv_bipush (v := 8) hx hb kdX5_give_87 (by decide) ?_
          refine lv_irem hx hb kdX5_give_89 (by decide) ?_
          refine lv_imul hx hb kdX5_give_90 ?_
          refine lv_isub hx hb kdX5_give_91 ?_
          refine lv_lushr (v := (((f_this_statep7 (x4p7 / (8 : Int32)).toNatClampNeg).toUInt64 >>> (((56 : Int32) - ((8 : Int32) * (x4p7 - x4p7 / (8 : Int32) * (8 : Int32)))).toInt64.toUInt64 &&& Int64.toUInt64 63)).toInt64)) hx hb kdX5_give_92 rfl ?_
          refine lv_l2i (v := ((((f_this_statep7 (x4p7 / (8 : Int32)).toNatClampNeg).toUInt64 >>> (((56 : Int32) - ((8 : Int32) * (x4p7 - x4p7 / (8 : Int32) * (8 : Int32)))).toInt64.toUInt64 &&& Int64.toUInt64 63)).toInt64).toInt32)) hx hb kdX5_give_93 rfl ?_
          refine lv_i2b (v := (((((f_this_statep7 (x4p7 / (8 : Int32)).toNatClampNeg).toUInt64 >>> (((56 : Int32) - ((8 : Int32) * (x4p7 - x4p7 / (8 : Int32) * (8 : Int32)))).toInt64.toUInt64 &&& Int64.toUInt64 63)).toInt64).toInt32).toInt8.toInt32)) hx hb kdX5_give_94 rfl ?_
          obtain ⟨g_15, h⟩ := kb_g_s h
          refine va_bast hx hb hK hP hD hS 9 0 rfl rfl (kb_in_v g_15) kdX5_give_95 (fun H locs hP hD hS => ?_)
          obtain ⟨f_16, ef_16⟩ : ∃ y, y = upd f_a1p7 (p2 + x4p7).toNatClampNeg (vp_nar .byte (((((f_this_statep7 (x4p7 / (8 : Int32)).toNatClampNeg).toUInt64 >>> (((56 : Int32) - ((8 : Int32) * (x4p7 - x4p7 / (8 : Int32) * (8 : Int32)))).toInt64.toUInt64 &&& Int64.toUInt64 63)).toInt64).toInt32).toInt8.toInt32)) := ⟨_, rfl⟩
          have h := kb_n_s ef_16 h
          have hP : va_P D kCl (kWX5_give cB cI cL cBB cII cSh h_this a_this h_a1 n_a1 this_taped this_code this_kind this_rate this_filledp7 w_2 this_bitAt this_k this_e1 this_du this_dv f_this_cubes f_this_turns f_this_round f_this_statep7 f_this_otherp7 f_this_columnp7 f_6 f_7 f_16) H := by rw [ef_16]; exact hP
          have hD : va_D A (kWX5_give cB cI cL cBB cII cSh h_this a_this h_a1 n_a1 this_taped this_code this_kind this_rate this_filledp7 w_2 this_bitAt this_k this_e1 this_du this_dv f_this_cubes f_this_turns f_this_round f_this_statep7 f_this_otherp7 f_this_columnp7 f_6 f_7 f_16) := by rw [ef_16]; exact hD
          obtain ⟨x4_17, ex4_17⟩ : ∃ y : Int32, y = x4p7 + Int32.ofInt 1 := ⟨_, rfl⟩
          have h := kb_n_s ex4_17 h
          refine lv_iinc (v := x4_17) (lv' := [(4, .int x4_17), (0, .ref h_this), (1, .ref h_a1), (2, .int p2), (3, .int p3)]) hx hb kdX5_give_96 hl (k := 4) rfl ex4_17.symm (by decide) rfl (fun ls hl => ?_)
          refine lv_goto (tgt := 7) hx hb kdX5_give_99 (by decide) ?_
          obtain rfl := Option.some.inj h
          exact ih x4_17 f_16 this_filledp7 f_this_columnp7 f_this_otherp7 f_this_statep7 r ho _ _ _ hP hD hS (lv_sub hl [1, 2, 3, 4, 0] rfl) hk0
        · have h := kb_b_t c_13 h
          refine lv_aload_n hx hb kdX5_give_48 rfl (lv_at hl 0 rfl) ?_
          refine va_get (ci := 5) (v := .ref (a_this 13)) (C := kRX5) (T := kTX5) (N := 35) hx hb hts kinX5 hown hK hP 0 rfl rfl 13 (by decide) (hts _ km_694) (fun _ h9 => h9) rfl kdX5_give_49 ?_
          refine lv_iload hx hb kdX5_give_52 (lv_at hl 4 rfl) ?_
          refine lv_iconst (v := 4) hx hb kdX5_give_54 (by decide) ?_
          refine lv_idiv hx hb kdX5_give_55 (by decide) ?_
          obtain ⟨g_18, h⟩ := kb_g_s h
          refine va_lald hx hb hK hP 4 2 rfl rfl (kb_in_v g_18) kdX5_give_56 ?_
          refine lv_bipush (v := 24) hx hb kdX5_give_57 (by decide) ?_
          refine lv_bipush (v := 8) hx hb kdX5_give_59 (by decide) ?_
          refine lv_iload hx hb kdX5_give_61 (lv_at hl 4 rfl) ?_
          refine lv_iconst (v := 4) hx hb kdX5_give_63 (by decide) ?_
          refine lv_irem hx hb kdX5_give_64 (by decide) ?_
          refine lv_imul hx hb kdX5_give_65 ?_
          refine lv_isub hx hb kdX5_give_66 ?_
          refine lv_lushr (v := (((f_this_statep7 (x4p7 / (4 : Int32)).toNatClampNeg).toUInt64 >>> (((24 : Int32) - ((8 : Int32) * (x4p7 - x4p7 / (4 : Int32) * (4 : Int32)))).toInt64.toUInt64 &&& Int64.toUInt64 63)).toInt64)) hx hb kdX5_give_67 rfl ?_
          refine lv_goto (tgt := 93) hx hb kdX5_give_68 (by decide) ?_
          refine lv_l2i (v := ((((f_this_statep7 (x4p7 / (4 : Int32)).toNatClampNeg).toUInt64 >>> (((24 : Int32) - ((8 : Int32) * (x4p7 - x4p7 / (4 : Int32) * (4 : Int32)))).toInt64.toUInt64 &&& Int64.toUInt64 63)).toInt64).toInt32)) hx hb kdX5_give_93 rfl ?_
          refine lv_i2b (v := (((((f_this_statep7 (x4p7 / (4 : Int32)).toNatClampNeg).toUInt64 >>> (((24 : Int32) - ((8 : Int32) * (x4p7 - x4p7 / (4 : Int32) * (4 : Int32)))).toInt64.toUInt64 &&& Int64.toUInt64 63)).toInt64).toInt32).toInt8.toInt32)) hx hb kdX5_give_94 rfl ?_
          obtain ⟨g_19, h⟩ := kb_g_s h
          refine va_bast hx hb hK hP hD hS 9 0 rfl rfl (kb_in_v g_19) kdX5_give_95 (fun H locs hP hD hS => ?_)
          obtain ⟨f_20, ef_20⟩ : ∃ y, y = upd f_a1p7 (p2 + x4p7).toNatClampNeg (vp_nar .byte (((((f_this_statep7 (x4p7 / (4 : Int32)).toNatClampNeg).toUInt64 >>> (((24 : Int32) - ((8 : Int32) * (x4p7 - x4p7 / (4 : Int32) * (4 : Int32)))).toInt64.toUInt64 &&& Int64.toUInt64 63)).toInt64).toInt32).toInt8.toInt32)) := ⟨_, rfl⟩
          have h := kb_n_s ef_20 h
          have hP : va_P D kCl (kWX5_give cB cI cL cBB cII cSh h_this a_this h_a1 n_a1 this_taped this_code this_kind this_rate this_filledp7 w_2 this_bitAt this_k this_e1 this_du this_dv f_this_cubes f_this_turns f_this_round f_this_statep7 f_this_otherp7 f_this_columnp7 f_6 f_7 f_20) H := by rw [ef_20]; exact hP
          have hD : va_D A (kWX5_give cB cI cL cBB cII cSh h_this a_this h_a1 n_a1 this_taped this_code this_kind this_rate this_filledp7 w_2 this_bitAt this_k this_e1 this_du this_dv f_this_cubes f_this_turns f_this_round f_this_statep7 f_this_otherp7 f_this_columnp7 f_6 f_7 f_20) := by rw [ef_20]; exact hD
          obtain ⟨x4_21, ex4_21⟩ : ∃ y : Int32, y = x4p7 + Int32.ofInt 1 := ⟨_, rfl⟩
          have h := kb_n_s ex4_21 h
          refine lv_iinc (v := x4_21) (lv' := [(4, .int x4_21), (0, .ref h_this), (1, .ref h_a1), (2, .int p2), (3, .int p3)]) hx hb kdX5_give_96 hl (k := 4) rfl ex4_21.symm (by decide) rfl (fun ls hl => ?_)
          refine lv_goto (tgt := 7) hx hb kdX5_give_99 (by decide) ?_
          obtain rfl := Option.some.inj h
          exact ih x4_21 f_20 this_filledp7 f_this_columnp7 f_this_otherp7 f_this_statep7 r ho _ _ _ hP hD hS (lv_sub hl [1, 2, 3, 4, 0] rfl) hk0
      · have h := kb_b_f c_12 h
        refine lv_aload_n hx hb kdX5_give_20 rfl (lv_at hl 1 rfl) ?_
        refine lv_iload_n hx hb kdX5_give_21 rfl (lv_at hl 2 rfl) ?_
        refine lv_iload hx hb kdX5_give_22 (lv_at hl 4 rfl) ?_
        refine lv_iadd hx hb kdX5_give_24 ?_
        refine lv_aload_n hx hb kdX5_give_25 rfl (lv_at hl 0 rfl) ?_
        obtain ⟨u_27, hu_27, h⟩ := kb_o_s h
        obtain ⟨r_22, w_23, f_24, f_25, f_26⟩ := u_27
        have hC := (show ([0, 2, 3, 4, 5, 6] : List Nat).map (fun i : Nat => (kWX5_give cB cI cL cBB cII cSh h_this a_this h_a1 n_a1 this_taped this_code this_kind this_rate this_filledp7 w_2 this_bitAt this_k this_e1 this_du this_dv f_this_cubes f_this_turns f_this_round f_this_statep7 f_this_otherp7 f_this_columnp7 f_6 f_7 f_a1p7)[i]?) = List.map some (kWX5_squeeze cB cI cL cBB cII cSh h_this a_this this_taped this_code this_kind this_rate this_filledp7 w_2 this_bitAt this_k this_e1 this_du this_dv f_this_turns f_this_round f_this_statep7 f_this_otherp7 f_this_columnp7) from rfl)
        have hPc := kb_Psub hP ([0, 2, 3, 4, 5, 6] : List Nat) hC
        have hDc := kb_Dsub hD ([0, 2, 3, 4, 5, 6] : List Nat) hC (by simp [kb_nd])
        refine kb_call0 (va_runV (As := []) (rest := [.int (p2 + x4p7), .ref h_a1]) C0 (kcX5_squeeze l D cB cI cL cBB cII cSh h_this a_this _ this_taped this_code this_kind this_rate this_filledp7 w_2 this_bitAt this_k this_e1 this_du this_dv f_this_turns f_this_round f_this_statep7 f_this_otherp7 f_this_columnp7 (r_22, w_23, f_24, f_25, f_26) hu_27) (cwV 0 hts (kb_gV km_850 km_852 kp_24 km_6 km_853) rfl rfl rfl (by decide +kernel) ⟨Nat.le_of_ble_eq_true rfl, Nat.le_of_ble_eq_true rfl⟩) ⟨kb_P_bl, va_recv hK hP (ci := 5) (q0 := 0) rfl rfl, (fun U hU hW => ⟨rfl, by rw [hU], by rw [hU]; exact hPc, va_K.moved hW.alike hK, kb_N_to hW hN, hDc.weaken (fun _ _ _ _ => trivial)⟩)⟩ rfl rfl hl.1 rfl (lv_room (Nat.le_of_ble_eq_true rfl)) kdX5_give_26 ⟨hcR, hsR⟩) hP hD hS hA ([0, 2, 3, 4, 5, 6] : List Nat) hC rfl (fun H locs hP hD hS => ?_)
        have hP : va_P D kCl (kWX5_give cB cI cL cBB cII cSh h_this a_this h_a1 n_a1 this_taped this_code this_kind this_rate w_23 w_2 this_bitAt this_k this_e1 this_du this_dv f_this_cubes f_this_turns f_this_round f_24 f_25 f_26 f_6 f_7 f_a1p7) H := hP
        have hD : va_D A (kWX5_give cB cI cL cBB cII cSh h_this a_this h_a1 n_a1 this_taped this_code this_kind this_rate w_23 w_2 this_bitAt this_k this_e1 this_du this_dv f_this_cubes f_this_turns f_this_round f_24 f_25 f_26 f_6 f_7 f_a1p7) := hD
        refine lv_i2b (v := (r_22.toInt8.toInt32)) hx hb kdX5_give_29 rfl ?_
        obtain ⟨g_28, h⟩ := kb_g_s h
        refine va_bast hx hb hK hP hD hS 9 0 rfl rfl (kb_in_v g_28) kdX5_give_30 (fun H locs hP hD hS => ?_)
        obtain ⟨f_29, ef_29⟩ : ∃ y, y = upd f_a1p7 (p2 + x4p7).toNatClampNeg (vp_nar .byte (r_22.toInt8.toInt32)) := ⟨_, rfl⟩
        have h := kb_n_s ef_29 h
        have hP : va_P D kCl (kWX5_give cB cI cL cBB cII cSh h_this a_this h_a1 n_a1 this_taped this_code this_kind this_rate w_23 w_2 this_bitAt this_k this_e1 this_du this_dv f_this_cubes f_this_turns f_this_round f_24 f_25 f_26 f_6 f_7 f_29) H := by rw [ef_29]; exact hP
        have hD : va_D A (kWX5_give cB cI cL cBB cII cSh h_this a_this h_a1 n_a1 this_taped this_code this_kind this_rate w_23 w_2 this_bitAt this_k this_e1 this_du this_dv f_this_cubes f_this_turns f_this_round f_24 f_25 f_26 f_6 f_7 f_29) := by rw [ef_29]; exact hD
        refine lv_goto (tgt := 96) hx hb kdX5_give_31 (by decide) ?_
        obtain ⟨x4_30, ex4_30⟩ : ∃ y : Int32, y = x4p7 + Int32.ofInt 1 := ⟨_, rfl⟩
        have h := kb_n_s ex4_30 h
        refine lv_iinc (v := x4_30) (lv' := [(4, .int x4_30), (0, .ref h_this), (1, .ref h_a1), (2, .int p2), (3, .int p3)]) hx hb kdX5_give_96 hl (k := 4) rfl ex4_30.symm (by decide) rfl (fun ls hl => ?_)
        refine lv_goto (tgt := 7) hx hb kdX5_give_99 (by decide) ?_
        obtain rfl := Option.some.inj h
        exact ih x4_30 f_29 w_23 f_26 f_25 f_24 r ho _ _ _ hP hD hS (lv_sub hl [1, 2, 3, 4, 0] rfl) hk0
set_option maxHeartbeats 4000000 in
set_option maxRecDepth 100000 in
theorem kcX5_give (l : Launch) (D : va_G) (cB cI cL cBB cII cSh : ClassId) (h_this h_a1 : Nat) (a_this : Nat → Nat) (sz : Nat) (p2 : Int32) (p3 : Int32) (n_a1 : Nat) (this_taped : Int32) (this_code : Int32) (this_kind : Int32) (this_rate : Int32) (this_filled : Int32) (this_total : Int64) (this_bitAt : Int32) (this_k : Int32) (this_e1 : Int32) (this_du : Int32) (this_dv : Int32) (f_this_cubes : Nat → Int64) (f_this_turns : Nat → Int32) (f_this_round : Nat → Int64) (f_this_state : Nat → Int64) (f_this_other : Nat → Int64) (f_this_column : Nat → Int64) (f_this_words : Nat → Int64) (f_this_block : Nat → Int32) (f_a1 : Nat → Int32) (out : Int32 × Int64 × (Nat → Int64) × (Nat → Int64) × (Nat → Int64) × (Nat → Int64) × (Nat → Int32) × (Nat → Int32)) (h : kFX5_give p2 p3 n_a1 this_kind this_rate this_filled this_total f_this_cubes f_this_turns f_this_round f_this_state f_this_other f_this_column f_this_words f_this_block f_a1 = some out) : Met l kyX5_give kwX5_give krX5_give (kb_P D kCl (kb_T cB cI cL cBB cII cSh) [.ref h_this, .ref h_a1, .int p2, .int p3] (kWX5_give cB cI cL cBB cII cSh h_this a_this h_a1 n_a1 this_taped this_code this_kind this_rate this_filled this_total this_bitAt this_k this_e1 this_du this_dv f_this_cubes f_this_turns f_this_round f_this_state f_this_other f_this_column f_this_words f_this_block f_a1) sz) (kb_Q D kCl (kb_T cB cI cL cBB cII cSh) (va_A (kWX5_give cB cI cL cBB cII cSh h_this a_this h_a1 n_a1 this_taped this_code this_kind this_rate this_filled this_total this_bitAt this_k this_e1 this_du this_dv f_this_cubes f_this_turns f_this_round f_this_state f_this_other f_this_column f_this_words f_this_block f_a1) sz) none (kWX5_give cB cI cL cBB cII cSh h_this a_this h_a1 n_a1 this_taped this_code this_kind this_rate out.1 out.2.1 this_bitAt this_k this_e1 this_du this_dv f_this_cubes f_this_turns f_this_round out.2.2.1 out.2.2.2.1 out.2.2.2.2.1 out.2.2.2.2.2.1 out.2.2.2.2.2.2.1 out.2.2.2.2.2.2.2)) 0 0 (va_A (kWX5_give cB cI cL cBB cII cSh h_this a_this h_a1 n_a1 this_taped this_code this_kind this_rate this_filled this_total this_bitAt this_k this_e1 this_du this_dv f_this_cubes f_this_turns f_this_round f_this_state f_this_other f_this_column f_this_words f_this_block f_a1) sz) := by
  refine Met.ofW (cc := prog_8_method_37_code) (maxL := 5) (ret := none) (by decide) rfl ?_
  intro p e s m args below meth c s₁ B hml hv
  obtain ⟨rfl, hsz, hP, hK, hN, hD0⟩ := hv
  have hx := B.exec
  have hb := B.bytes
  have hr := B.returns
  have hts0 := atoms_spec (ws := kwX5_give) B.pre
  have hts : ∀ w ∈ kwA, w.before _ s = true := fun w h => hts0 w (List.mem_cons_of_mem _ h)
  have hown : s.vm.findClass kRX5 = some m.cls := findClass_of_methodNamed B.named
  have hlocks := B.notSynchronized
  subst hsz
  have hD := hD0.self (sz := s.heap.size)
  generalize hAe : va_A (kWX5_give cB cI cL cBB cII cSh h_this a_this h_a1 n_a1 this_taped this_code this_kind this_rate this_filled this_total this_bitAt this_k this_e1 this_du this_dv f_this_cubes f_this_turns f_this_round f_this_state f_this_other f_this_column f_this_words f_this_block f_a1) s.heap.size = A at hD ⊢
  have hA : ∀ q : Nat, s.heap.size ≤ q → A q := fun q h => by rw [← hAe]; exact Or.inr h
  have hS : va_S A s.heap s.heap [] := va_S.rf
  have C0 : CallFix p m c prog_8_method_37_code 5 s _ kwA kRX5 := ⟨hx, hb, hml, hown, hts⟩
  have hl := lv_entry ([.ref h_this, .ref h_a1, .int p2, .int p3]) (n := 5) (Nat.le_of_ble_eq_true rfl)
  rw [lg_entry_eq]
  generalize (lg_sl ([.ref h_this, .ref h_a1, .int p2, .int p3]) ++ List.replicate (5 - (lg_sl ([.ref h_this, .ref h_a1, .int p2, .int p3])).length) Slot.unset).toArray = ls at hl ⊢
  have hl : lv_has ls 5 [(0, .ref h_this), (1, .ref h_a1), (2, .int p2), (3, .int p3)] := hl
  unfold kFX5_give at h
  refine lv_aload_n hx hb kdX5_give_0 rfl (lv_at hl 0 rfl) ?_
  obtain ⟨u_8, hu_8, h⟩ := kb_o_s h
  obtain ⟨w_1, w_2, f_3, f_4, f_5, f_6, f_7⟩ := u_8
  have hC := (show ([0, 1, 2, 3, 4, 5, 6, 7, 8] : List Nat).map (fun i : Nat => (kWX5_give cB cI cL cBB cII cSh h_this a_this h_a1 n_a1 this_taped this_code this_kind this_rate this_filled this_total this_bitAt this_k this_e1 this_du this_dv f_this_cubes f_this_turns f_this_round f_this_state f_this_other f_this_column f_this_words f_this_block f_a1)[i]?) = List.map some (kWX5_finish cB cI cL cBB cII cSh h_this a_this this_taped this_code this_kind this_rate this_filled this_total this_bitAt this_k this_e1 this_du this_dv f_this_cubes f_this_turns f_this_round f_this_state f_this_other f_this_column f_this_words f_this_block) from rfl)
  have hPc := kb_Psub hP ([0, 1, 2, 3, 4, 5, 6, 7, 8] : List Nat) hC
  have hDc := kb_Dsub hD ([0, 1, 2, 3, 4, 5, 6, 7, 8] : List Nat) hC (by simp [kb_nd])
  refine kb_call0 (va_runV (As := []) (rest := []) C0 (kcX5_finish l D cB cI cL cBB cII cSh h_this a_this _ this_taped this_code this_kind this_rate this_filled this_total this_bitAt this_k this_e1 this_du this_dv f_this_cubes f_this_turns f_this_round f_this_state f_this_other f_this_column f_this_words f_this_block (w_1, w_2, f_3, f_4, f_5, f_6, f_7) hu_8) (cwV 0 hts (kb_gV km_676 km_678 kp_23 km_6 km_679) rfl rfl rfl (by decide +kernel) ⟨Nat.le_of_ble_eq_true rfl, Nat.le_of_ble_eq_true rfl⟩) ⟨kb_P_bl, va_recv hK hP (ci := 5) (q0 := 0) rfl rfl, (fun U hU hW => ⟨rfl, by rw [hU], by rw [hU]; exact hPc, va_K.moved hW.alike hK, kb_N_to hW hN, hDc.weaken (fun _ _ _ _ => trivial)⟩)⟩ rfl rfl hl.1 rfl (lv_room (Nat.le_of_ble_eq_true rfl)) kdX5_give_1 ⟨Nat.le_of_ble_eq_true rfl, Nat.le_of_ble_eq_true rfl⟩) hP hD hS hA ([0, 1, 2, 3, 4, 5, 6, 7, 8] : List Nat) hC rfl (fun H locs hP hD hS => ?_)
  have hP : va_P D kCl (kWX5_give cB cI cL cBB cII cSh h_this a_this h_a1 n_a1 this_taped this_code this_kind this_rate w_1 w_2 this_bitAt this_k this_e1 this_du this_dv f_this_cubes f_this_turns f_this_round f_3 f_4 f_5 f_6 f_7 f_a1) H := hP
  have hD : va_D A (kWX5_give cB cI cL cBB cII cSh h_this a_this h_a1 n_a1 this_taped this_code this_kind this_rate w_1 w_2 this_bitAt this_k this_e1 this_du this_dv f_this_cubes f_this_turns f_this_round f_3 f_4 f_5 f_6 f_7 f_a1) := hD
  refine lv_iconst (v := 0) hx hb kdX5_give_4 (by decide) ?_
  refine lv_istore (lv' := [(4, .int (0 : Int32)), (0, .ref h_this), (1, .ref h_a1), (2, .int p2), (3, .int p3)]) hx hb kdX5_give_5 hl (by decide) rfl (fun ls hl => ?_)
  obtain ⟨r_37, hr_37, h⟩ := kb_o_s h
  refine klX5_give_7 C0 hlocks hK hN hA (by decide) (by decide) h_this h_a1 a_this p2 p3 n_a1 this_taped this_code this_kind this_rate w_2 this_bitAt this_k this_e1 this_du this_dv f_this_cubes f_this_turns f_this_round f_6 f_7 100000 (0 : Int32) f_a1 w_1 f_5 f_4 f_3 r_37 hr_37 _ _ _ hP hD hS (lv_sub hl [1, 2, 3, 4, 0] rfl) (fun x4p7_31 f_a1p7_32 this_filledp7_33 f_this_columnp7_34 f_this_otherp7_35 f_this_statep7_36 er_37 H locs ls hP hD hS hl => ?_)
  subst er_37
  obtain rfl := Option.some.inj h
  exact W.vret hx hb hr (fun t ht hW => ⟨⟨rfl, by rw [ht]; exact hP, va_K.moved hW.alike hK, hD⟩, hS.F ht⟩) hS.2.2 kdX5_give_102
