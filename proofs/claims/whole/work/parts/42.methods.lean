-- 443.ModuleKemModel.addProduct.lean.txt
abbrev kWX5_addProduct (cB cI cL cBB cII cSh : ClassId) (h_this : Nat) (a_this : Nat → Nat) (h_a1 : Nat) (n_a1 : Nat) (h_a2 : Nat) (n_a2 : Nat) (h_a3 : Nat) (n_a3 : Nat) (this_taped : Int32) (this_code : Int32) (this_kind : Int32) (this_rate : Int32) (this_filled : Int32) (this_total : Int64) (this_bitAt : Int32) (this_k : Int32) (this_e1 : Int32) (this_du : Int32) (this_dv : Int32) (f_this_points : Nat → Int32) (f_a1 : Nat → Int32) (f_a2 : Nat → Int32) (f_a3 : Nat → Int32) : va_W := [(h_this, koX5 a_this this_taped this_code this_kind this_rate this_filled this_total this_bitAt this_k this_e1 this_du this_dv), ((a_this 24), .inl (cI, 256, .inl f_this_points)), (h_a1, .inl (cI, n_a1, .inl f_a1)), (h_a2, .inl (cI, n_a2, .inl f_a2)), (h_a3, .inl (cI, n_a3, .inl f_a3))]
def krX5_addProduct : Room := { frames := 1, cells := 0, slots := 0, locals := 23 }
set_option maxHeartbeats 4000000 in
set_option maxRecDepth 100000 in
theorem klX5_addProduct_3 {p : Program} {l : Launch} {e : Env} {s : State} {m : MethodId} {args : Array Value} {below : List Frame} {meth : Method} {c : Code} {cells slots : Nat} {Q : State → Prop} {D : va_G} {cB cI cL cBB cII cSh : ClassId} {A : Nat → Prop} (C0 : CallFix p m c prog_8_method_46_code 15 s args kwA kRX5) (hlocks : meth.locks = false) (hK : va_K D kCl (kb_T cB cI cL cBB cII cSh) s) (hN : kb_N s) (hA : ∀ q, s.heap.size ≤ q → A q) (hcR : cells ≤ krX5_addProduct.cells) (hsR : slots ≤ krX5_addProduct.slots) (h_this h_a1 h_a2 h_a3 : Nat) (a_this : Nat → Nat) (n_a1 : Nat) (n_a2 : Nat) (n_a3 : Nat) (this_taped : Int32) (this_code : Int32) (this_kind : Int32) (this_rate : Int32) (this_filled : Int32) (this_total : Int64) (this_bitAt : Int32) (this_k : Int32) (this_e1 : Int32) (this_du : Int32) (this_dv : Int32) (f_this_points : Nat → Int32) (f_a2 : Nat → Int32) (f_a3 : Nat → Int32) :
    ∀ (fuel : Nat) (x4p3 : Int32) (f_a1p3 : Nat → Int32) (r : Int32 × (Nat → Int32)), kb_w (fun u : Int32 × (Nat → Int32) => kSX5_addProduct_3 n_a1 n_a2 n_a3 f_this_points f_a2 f_a3 u.1 u.2) fuel (x4p3, f_a1p3) = some r → ∀ (H : Heap) (locs : List Loc) (ls : Array Slot), va_P D kCl (kWX5_addProduct cB cI cL cBB cII cSh h_this a_this h_a1 n_a1 h_a2 n_a2 h_a3 n_a3 this_taped this_code this_kind this_rate this_filled this_total this_bitAt this_k this_e1 this_du this_dv f_this_points f_a1p3 f_a2 f_a3) H → va_D A (kWX5_addProduct cB cI cL cBB cII cSh h_this a_this h_a1 n_a1 h_a2 n_a2 h_a3 n_a3 this_taped this_code this_kind this_rate this_filled this_total this_bitAt this_k this_e1 this_du this_dv f_this_points f_a1p3 f_a2 f_a3) → va_S A s.heap H locs → lv_has ls 15 [(0, .ref h_this), (1, .ref h_a1), (2, .ref h_a2), (3, .ref h_a3), (4, .int x4p3)] → (∀ (x4p3' : Int32) (f_a1p3' : Nat → Int32), r = (x4p3', f_a1p3') → ∀ (H : Heap) (locs : List Loc) (ls : Array Slot), va_P D kCl (kWX5_addProduct cB cI cL cBB cII cSh h_this a_this h_a1 n_a1 h_a2 n_a2 h_a3 n_a3 this_taped this_code this_kind this_rate this_filled this_total this_bitAt this_k this_e1 this_du this_dv f_this_points f_a1p3' f_a2 f_a3) H → va_D A (kWX5_addProduct cB cI cL cBB cII cSh h_this a_this h_a1 n_a1 h_a2 n_a2 h_a3 n_a3 this_taped this_code this_kind this_rate this_filled this_total this_bitAt this_k this_e1 this_du this_dv f_this_points f_a1p3' f_a2 f_a3) → va_S A s.heap H locs → lv_has ls 15 [(0, .ref h_this), (1, .ref h_a1), (2, .ref h_a2), (3, .ref h_a3), (4, .int x4p3')] → W p l e krX5_addProduct s m args below meth c H locs cells slots Q (F0 m 147 ls [])) → W p l e krX5_addProduct s m args below meth c H locs cells slots Q (F0 m 3 ls []) := by
  obtain ⟨hx, hb, hml, hown, hts⟩ := id C0
  intro fuel
  induction fuel with
  | zero =>
    intro x4p3 f_a1p3 r h
    exact absurd h (kb_w_z _ _ _)
  | succ fuel ih =>
    intro x4p3 f_a1p3 r h H locs ls hP hD hS hl hk0
    obtain ⟨o, h, ho⟩ := kb_w_s h
    have h : kSX5_addProduct_3 n_a1 n_a2 n_a3 f_this_points f_a2 f_a3 x4p3 f_a1p3 = some o := h
    unfold kSX5_addProduct_3 at h
    refine lv_iload hx hb kdX5_addProduct_3 (lv_at hl 4 rfl) ?_
    refine lv_sipush (v := 128) hx hb kdX5_addProduct_5 (by decide) ?_
    refine lv_icmp_ge (tgt := 147) hx hb kdX5_addProduct_8 (by decide) (fun c_1 => ?_) (fun c_1 => ?_)
    · have h := kb_b_t c_1 h
      obtain rfl := Option.some.inj h
      exact hk0 x4p3 f_a1p3 ho.symm _ _ _ hP hD hS (lv_sub hl [0, 1, 2, 3, 4] rfl)
    · have h := kb_b_f c_1 h
      refine lv_aload_n hx hb kdX5_addProduct_11 rfl (lv_at hl 0 rfl) ?_
      refine va_get (ci := 5) (v := .ref (a_this 24)) (C := kRX5) (T := kTX5) (N := 35) hx hb hts kinX5 hown hK hP 0 rfl rfl 24 (by decide) (hts _ km_705) (fun _ h9 => h9) rfl kdX5_addProduct_12 ?_
      refine lv_iconst (v := 2) hx hb kdX5_addProduct_15 (by decide) ?_
      refine lv_iload hx hb kdX5_addProduct_16 (lv_at hl 4 rfl) ?_
      refine lv_bipush (v := 7) hx hb kdX5_addProduct_18 (by decide) ?_
      obtain ⟨u_3, hu_3, h⟩ := kb_o_s h
      obtain ⟨r_2, rfl⟩ : ∃ z, z = u_3 := ⟨_, rfl⟩
      have hC := (show ([] : List Nat).map (fun i : Nat => (kWX5_addProduct cB cI cL cBB cII cSh h_this a_this h_a1 n_a1 h_a2 n_a2 h_a3 n_a3 this_taped this_code this_kind this_rate this_filled this_total this_bitAt this_k this_e1 this_du this_dv f_this_points f_a1p3 f_a2 f_a3)[i]?) = List.map some (kWX5_turned cB cI cL cBB cII cSh) from rfl)
      have hPc := kb_Psub hP ([] : List Nat) hC
      have hDc := kb_Dsub hD ([] : List Nat) hC (by simp [kb_nd])
      refine kb_call0 (va_runS (As := [.int x4p3, .int (7 : Int32)]) (rest := [.int (2 : Int32), .ref (a_this 24)]) C0 (kcX5_turned l D cB cI cL cBB cII cSh  _ x4p3 (7 : Int32) r_2 hu_3) (va_cwS 2 hts (kb_gS km_865 km_866 km_6 km_867) rfl rfl rfl (by decide +kernel) ⟨Nat.le_of_ble_eq_true rfl, Nat.le_of_ble_eq_true rfl⟩) ⟨kb_P_bl, (fun U hU hW => ⟨rfl, by rw [hU], by rw [hU]; exact hPc, va_K.moved hW.alike hK, kb_N_to hW hN, hDc.weaken (fun _ _ _ _ => trivial)⟩)⟩ rfl rfl hl.1 rfl (lv_room (Nat.le_of_ble_eq_true rfl)) kdX5_addProduct_20 ⟨hcR, hsR⟩) hP hD hS hA ([] : List Nat) hC rfl (fun H locs hP hD hS => ?_)
      have hP : va_P D kCl (kWX5_addProduct cB cI cL cBB cII cSh h_this a_this h_a1 n_a1 h_a2 n_a2 h_a3 n_a3 this_taped this_code this_kind this_rate this_filled this_total this_bitAt this_k this_e1 this_du this_dv f_this_points f_a1p3 f_a2 f_a3) H := hP
      have hD : va_D A (kWX5_addProduct cB cI cL cBB cII cSh h_this a_this h_a1 n_a1 h_a2 n_a2 h_a3 n_a3 this_taped this_code this_kind this_rate this_filled this_total this_bitAt this_k this_e1 this_du this_dv f_this_points f_a1p3 f_a2 f_a3) := hD
      refine lv_imul hx hb kdX5_addProduct_23 ?_
      refine lv_iconst (v := 1) hx hb kdX5_addProduct_24 (by decide) ?_
      refine lv_iadd hx hb kdX5_addProduct_25 ?_
      obtain ⟨g_4, h⟩ := kb_g_s h
      refine va_iald hx hb hK hP 1 1 rfl rfl (kb_in_v g_4) kdX5_addProduct_26 ?_
      refine lv_i2l (v := ((f_this_points (((2 : Int32) * r_2) + (1 : Int32)).toNatClampNeg).toInt64)) hx hb kdX5_addProduct_27 rfl ?_
      refine lv_topl (fun x5_5 ex5_5 => ?_)
      have h := kb_n_s ex5_5 h
      refine lv_lstore (lv' := [(5, .long x5_5), (0, .ref h_this), (1, .ref h_a1), (2, .ref h_a2), (3, .ref h_a3), (4, .int x4p3)]) hx hb kdX5_addProduct_28 hl (by decide) rfl (fun ls hl => ?_)
      refine lv_aload_n hx hb kdX5_addProduct_30 rfl (lv_at hl 3 rfl) ?_
      refine lv_iconst (v := 2) hx hb kdX5_addProduct_31 (by decide) ?_
      refine lv_iload hx hb kdX5_addProduct_32 (lv_at hl 5 rfl) ?_
      refine lv_imul hx hb kdX5_addProduct_34 ?_
      obtain ⟨g_6, h⟩ := kb_g_s h
      refine va_iald hx hb hK hP 3 1 rfl rfl (kb_in_v g_6) kdX5_addProduct_35 ?_
      refine lv_i2l (v := ((f_a2 ((2 : Int32) * x4p3).toNatClampNeg).toInt64)) hx hb kdX5_addProduct_36 rfl ?_
      refine lv_topl (fun x7_7 ex7_7 => ?_)
      have h := kb_n_s ex7_7 h
      refine lv_lstore (lv' := [(7, .long x7_7), (5, .long x5_5), (0, .ref h_this), (1, .ref h_a1), (2, .ref h_a2), (3, .ref h_a3), (4, .int x4p3)]) hx hb kdX5_addProduct_37 hl (by decide) rfl (fun ls hl => ?_)
      refine lv_aload_n hx hb kdX5_addProduct_39 rfl (lv_at hl 4 rfl) ?_
      refine lv_iconst (v := 2) hx hb kdX5_addProduct_40 (by decide) ?_
      refine lv_iload hx hb kdX5_addProduct_41 (lv_at hl 6 rfl) ?_
      refine lv_imul hx hb kdX5_addProduct_43 ?_
      refine lv_iconst (v := 1) hx hb kdX5_addProduct_44 (by decide) ?_
      refine lv_iadd hx hb kdX5_addProduct_45 ?_
      obtain ⟨g_8, h⟩ := kb_g_s h
      refine va_iald hx hb hK hP 3 1 rfl rfl (kb_in_v g_8) kdX5_addProduct_46 ?_
      refine lv_i2l (v := ((f_a2 (((2 : Int32) * x4p3) + (1 : Int32)).toNatClampNeg).toInt64)) hx hb kdX5_addProduct_47 rfl ?_
      refine lv_topl (fun x9_9 ex9_9 => ?_)
      have h := kb_n_s ex9_9 h
      refine lv_lstore (lv' := [(9, .long x9_9), (7, .long x7_7), (5, .long x5_5), (0, .ref h_this), (1, .ref h_a1), (2, .ref h_a2), (3, .ref h_a3), (4, .int x4p3)]) hx hb kdX5_addProduct_48 hl (by decide) rfl (fun ls hl => ?_)
      refine lv_aload_n hx hb kdX5_addProduct_50 rfl (lv_at hl 6 rfl) ?_
      refine lv_iconst (v := 2) hx hb kdX5_addProduct_51 (by decide) ?_
      refine lv_iload hx hb kdX5_addProduct_52 (lv_at hl 7 rfl) ?_
      refine lv_imul hx hb kdX5_addProduct_54 ?_
      obtain ⟨g_10, h⟩ := kb_g_s h
      refine va_iald hx hb hK hP 4 1 rfl rfl (kb_in_v g_10) kdX5_addProduct_55 ?_
      refine lv_i2l (v := ((f_a3 ((2 : Int32) * x4p3).toNatClampNeg).toInt64)) hx hb kdX5_addProduct_56 rfl ?_
      refine lv_topl (fun x11_11 ex11_11 => ?_)
      have h := kb_n_s ex11_11 h
      refine lv_lstore (lv' := [(11, .long x11_11), (9, .long x9_9), (7, .long x7_7), (5, .long x5_5), (0, .ref h_this), (1, .ref h_a1), (2, .ref h_a2), (3, .ref h_a3), (4, .int x4p3)]) hx hb kdX5_addProduct_57 hl (by decide) rfl (fun ls hl => ?_)
      refine lv_aload_n hx hb kdX5_addProduct_59 rfl (lv_at hl 7 rfl) ?_
      refine lv_iconst (v := 2) hx hb kdX5_addProduct_60 (by decide) ?_
      refine lv_iload hx hb kdX5_addProduct_61 (lv_at hl 8 rfl) ?_
      refine lv_imul hx hb kdX5_addProduct_63 ?_
      refine lv_iconst (v := 1) hx hb kdX5_addProduct_64 (by decide) ?_
      refine lv_iadd hx hb kdX5_addProduct_65 ?_
      obtain ⟨g_12, h⟩ := kb_g_s h
      refine va_iald hx hb hK hP 4 1 rfl rfl (kb_in_v g_12) kdX5_addProduct_66 ?_
      refine lv_i2l (v := ((f_a3 (((2 : Int32) * x4p3) + (1 : Int32)).toNatClampNeg).toInt64)) hx hb kdX5_addProduct_67 rfl ?_
      refine lv_topl (fun x13_13 ex13_13 => ?_)
      have h := kb_n_s ex13_13 h
      refine lv_lstore (lv' := [(13, .long x13_13), (11, .long x11_11), (9, .long x9_9), (7, .long x7_7), (5, .long x5_5), (0, .ref h_this), (1, .ref h_a1), (2, .ref h_a2), (3, .ref h_a3), (4, .int x4p3)]) hx hb kdX5_addProduct_68 hl (by decide) rfl (fun ls hl => ?_)
      refine lv_aload_n hx hb kdX5_addProduct_70 rfl (lv_at hl 6 rfl) ?_
      refine lv_iconst (v := 2) hx hb kdX5_addProduct_71 (by decide) ?_
      refine lv_iload hx hb kdX5_addProduct_72 (lv_at hl 9 rfl) ?_
      refine lv_imul hx hb kdX5_addProduct_74 ?_
      refine lv_aload_n hx hb kdX5_addProduct_75 rfl (lv_at hl 6 rfl) ?_
      refine lv_iconst (v := 2) hx hb kdX5_addProduct_76 (by decide) ?_
      refine lv_iload hx hb kdX5_addProduct_77 (lv_at hl 9 rfl) ?_
      refine lv_imul hx hb kdX5_addProduct_79 ?_
      obtain ⟨g_14, h⟩ := kb_g_s h
      refine va_iald hx hb hK hP 2 1 rfl rfl (kb_in_v g_14) kdX5_addProduct_80 ?_
      refine lv_i2l (v := ((f_a1p3 ((2 : Int32) * x4p3).toNatClampNeg).toInt64)) hx hb kdX5_addProduct_81 rfl ?_
      refine lv_lload hx hb kdX5_addProduct_82 (lv_at hl 3 rfl) ?_
      refine lv_lload hx hb kdX5_addProduct_84 (lv_at hl 1 rfl) ?_
      refine lv_lmul hx hb kdX5_addProduct_86 ?_
      refine lv_ladd hx hb kdX5_addProduct_87 ?_
      refine lv_lload hx hb kdX5_addProduct_88 (lv_at hl 2 rfl) ?_
      refine lv_lload hx hb kdX5_addProduct_90 (lv_at hl 0 rfl) ?_
      refine lv_lmul hx hb kdX5_addProduct_92 ?_
      refine lv_ldc2 (v := 3329) hx hb hown (hts _ km_868) kdX5_addProduct_93 ?_
      refine lv_lrem hx hb kdX5_addProduct_96 (by decide) ?_
      refine lv_topl (fun q_15 eq_15 => ?_)
      have h := kb_n_s eq_15 h
      refine lv_lload hx hb kdX5_addProduct_97 (lv_at hl 4 rfl) ?_
      refine lv_lmul hx hb kdX5_addProduct_99 ?_
      refine lv_ladd hx hb kdX5_addProduct_100 ?_
      refine lv_ldc2 (v := 3329) hx hb hown (hts _ km_868) kdX5_addProduct_101 ?_
      refine lv_lrem hx hb kdX5_addProduct_104 (by decide) ?_
      refine lv_topl (fun q_16 eq_16 => ?_)
      have h := kb_n_s eq_16 h
      refine lv_l2i (v := (q_16.toInt32)) hx hb kdX5_addProduct_105 rfl ?_
      obtain ⟨g_17, h⟩ := kb_g_s h
      refine va_iast hx hb hK hP hD hS 2 1 rfl rfl (kb_in_v g_17) kdX5_addProduct_106 (fun H locs hP hD hS => ?_)
      obtain ⟨f_18, ef_18⟩ : ∃ y, y = upd f_a1p3 ((2 : Int32) * x4p3).toNatClampNeg (q_16.toInt32) := ⟨_, rfl⟩
      have h := kb_n_s ef_18 h
      have hP : va_P D kCl (kWX5_addProduct cB cI cL cBB cII cSh h_this a_this h_a1 n_a1 h_a2 n_a2 h_a3 n_a3 this_taped this_code this_kind this_rate this_filled this_total this_bitAt this_k this_e1 this_du this_dv f_this_points f_18 f_a2 f_a3) H := by rw [ef_18]; exact hP
      have hD : va_D A (kWX5_addProduct cB cI cL cBB cII cSh h_this a_this h_a1 n_a1 h_a2 n_a2 h_a3 n_a3 this_taped this_code this_kind this_rate this_filled this_total this_bitAt this_k this_e1 this_du this_dv f_this_points f_18 f_a2 f_a3) := by rw [ef_18]; exact hD
      refine lv_aload_n hx hb kdX5_addProduct_107 rfl (lv_at hl 6 rfl) ?_
      refine lv_iconst (v := 2) hx hb kdX5_addProduct_108 (by decide) ?_
      refine lv_iload hx hb kdX5_addProduct_109 (lv_at hl 9 rfl) ?_
      refine lv_imul hx hb kdX5_addProduct_111 ?_
      refine lv_iconst (v := 1) hx hb kdX5_addProduct_112 (by decide) ?_
      refine lv_iadd hx hb kdX5_addProduct_113 ?_
      refine lv_aload_n hx hb kdX5_addProduct_114 rfl (lv_at hl 6 rfl) ?_
      refine lv_iconst (v := 2) hx hb kdX5_addProduct_115 (by decide) ?_
      refine lv_iload hx hb kdX5_addProduct_116 (lv_at hl 9 rfl) ?_
      refine lv_imul hx hb kdX5_addProduct_118 ?_
      refine lv_iconst (v := 1) hx hb kdX5_addProduct_119 (by decide) ?_
      refine lv_iadd hx hb kdX5_addProduct_120 ?_
      obtain ⟨g_19, h⟩ := kb_g_s h
      refine va_iald hx hb hK hP 2 1 rfl rfl (kb_in_v g_19) kdX5_addProduct_121 ?_
      refine lv_i2l (v := ((f_18 (((2 : Int32) * x4p3) + (1 : Int32)).toNatClampNeg).toInt64)) hx hb kdX5_addProduct_122 rfl ?_
      refine lv_lload hx hb kdX5_addProduct_123 (lv_at hl 3 rfl) ?_
      refine lv_lload hx hb kdX5_addProduct_125 (lv_at hl 0 rfl) ?_
      refine lv_lmul hx hb kdX5_addProduct_127 ?_
      refine lv_ladd hx hb kdX5_addProduct_128 ?_
      refine lv_lload hx hb kdX5_addProduct_129 (lv_at hl 2 rfl) ?_
      refine lv_lload hx hb kdX5_addProduct_131 (lv_at hl 1 rfl) ?_
      refine lv_lmul hx hb kdX5_addProduct_133 ?_
      refine lv_ladd hx hb kdX5_addProduct_134 ?_
      refine lv_ldc2 (v := 3329) hx hb hown (hts _ km_868) kdX5_addProduct_135 ?_
      refine lv_lrem hx hb kdX5_addProduct_138 (by decide) ?_
      refine lv_topl (fun q_20 eq_20 => ?_)
      have h := kb_n_s eq_20 h
      refine lv_l2i (v := (q_20.toInt32)) hx hb kdX5_addProduct_139 rfl ?_
      obtain ⟨g_21, h⟩ := kb_g_s h
      refine va_iast hx hb hK hP hD hS 2 1 rfl rfl (kb_in_v g_21) kdX5_addProduct_140 (fun H locs hP hD hS => ?_)
      obtain ⟨f_22, ef_22⟩ : ∃ y, y = upd f_18 (((2 : Int32) * x4p3) + (1 : Int32)).toNatClampNeg (q_20.toInt32) := ⟨_, rfl⟩
      have h := kb_n_s ef_22 h
      have hP : va_P D kCl (kWX5_addProduct cB cI cL cBB cII cSh h_this a_this h_a1 n_a1 h_a2 n_a2 h_a3 n_a3 this_taped this_code this_kind this_rate this_filled this_total this_bitAt this_k this_e1 this_du this_dv f_this_points f_22 f_a2 f_a3) H := by rw [ef_22]; exact hP
      have hD : va_D A (kWX5_addProduct cB cI cL cBB cII cSh h_this a_this h_a1 n_a1 h_a2 n_a2 h_a3 n_a3 this_taped this_code this_kind this_rate this_filled this_total this_bitAt this_k this_e1 this_du this_dv f_this_points f_22 f_a2 f_a3) := by rw [ef_22]; exact hD
      obtain ⟨x4_23, ex4_23⟩ : ∃ y : Int32, y = x4p3 + Int32.ofInt 1 := ⟨_, rfl⟩
      have h := kb_n_s ex4_23 h
      refine lv_iinc (v := x4_23) (lv' := [(4, .int x4_23), (13, .long x13_13), (11, .long x11_11), (9, .long x9_9), (7, .long x7_7), (5, .long x5_5), (0, .ref h_this), (1, .ref h_a1), (2, .ref h_a2), (3, .ref h_a3)]) hx hb kdX5_addProduct_141 hl (k := 9) rfl ex4_23.symm (by decide) rfl (fun ls hl => ?_)
      refine lv_goto (tgt := 3) hx hb kdX5_addProduct_144 (by decide) ?_
      obtain rfl := Option.some.inj h
      exact ih x4_23 f_22 r ho _ _ _ hP hD hS (lv_sub hl [6, 7, 8, 9, 0] rfl) hk0
set_option maxHeartbeats 4000000 in
set_option maxRecDepth 100000 in
theorem kcX5_addProduct (l : Launch) (D : va_G) (cB cI cL cBB cII cSh : ClassId) (h_this h_a1 h_a2 h_a3 : Nat) (a_this : Nat → Nat) (sz : Nat) (n_a1 : Nat) (n_a2 : Nat) (n_a3 : Nat) (this_taped : Int32) (this_code : Int32) (this_kind : Int32) (this_rate : Int32) (this_filled : Int32) (this_total : Int64) (this_bitAt : Int32) (this_k : Int32) (this_e1 : Int32) (this_du : Int32) (this_dv : Int32) (f_this_points : Nat → Int32) (f_a1 : Nat → Int32) (f_a2 : Nat → Int32) (f_a3 : Nat → Int32) (out : (Nat → Int32)) (h : kFX5_addProduct n_a1 n_a2 n_a3 f_this_points f_a1 f_a2 f_a3 = some out) : Met l kyX5_addProduct kwX5_addProduct krX5_addProduct (kb_P D kCl (kb_T cB cI cL cBB cII cSh) [.ref h_this, .ref h_a1, .ref h_a2, .ref h_a3] (kWX5_addProduct cB cI cL cBB cII cSh h_this a_this h_a1 n_a1 h_a2 n_a2 h_a3 n_a3 this_taped this_code this_kind this_rate this_filled this_total this_bitAt this_k this_e1 this_du this_dv f_this_points f_a1 f_a2 f_a3) sz) (kb_Q D kCl (kb_T cB cI cL cBB cII cSh) (va_A (kWX5_addProduct cB cI cL cBB cII cSh h_this a_this h_a1 n_a1 h_a2 n_a2 h_a3 n_a3 this_taped this_code this_kind this_rate this_filled this_total this_bitAt this_k this_e1 this_du this_dv f_this_points f_a1 f_a2 f_a3) sz) none (kWX5_addProduct cB cI cL cBB cII cSh h_this a_this h_a1 n_a1 h_a2 n_a2 h_a3 n_a3 this_taped this_code this_kind this_rate this_filled this_total this_bitAt this_k this_e1 this_du this_dv f_this_points out f_a2 f_a3)) 0 0 (va_A (kWX5_addProduct cB cI cL cBB cII cSh h_this a_this h_a1 n_a1 h_a2 n_a2 h_a3 n_a3 this_taped this_code this_kind this_rate this_filled this_total this_bitAt this_k this_e1 this_du this_dv f_this_points f_a1 f_a2 f_a3) sz) := by
  refine Met.ofW (cc := prog_8_method_46_code) (maxL := 15) (ret := none) (by decide) rfl ?_
  intro p e s m args below meth c s₁ B hml hv
  obtain ⟨rfl, hsz, hP, hK, hN, hD0⟩ := hv
  have hx := B.exec
  have hb := B.bytes
  have hr := B.returns
  have hts0 := atoms_spec (ws := kwX5_addProduct) B.pre
  have hts : ∀ w ∈ kwA, w.before _ s = true := fun w h => hts0 w (List.mem_cons_of_mem _ h)
  have hown : s.vm.findClass kRX5 = some m.cls := findClass_of_methodNamed B.named
  have hlocks := B.notSynchronized
  subst hsz
  have hD := hD0.self (sz := s.heap.size)
  generalize hAe : va_A (kWX5_addProduct cB cI cL cBB cII cSh h_this a_this h_a1 n_a1 h_a2 n_a2 h_a3 n_a3 this_taped this_code this_kind this_rate this_filled this_total this_bitAt this_k this_e1 this_du this_dv f_this_points f_a1 f_a2 f_a3) s.heap.size = A at hD ⊢
  have hA : ∀ q : Nat, s.heap.size ≤ q → A q := fun q h => by rw [← hAe]; exact Or.inr h
  have hS : va_S A s.heap s.heap [] := va_S.rf
  have C0 : CallFix p m c prog_8_method_46_code 15 s _ kwA kRX5 := ⟨hx, hb, hml, hown, hts⟩
  have hl := lv_entry ([.ref h_this, .ref h_a1, .ref h_a2, .ref h_a3]) (n := 15) (Nat.le_of_ble_eq_true rfl)
  rw [lg_entry_eq]
  generalize (lg_sl ([.ref h_this, .ref h_a1, .ref h_a2, .ref h_a3]) ++ List.replicate (15 - (lg_sl ([.ref h_this, .ref h_a1, .ref h_a2, .ref h_a3])).length) Slot.unset).toArray = ls at hl ⊢
  have hl : lv_has ls 15 [(0, .ref h_this), (1, .ref h_a1), (2, .ref h_a2), (3, .ref h_a3)] := hl
  unfold kFX5_addProduct at h
  refine lv_iconst (v := 0) hx hb kdX5_addProduct_0 (by decide) ?_
  refine lv_istore (lv' := [(4, .int (0 : Int32)), (0, .ref h_this), (1, .ref h_a1), (2, .ref h_a2), (3, .ref h_a3)]) hx hb kdX5_addProduct_1 hl (by decide) rfl (fun ls hl => ?_)
  obtain ⟨r_26, hr_26, h⟩ := kb_o_s h
  refine klX5_addProduct_3 C0 hlocks hK hN hA (by decide) (by decide) h_this h_a1 h_a2 h_a3 a_this n_a1 n_a2 n_a3 this_taped this_code this_kind this_rate this_filled this_total this_bitAt this_k this_e1 this_du this_dv f_this_points f_a2 f_a3 100000 (0 : Int32) f_a1 r_26 hr_26 _ _ _ hP hD hS (lv_sub hl [1, 2, 3, 4, 0] rfl) (fun x4p3_24 f_a1p3_25 er_26 H locs ls hP hD hS hl => ?_)
  subst er_26
  obtain rfl := Option.some.inj h
  exact W.vret hx hb hr (fun t ht hW => ⟨⟨rfl, by rw [ht]; exact hP, va_K.moved hW.alike hK, hD⟩, hS.F ht⟩) hS.2.2 kdX5_addProduct_147

-- 444.ModuleKemModel.compress.lean.txt
abbrev kWX5_compress (cB cI cL cBB cII cSh : ClassId)   : va_W := []
def krX5_compress : Room := { frames := 0, cells := 0, slots := 0, locals := 0 }
set_option maxHeartbeats 4000000 in
set_option maxRecDepth 100000 in
theorem kcX5_compress (l : Launch) (D : va_G) (cB cI cL cBB cII cSh : ClassId)  (sz : Nat) (p1 : Int32) (p2 : Int32) (out : Int32) (h : kFX5_compress p1 p2 = some out) : Met l kyX5_compress kwX5_compress krX5_compress (kb_P D kCl (kb_T cB cI cL cBB cII cSh) [.int p1, .int p2] (kWX5_compress cB cI cL cBB cII cSh) sz) (kb_Q D kCl (kb_T cB cI cL cBB cII cSh) (va_A (kWX5_compress cB cI cL cBB cII cSh) sz) (some (.int out)) (kWX5_compress cB cI cL cBB cII cSh)) 0 0 (va_A (kWX5_compress cB cI cL cBB cII cSh) sz) := by
  refine Met.ofW (cc := prog_8_method_49_code) (maxL := 2) (ret := (some .int)) (by decide) rfl ?_
  intro p e s m args below meth c s₁ B hml hv
  obtain ⟨rfl, hsz, hP, hK, hN, hD0⟩ := hv
  have hx := B.exec
  have hb := B.bytes
  have hr := B.returns
  have hts0 := atoms_spec (ws := kwX5_compress) B.pre
  have hts : ∀ w ∈ kwA, w.before _ s = true := fun w h => hts0 w (List.mem_cons_of_mem _ h)
  have hown : s.vm.findClass kRX5 = some m.cls := findClass_of_methodNamed B.named
  have hlocks := B.notSynchronized
  subst hsz
  have hD := hD0.self (sz := s.heap.size)
  generalize hAe : va_A (kWX5_compress cB cI cL cBB cII cSh) s.heap.size = A at hD ⊢
  have hA : ∀ q : Nat, s.heap.size ≤ q → A q := fun q h => by rw [← hAe]; exact Or.inr h
  have hS : va_S A s.heap s.heap [] := va_S.rf
  have C0 : CallFix p m c prog_8_method_49_code 2 s _ kwA kRX5 := ⟨hx, hb, hml, hown, hts⟩
  have hl := lv_entry ([.int p1, .int p2]) (n := 2) (Nat.le_of_ble_eq_true rfl)
  rw [lg_entry_eq]
  generalize (lg_sl ([.int p1, .int p2]) ++ List.replicate (2 - (lg_sl ([.int p1, .int p2])).length) Slot.unset).toArray = ls at hl ⊢
  have hl : lv_has ls 2 [(0, .int p1), (1, .int p2)] := hl
  unfold kFX5_compress at h
  refine lv_ldc2 (v := 2) hx hb hown (hts _ km_907) kdX5_compress_0 ?_
  refine lv_iload_n hx hb kdX5_compress_3 rfl (lv_at hl 0 rfl) ?_
  refine lv_i2l (v := (p1.toInt64)) hx hb kdX5_compress_4 rfl ?_
  refine lv_lmul hx hb kdX5_compress_5 ?_
  refine lv_iload_n hx hb kdX5_compress_6 rfl (lv_at hl 1 rfl) ?_
  refine lv_lshl (v := (((2 : Int64) * (p1.toInt64)) <<< (p2.toInt64 &&& 63))) hx hb kdX5_compress_7 rfl ?_
  refine lv_ldc2 (v := 3329) hx hb hown (hts _ km_868) kdX5_compress_8 ?_
  refine lv_ladd hx hb kdX5_compress_11 ?_
  refine lv_ldc2 (v := 6658) hx hb hown (hts _ km_908) kdX5_compress_12 ?_
  refine lv_ldiv hx hb kdX5_compress_15 (by decide) ?_
  refine lv_l2i (v := ((((((2 : Int64) * (p1.toInt64)) <<< (p2.toInt64 &&& 63)) + (3329 : Int64)) / (6658 : Int64)).toInt32)) hx hb kdX5_compress_16 rfl ?_
  refine lv_iconst (v := 1) hx hb kdX5_compress_17 (by decide) ?_
  refine lv_iload_n hx hb kdX5_compress_18 rfl (lv_at hl 1 rfl) ?_
  refine lv_ishl hx hb kdX5_compress_19 ?_
  refine lv_iconst (v := 1) hx hb kdX5_compress_20 (by decide) ?_
  refine lv_isub hx hb kdX5_compress_21 ?_
  refine lv_iand hx hb kdX5_compress_22 ?_
  obtain rfl := Option.some.inj h
  exact W.iret (v := (((((((2 : Int64) * (p1.toInt64)) <<< (p2.toInt64 &&& 63)) + (3329 : Int64)) / (6658 : Int64)).toInt32) &&& (((1 : Int32) <<< (p2 &&& 31)) - (1 : Int32)))) hx hb hr (fun t ht hW => ⟨⟨rfl, by rw [ht]; exact hP, va_K.moved hW.alike hK, hD⟩, hS.F ht⟩) hS.2.2 kdX5_compress_23

-- 445.ModuleKemModel.expand.lean.txt
abbrev kWX5_expand (cB cI cL cBB cII cSh : ClassId)   : va_W := []
def krX5_expand : Room := { frames := 0, cells := 0, slots := 0, locals := 0 }
set_option maxHeartbeats 4000000 in
set_option maxRecDepth 100000 in
theorem kcX5_expand (l : Launch) (D : va_G) (cB cI cL cBB cII cSh : ClassId)  (sz : Nat) (p1 : Int32) (p2 : Int32) (out : Int32) (h : kFX5_expand p1 p2 = some out) : Met l kyX5_expand kwX5_expand krX5_expand (kb_P D kCl (kb_T cB cI cL cBB cII cSh) [.int p1, .int p2] (kWX5_expand cB cI cL cBB cII cSh) sz) (kb_Q D kCl (kb_T cB cI cL cBB cII cSh) (va_A (kWX5_expand cB cI cL cBB cII cSh) sz) (some (.int out)) (kWX5_expand cB cI cL cBB cII cSh)) 0 0 (va_A (kWX5_expand cB cI cL cBB cII cSh) sz) := by
  refine Met.ofW (cc := prog_8_method_50_code) (maxL := 2) (ret := (some .int)) (by decide) rfl ?_
  intro p e s m args below meth c s₁ B hml hv
  obtain ⟨rfl, hsz, hP, hK, hN, hD0⟩ := hv
  have hx := B.exec
  have hb := B.bytes
  have hr := B.returns
  have hts0 := atoms_spec (ws := kwX5_expand) B.pre
  have hts : ∀ w ∈ kwA, w.before _ s = true := fun w h => hts0 w (List.mem_cons_of_mem _ h)
  have hown : s.vm.findClass kRX5 = some m.cls := findClass_of_methodNamed B.named
  have hlocks := B.notSynchronized
  subst hsz
  have hD := hD0.self (sz := s.heap.size)
  generalize hAe : va_A (kWX5_expand cB cI cL cBB cII cSh) s.heap.size = A at hD ⊢
  have hA : ∀ q : Nat, s.heap.size ≤ q → A q := fun q h => by rw [← hAe]; exact Or.inr h
  have hS : va_S A s.heap s.heap [] := va_S.rf
  have C0 : CallFix p m c prog_8_method_50_code 2 s _ kwA kRX5 := ⟨hx, hb, hml, hown, hts⟩
  have hl := lv_entry ([.int p1, .int p2]) (n := 2) (Nat.le_of_ble_eq_true rfl)
  rw [lg_entry_eq]
  generalize (lg_sl ([.int p1, .int p2]) ++ List.replicate (2 - (lg_sl ([.int p1, .int p2])).length) Slot.unset).toArray = ls at hl ⊢
  have hl : lv_has ls 2 [(0, .int p1), (1, .int p2)] := hl
  unfold kFX5_expand at h
  refine lv_sipush (v := 6658) hx hb kdX5_expand_0 (by decide) ?_
  refine lv_iload_n hx hb kdX5_expand_3 rfl (lv_at hl 0 rfl) ?_
  refine lv_imul hx hb kdX5_expand_4 ?_
  refine lv_iconst (v := 1) hx hb kdX5_expand_5 (by decide) ?_
  refine lv_iload_n hx hb kdX5_expand_6 rfl (lv_at hl 1 rfl) ?_
  refine lv_ishl hx hb kdX5_expand_7 ?_
  refine lv_iadd hx hb kdX5_expand_8 ?_
  refine lv_iload_n hx hb kdX5_expand_9 rfl (lv_at hl 1 rfl) ?_
  refine lv_iconst (v := 1) hx hb kdX5_expand_10 (by decide) ?_
  refine lv_iadd hx hb kdX5_expand_11 ?_
  refine lv_ishr hx hb kdX5_expand_12 ?_
  obtain rfl := Option.some.inj h
  exact W.iret (v := ((((6658 : Int32) * p1) + ((1 : Int32) <<< (p2 &&& 31))) >>> ((p2 + (1 : Int32)) &&& 31))) hx hb hr (fun t ht hW => ⟨⟨rfl, by rw [ht]; exact hP, va_K.moved hW.alike hK, hD⟩, hS.F ht⟩) hS.2.2 kdX5_expand_13

-- 446.ModuleKem.Bits.pack.lean.txt
abbrev kWX6_pack (cB cI cL cBB cII cSh : ClassId) (h_a1 : Nat) (n_a1 : Nat) (h_a3 : Nat) (n_a3 : Nat) (f_a1 : Nat → Int32) (f_a3 : Nat → Int32) : va_W := [(h_a1, .inl (cI, n_a1, .inl f_a1)), (h_a3, .inl (cB, n_a3, .inl f_a3))]
def krX6_pack : Room := { frames := 0, cells := 0, slots := 0, locals := 0 }
set_option maxHeartbeats 4000000 in
set_option maxRecDepth 100000 in
theorem klX6_pack_38 {p : Program} {l : Launch} {e : Env} {s : State} {m : MethodId} {args : Array Value} {below : List Frame} {meth : Method} {c : Code} {cells slots : Nat} {Q : State → Prop} {D : va_G} {cB cI cL cBB cII cSh : ClassId} {A : Nat → Prop} (C0 : CallFix p m c prog_2_method_2_code 8 s args kwA kRX6) (hlocks : meth.locks = false) (hK : va_K D kCl (kb_T cB cI cL cBB cII cSh) s) (hN : kb_N s) (hA : ∀ q, s.heap.size ≤ q → A q) (hcR : cells ≤ krX6_pack.cells) (hsR : slots ≤ krX6_pack.slots) (h_a1 h_a3 : Nat) (p2 : Int32) (x7p12 : Int32) (n_a1 : Nat) (n_a3 : Nat) (f_a1 : Nat → Int32) :
    ∀ (fuel : Nat) (x4p38 : Int32) (x5p38 : Int32) (x6p38 : Int32) (f_a3p38 : Nat → Int32) (r : Int32 × Int32 × Int32 × (Nat → Int32)), kb_w (fun u : Int32 × Int32 × Int32 × (Nat → Int32) => kSX6_pack_38 n_a3 u.1 u.2.1 u.2.2.1 u.2.2.2) fuel (x4p38, x5p38, x6p38, f_a3p38) = some r → ∀ (H : Heap) (locs : List Loc) (ls : Array Slot), va_P D kCl (kWX6_pack cB cI cL cBB cII cSh h_a1 n_a1 h_a3 n_a3 f_a1 f_a3p38) H → va_D A (kWX6_pack cB cI cL cBB cII cSh h_a1 n_a1 h_a3 n_a3 f_a1 f_a3p38) → va_S A s.heap H locs → lv_has ls 8 [(0, .ref h_a1), (1, .int p2), (2, .ref h_a3), (4, .int x4p38), (5, .int x5p38), (6, .int x6p38), (7, .int x7p12)] → (∀ (x4p38' : Int32) (x5p38' : Int32) (x6p38' : Int32) (f_a3p38' : Nat → Int32), r = (x4p38', x5p38', x6p38', f_a3p38') → ∀ (H : Heap) (locs : List Loc) (ls : Array Slot), va_P D kCl (kWX6_pack cB cI cL cBB cII cSh h_a1 n_a1 h_a3 n_a3 f_a1 f_a3p38') H → va_D A (kWX6_pack cB cI cL cBB cII cSh h_a1 n_a1 h_a3 n_a3 f_a1 f_a3p38') → va_S A s.heap H locs → lv_has ls 8 [(0, .ref h_a1), (1, .int p2), (2, .ref h_a3), (4, .int x4p38'), (5, .int x5p38'), (6, .int x6p38'), (7, .int x7p12)] → W p l e krX6_pack s m args below meth c H locs cells slots Q (F0 m 68 ls [])) → W p l e krX6_pack s m args below meth c H locs cells slots Q (F0 m 38 ls []) := by
  obtain ⟨hx, hb, hml, hown, hts⟩ := id C0
  intro fuel
  induction fuel with
  | zero =>
    intro x4p38 x5p38 x6p38 f_a3p38 r h
    exact absurd h (kb_w_z _ _ _)
  | succ fuel ih =>
    intro x4p38 x5p38 x6p38 f_a3p38 r h H locs ls hP hD hS hl hk0
    obtain ⟨o, h, ho⟩ := kb_w_s h
    have h : kSX6_pack_38 n_a3 x4p38 x5p38 x6p38 f_a3p38 = some o := h
    unfold kSX6_pack_38 at h
    refine lv_iload hx hb kdX6_pack_38 (lv_at hl 4 rfl) ?_
    refine lv_bipush (v := 8) hx hb kdX6_pack_40 (by decide) ?_
    refine lv_icmp_lt (tgt := 68) hx hb kdX6_pack_42 (by decide) (fun c_5 => ?_) (fun c_5 => ?_)
    · have h := kb_b_t c_5 h
      obtain rfl := Option.some.inj h
      exact hk0 x4p38 x5p38 x6p38 f_a3p38 ho.symm _ _ _ hP hD hS (lv_sub hl [0, 1, 2, 3, 4, 5, 6] rfl)
    · have h := kb_b_f c_5 h
      refine lv_aload_n hx hb kdX6_pack_45 rfl (lv_at hl 2 rfl) ?_
      refine lv_iload hx hb kdX6_pack_46 (lv_at hl 5 rfl) ?_
      refine lv_iload hx hb kdX6_pack_48 (lv_at hl 3 rfl) ?_
      refine lv_i2b (v := (x4p38.toInt8.toInt32)) hx hb kdX6_pack_50 rfl ?_
      obtain ⟨g_6, h⟩ := kb_g_s h
      refine va_bast hx hb hK hP hD hS 1 0 rfl rfl (kb_in_v g_6) kdX6_pack_51 (fun H locs hP hD hS => ?_)
      obtain ⟨f_7, ef_7⟩ : ∃ y, y = upd f_a3p38 x6p38.toNatClampNeg (vp_nar .byte (x4p38.toInt8.toInt32)) := ⟨_, rfl⟩
      have h := kb_n_s ef_7 h
      have hP : va_P D kCl (kWX6_pack cB cI cL cBB cII cSh h_a1 n_a1 h_a3 n_a3 f_a1 f_7) H := by rw [ef_7]; exact hP
      have hD : va_D A (kWX6_pack cB cI cL cBB cII cSh h_a1 n_a1 h_a3 n_a3 f_a1 f_7) := by rw [ef_7]; exact hD
      obtain ⟨x6_8, ex6_8⟩ : ∃ y : Int32, y = x6p38 + Int32.ofInt 1 := ⟨_, rfl⟩
      have h := kb_n_s ex6_8 h
      refine lv_iinc (v := x6_8) (lv' := [(6, .int x6_8), (0, .ref h_a1), (1, .int p2), (2, .ref h_a3), (4, .int x4p38), (5, .int x5p38), (7, .int x7p12)]) hx hb kdX6_pack_52 hl (k := 5) rfl ex6_8.symm (by decide) rfl (fun ls hl => ?_)
      refine lv_iload hx hb kdX6_pack_55 (lv_at hl 4 rfl) ?_
      refine lv_bipush (v := 8) hx hb kdX6_pack_57 (by decide) ?_
      refine lv_iushr (v := ((x4p38.toUInt32 >>> ((8 : Int32).toUInt32 &&& Int32.toUInt32 31)).toInt32)) hx hb kdX6_pack_59 rfl ?_
      refine lv_topi (fun x4_9 ex4_9 => ?_)
      have h := kb_n_s ex4_9 h
      refine lv_istore (lv' := [(4, .int x4_9), (6, .int x6_8), (0, .ref h_a1), (1, .int p2), (2, .ref h_a3), (5, .int x5p38), (7, .int x7p12)]) hx hb kdX6_pack_60 hl (by decide) rfl (fun ls hl => ?_)
      obtain ⟨x5_10, ex5_10⟩ : ∃ y : Int32, y = x5p38 + Int32.ofInt (-8) := ⟨_, rfl⟩
      have h := kb_n_s ex5_10 h
      refine lv_iinc (v := x5_10) (lv' := [(5, .int x5_10), (4, .int x4_9), (6, .int x6_8), (0, .ref h_a1), (1, .int p2), (2, .ref h_a3), (7, .int x7p12)]) hx hb kdX6_pack_62 hl (k := 5) rfl ex5_10.symm (by decide) rfl (fun ls hl => ?_)
      refine lv_goto (tgt := 38) hx hb kdX6_pack_65 (by decide) ?_
      obtain rfl := Option.some.inj h
      exact ih x4_9 x5_10 x6_8 f_7 r ho _ _ _ hP hD hS (lv_sub hl [3, 4, 5, 1, 0, 2, 6] rfl) hk0
set_option maxHeartbeats 4000000 in
set_option maxRecDepth 100000 in
theorem klX6_pack_12 {p : Program} {l : Launch} {e : Env} {s : State} {m : MethodId} {args : Array Value} {below : List Frame} {meth : Method} {c : Code} {cells slots : Nat} {Q : State → Prop} {D : va_G} {cB cI cL cBB cII cSh : ClassId} {A : Nat → Prop} (C0 : CallFix p m c prog_2_method_2_code 8 s args kwA kRX6) (hlocks : meth.locks = false) (hK : va_K D kCl (kb_T cB cI cL cBB cII cSh) s) (hN : kb_N s) (hA : ∀ q, s.heap.size ≤ q → A q) (hcR : cells ≤ krX6_pack.cells) (hsR : slots ≤ krX6_pack.slots) (h_a1 h_a3 : Nat) (p2 : Int32) (n_a1 : Nat) (n_a3 : Nat) (f_a1 : Nat → Int32) :
    ∀ (fuel : Nat) (x4p12 : Int32) (x5p12 : Int32) (x6p12 : Int32) (x7p12 : Int32) (f_a3p12 : Nat → Int32) (r : Int32 × Int32 × Int32 × Int32 × (Nat → Int32)), kb_w (fun u : Int32 × Int32 × Int32 × Int32 × (Nat → Int32) => kSX6_pack_12 p2 n_a1 n_a3 f_a1 u.1 u.2.1 u.2.2.1 u.2.2.2.1 u.2.2.2.2) fuel (x4p12, x5p12, x6p12, x7p12, f_a3p12) = some r → ∀ (H : Heap) (locs : List Loc) (ls : Array Slot), va_P D kCl (kWX6_pack cB cI cL cBB cII cSh h_a1 n_a1 h_a3 n_a3 f_a1 f_a3p12) H → va_D A (kWX6_pack cB cI cL cBB cII cSh h_a1 n_a1 h_a3 n_a3 f_a1 f_a3p12) → va_S A s.heap H locs → lv_has ls 8 [(0, .ref h_a1), (1, .int p2), (2, .ref h_a3), (4, .int x4p12), (5, .int x5p12), (6, .int x6p12), (7, .int x7p12)] → (∀ (x4p12' : Int32) (x5p12' : Int32) (x6p12' : Int32) (x7p12' : Int32) (f_a3p12' : Nat → Int32), r = (x4p12', x5p12', x6p12', x7p12', f_a3p12') → ∀ (H : Heap) (locs : List Loc) (ls : Array Slot), va_P D kCl (kWX6_pack cB cI cL cBB cII cSh h_a1 n_a1 h_a3 n_a3 f_a1 f_a3p12') H → va_D A (kWX6_pack cB cI cL cBB cII cSh h_a1 n_a1 h_a3 n_a3 f_a1 f_a3p12') → va_S A s.heap H locs → lv_has ls 8 [(0, .ref h_a1), (1, .int p2), (2, .ref h_a3), (4, .int x4p12'), (5, .int x5p12'), (6, .int x6p12'), (7, .int x7p12')] → W p l e krX6_pack s m args below meth c H locs cells slots Q (F0 m 74 ls [])) → W p l e krX6_pack s m args below meth c H locs cells slots Q (F0 m 12 ls []) := by
  obtain ⟨hx, hb, hml, hown, hts⟩ := id C0
  intro fuel
  induction fuel with
  | zero =>
    intro x4p12 x5p12 x6p12 x7p12 f_a3p12 r h
    exact absurd h (kb_w_z _ _ _)
  | succ fuel ih =>
    intro x4p12 x5p12 x6p12 x7p12 f_a3p12 r h H locs ls hP hD hS hl hk0
    obtain ⟨o, h, ho⟩ := kb_w_s h
    have h : kSX6_pack_12 p2 n_a1 n_a3 f_a1 x4p12 x5p12 x6p12 x7p12 f_a3p12 = some o := h
    unfold kSX6_pack_12 at h
    refine lv_iload hx hb kdX6_pack_12 (lv_at hl 6 rfl) ?_
    refine lv_sipush (v := 256) hx hb kdX6_pack_14 (by decide) ?_
    refine lv_icmp_ge (tgt := 74) hx hb kdX6_pack_17 (by decide) (fun c_1 => ?_) (fun c_1 => ?_)
    · have h := kb_b_t c_1 h
      obtain rfl := Option.some.inj h
      exact hk0 x4p12 x5p12 x6p12 x7p12 f_a3p12 ho.symm _ _ _ hP hD hS (lv_sub hl [0, 1, 2, 3, 4, 5, 6] rfl)
    · have h := kb_b_f c_1 h
      refine lv_iload hx hb kdX6_pack_20 (lv_at hl 3 rfl) ?_
      refine lv_aload_n hx hb kdX6_pack_22 rfl (lv_at hl 0 rfl) ?_
      refine lv_iload hx hb kdX6_pack_23 (lv_at hl 6 rfl) ?_
      obtain ⟨g_2, h⟩ := kb_g_s h
      refine va_iald hx hb hK hP 0 1 rfl rfl (kb_in_v g_2) kdX6_pack_25 ?_
      refine lv_iload hx hb kdX6_pack_26 (lv_at hl 4 rfl) ?_
      refine lv_ishl hx hb kdX6_pack_28 ?_
      refine lv_ior hx hb kdX6_pack_29 ?_
      refine lv_topi (fun x4_3 ex4_3 => ?_)
      have h := kb_n_s ex4_3 h
      refine lv_istore (lv' := [(4, .int x4_3), (0, .ref h_a1), (1, .int p2), (2, .ref h_a3), (5, .int x5p12), (6, .int x6p12), (7, .int x7p12)]) hx hb kdX6_pack_30 hl (by decide) rfl (fun ls hl => ?_)
      refine lv_iload hx hb kdX6_pack_32 (lv_at hl 4 rfl) ?_
      refine lv_iload_n hx hb kdX6_pack_34 rfl (lv_at hl 2 rfl) ?_
      refine lv_iadd hx hb kdX6_pack_35 ?_
      refine lv_topi (fun x5_4 ex5_4 => ?_)
      have h := kb_n_s ex5_4 h
      refine lv_istore (lv' := [(5, .int x5_4), (4, .int x4_3), (0, .ref h_a1), (1, .int p2), (2, .ref h_a3), (6, .int x6p12), (7, .int x7p12)]) hx hb kdX6_pack_36 hl (by decide) rfl (fun ls hl => ?_)
      obtain ⟨r_16, hr_16, h⟩ := kb_o_s h
      refine klX6_pack_38 C0 hlocks hK hN hA hcR hsR h_a1 h_a3 p2 x7p12 n_a1 n_a3 f_a1 100000 x4_3 x5_4 x6p12 f_a3p12 r_16 hr_16 _ _ _ hP hD hS (lv_sub hl [2, 3, 4, 1, 0, 5, 6] rfl) (fun x4p38_11 x5p38_12 x6p38_13 f_a3p38_14 er_16 H locs ls hP hD hS hl => ?_)
      subst er_16
      obtain ⟨x7_15, ex7_15⟩ : ∃ y : Int32, y = x7p12 + Int32.ofInt 1 := ⟨_, rfl⟩
      have h := kb_n_s ex7_15 h
      refine lv_iinc (v := x7_15) (lv' := [(7, .int x7_15), (0, .ref h_a1), (1, .int p2), (2, .ref h_a3), (4, .int x4p38_11), (5, .int x5p38_12), (6, .int x6p38_13)]) hx hb kdX6_pack_68 hl (k := 6) rfl ex7_15.symm (by decide) rfl (fun ls hl => ?_)
      refine lv_goto (tgt := 12) hx hb kdX6_pack_71 (by decide) ?_
      obtain rfl := Option.some.inj h
      exact ih x4p38_11 x5p38_12 x6p38_13 x7_15 f_a3p38_14 r ho _ _ _ hP hD hS (lv_sub hl [1, 2, 3, 4, 5, 6, 0] rfl) hk0
set_option maxHeartbeats 4000000 in
set_option maxRecDepth 100000 in
theorem kcX6_pack (l : Launch) (D : va_G) (cB cI cL cBB cII cSh : ClassId) (h_a1 h_a3 : Nat) (sz : Nat) (p2 : Int32) (p4 : Int32) (n_a1 : Nat) (n_a3 : Nat) (f_a1 : Nat → Int32) (f_a3 : Nat → Int32) (out : (Nat → Int32)) (h : kFX6_pack p2 p4 n_a1 n_a3 f_a1 f_a3 = some out) : Met l kyX6_pack kwX6_pack krX6_pack (kb_P D kCl (kb_T cB cI cL cBB cII cSh) [.ref h_a1, .int p2, .ref h_a3, .int p4] (kWX6_pack cB cI cL cBB cII cSh h_a1 n_a1 h_a3 n_a3 f_a1 f_a3) sz) (kb_Q D kCl (kb_T cB cI cL cBB cII cSh) (va_A (kWX6_pack cB cI cL cBB cII cSh h_a1 n_a1 h_a3 n_a3 f_a1 f_a3) sz) none (kWX6_pack cB cI cL cBB cII cSh h_a1 n_a1 h_a3 n_a3 f_a1 out)) 0 0 (va_A (kWX6_pack cB cI cL cBB cII cSh h_a1 n_a1 h_a3 n_a3 f_a1 f_a3) sz) := by
  refine Met.ofW (cc := prog_2_method_2_code) (maxL := 8) (ret := none) (by decide) rfl ?_
  intro p e s m args below meth c s₁ B hml hv
  obtain ⟨rfl, hsz, hP, hK, hN, hD0⟩ := hv
  have hx := B.exec
  have hb := B.bytes
  have hr := B.returns
  have hts0 := atoms_spec (ws := kwX6_pack) B.pre
  have hts : ∀ w ∈ kwA, w.before _ s = true := fun w h => hts0 w (List.mem_cons_of_mem _ h)
  have hown : s.vm.findClass kRX6 = some m.cls := findClass_of_methodNamed B.named
  have hlocks := B.notSynchronized
  subst hsz
  have hD := hD0.self (sz := s.heap.size)
  generalize hAe : va_A (kWX6_pack cB cI cL cBB cII cSh h_a1 n_a1 h_a3 n_a3 f_a1 f_a3) s.heap.size = A at hD ⊢
  have hA : ∀ q : Nat, s.heap.size ≤ q → A q := fun q h => by rw [← hAe]; exact Or.inr h
  have hS : va_S A s.heap s.heap [] := va_S.rf
  have C0 : CallFix p m c prog_2_method_2_code 8 s _ kwA kRX6 := ⟨hx, hb, hml, hown, hts⟩
  have hl := lv_entry ([.ref h_a1, .int p2, .ref h_a3, .int p4]) (n := 8) (Nat.le_of_ble_eq_true rfl)
  rw [lg_entry_eq]
  generalize (lg_sl ([.ref h_a1, .int p2, .ref h_a3, .int p4]) ++ List.replicate (8 - (lg_sl ([.ref h_a1, .int p2, .ref h_a3, .int p4])).length) Slot.unset).toArray = ls at hl ⊢
  have hl : lv_has ls 8 [(0, .ref h_a1), (1, .int p2), (2, .ref h_a3), (3, .int p4)] := hl
  unfold kFX6_pack at h
  refine lv_iconst (v := 0) hx hb kdX6_pack_0 (by decide) ?_
  refine lv_istore (lv' := [(4, .int (0 : Int32)), (0, .ref h_a1), (1, .int p2), (2, .ref h_a3), (3, .int p4)]) hx hb kdX6_pack_1 hl (by decide) rfl (fun ls hl => ?_)
  refine lv_iconst (v := 0) hx hb kdX6_pack_3 (by decide) ?_
  refine lv_istore (lv' := [(5, .int (0 : Int32)), (4, .int (0 : Int32)), (0, .ref h_a1), (1, .int p2), (2, .ref h_a3), (3, .int p4)]) hx hb kdX6_pack_4 hl (by decide) rfl (fun ls hl => ?_)
  refine lv_iload_n hx hb kdX6_pack_6 rfl (lv_at hl 5 rfl) ?_
  refine lv_istore (lv' := [(6, .int p4), (5, .int (0 : Int32)), (4, .int (0 : Int32)), (0, .ref h_a1), (1, .int p2), (2, .ref h_a3), (3, .int p4)]) hx hb kdX6_pack_7 hl (by decide) rfl (fun ls hl => ?_)
  refine lv_iconst (v := 0) hx hb kdX6_pack_9 (by decide) ?_
  refine lv_istore (lv' := [(7, .int (0 : Int32)), (6, .int p4), (5, .int (0 : Int32)), (4, .int (0 : Int32)), (0, .ref h_a1), (1, .int p2), (2, .ref h_a3), (3, .int p4)]) hx hb kdX6_pack_10 hl (by decide) rfl (fun ls hl => ?_)
  obtain ⟨r_22, hr_22, h⟩ := kb_o_s h
  refine klX6_pack_12 C0 hlocks hK hN hA (by decide) (by decide) h_a1 h_a3 p2 n_a1 n_a3 f_a1 100000 (0 : Int32) (0 : Int32) p4 (0 : Int32) f_a3 r_22 hr_22 _ _ _ hP hD hS (lv_sub hl [4, 5, 6, 3, 2, 1, 0] rfl) (fun x4p12_17 x5p12_18 x6p12_19 x7p12_20 f_a3p12_21 er_22 H locs ls hP hD hS hl => ?_)
  subst er_22
  obtain rfl := Option.some.inj h
  exact W.vret hx hb hr (fun t ht hW => ⟨⟨rfl, by rw [ht]; exact hP, va_K.moved hW.alike hK, hD⟩, hS.F ht⟩) hS.2.2 kdX6_pack_74

-- 447.ModuleKem.Bits.unpack.lean.txt
abbrev kWX6_unpack (cB cI cL cBB cII cSh : ClassId) (h_a1 : Nat) (n_a1 : Nat) (h_a4 : Nat) (n_a4 : Nat) (f_a1 : Nat → Int32) (f_a4 : Nat → Int32) : va_W := [(h_a1, .inl (cB, n_a1, .inl f_a1)), (h_a4, .inl (cI, n_a4, .inl f_a4))]
def krX6_unpack : Room := { frames := 0, cells := 0, slots := 0, locals := 0 }
set_option maxHeartbeats 4000000 in
set_option maxRecDepth 100000 in
theorem klX6_unpack_20 {p : Program} {l : Launch} {e : Env} {s : State} {m : MethodId} {args : Array Value} {below : List Frame} {meth : Method} {c : Code} {cells slots : Nat} {Q : State → Prop} {D : va_G} {cB cI cL cBB cII cSh : ClassId} {A : Nat → Prop} (C0 : CallFix p m c prog_2_method_3_code 8 s args kwA kRX6) (hlocks : meth.locks = false) (hK : va_K D kCl (kb_T cB cI cL cBB cII cSh) s) (hN : kb_N s) (hA : ∀ q, s.heap.size ≤ q → A q) (hcR : cells ≤ krX6_unpack.cells) (hsR : slots ≤ krX6_unpack.slots) (h_a1 h_a4 : Nat) (p3 : Int32) (x7p12 : Int32) (n_a1 : Nat) (n_a4 : Nat) (f_a1 : Nat → Int32) (f_a4p12 : Nat → Int32) :
    ∀ (fuel : Nat) (x4p20 : Int32) (x5p20 : Int32) (x6p20 : Int32) (r : Int32 × Int32 × Int32), kb_w (fun u : Int32 × Int32 × Int32 => kSX6_unpack_20 p3 n_a1 f_a1 u.1 u.2.1 u.2.2) fuel (x4p20, x5p20, x6p20) = some r → ∀ (H : Heap) (locs : List Loc) (ls : Array Slot), va_P D kCl (kWX6_unpack cB cI cL cBB cII cSh h_a1 n_a1 h_a4 n_a4 f_a1 f_a4p12) H → va_D A (kWX6_unpack cB cI cL cBB cII cSh h_a1 n_a1 h_a4 n_a4 f_a1 f_a4p12) → va_S A s.heap H locs → lv_has ls 8 [(0, .ref h_a1), (2, .int p3), (3, .ref h_a4), (4, .int x4p20), (5, .int x5p20), (6, .int x6p20), (7, .int x7p12)] → (∀ (x4p20' : Int32) (x5p20' : Int32) (x6p20' : Int32), r = (x4p20', x5p20', x6p20') → ∀ (H : Heap) (locs : List Loc) (ls : Array Slot), va_P D kCl (kWX6_unpack cB cI cL cBB cII cSh h_a1 n_a1 h_a4 n_a4 f_a1 f_a4p12) H → va_D A (kWX6_unpack cB cI cL cBB cII cSh h_a1 n_a1 h_a4 n_a4 f_a1 f_a4p12) → va_S A s.heap H locs → lv_has ls 8 [(0, .ref h_a1), (2, .int p3), (3, .ref h_a4), (4, .int x4p20'), (5, .int x5p20'), (6, .int x6p20'), (7, .int x7p12)] → W p l e krX6_unpack s m args below meth c H locs cells slots Q (F0 m 51 ls [])) → W p l e krX6_unpack s m args below meth c H locs cells slots Q (F0 m 20 ls []) := by
  obtain ⟨hx, hb, hml, hown, hts⟩ := id C0
  intro fuel
  induction fuel with
  | zero =>
    intro x4p20 x5p20 x6p20 r h
    exact absurd h (kb_w_z _ _ _)
  | succ fuel ih =>
    intro x4p20 x5p20 x6p20 r h H locs ls hP hD hS hl hk0
    obtain ⟨o, h, ho⟩ := kb_w_s h
    have h : kSX6_unpack_20 p3 n_a1 f_a1 x4p20 x5p20 x6p20 = some o := h
    unfold kSX6_unpack_20 at h
    refine lv_iload hx hb kdX6_unpack_20 (lv_at hl 4 rfl) ?_
    refine lv_iload_n hx hb kdX6_unpack_22 rfl (lv_at hl 1 rfl) ?_
    refine lv_icmp_ge (tgt := 51) hx hb kdX6_unpack_23 (by decide) (fun c_2 => ?_) (fun c_2 => ?_)
    · have h := kb_b_t c_2 h
      obtain rfl := Option.some.inj h
      exact hk0 x4p20 x5p20 x6p20 ho.symm _ _ _ hP hD hS (lv_sub hl [0, 1, 2, 3, 4, 5, 6] rfl)
    · have h := kb_b_f c_2 h
      refine lv_iload hx hb kdX6_unpack_26 (lv_at hl 3 rfl) ?_
      refine lv_aload_n hx hb kdX6_unpack_28 rfl (lv_at hl 0 rfl) ?_
      refine lv_iload hx hb kdX6_unpack_29 (lv_at hl 5 rfl) ?_
      obtain ⟨g_3, h⟩ := kb_g_s h
      refine va_bald hx hb hK hP 0 0 rfl rfl (kb_in_v g_3) kdX6_unpack_31 ?_
      refine lv_sipush (v := 255) hx hb kdX6_unpack_32 (by decide) ?_
      refine lv_iand hx hb kdX6_unpack_35 ?_
      refine lv_iload hx hb kdX6_unpack_36 (lv_at hl 4 rfl) ?_
      refine lv_ishl hx hb kdX6_unpack_38 ?_
      refine lv_ior hx hb kdX6_unpack_39 ?_
      refine lv_topi (fun x4_4 ex4_4 => ?_)
      have h := kb_n_s ex4_4 h
      refine lv_istore (lv' := [(4, .int x4_4), (0, .ref h_a1), (2, .int p3), (3, .ref h_a4), (5, .int x5p20), (6, .int x6p20), (7, .int x7p12)]) hx hb kdX6_unpack_40 hl (by decide) rfl (fun ls hl => ?_)
      obtain ⟨x6_5, ex6_5⟩ : ∃ y : Int32, y = x6p20 + Int32.ofInt 1 := ⟨_, rfl⟩
      have h := kb_n_s ex6_5 h
      refine lv_iinc (v := x6_5) (lv' := [(6, .int x6_5), (4, .int x4_4), (0, .ref h_a1), (2, .int p3), (3, .ref h_a4), (5, .int x5p20), (7, .int x7p12)]) hx hb kdX6_unpack_42 hl (k := 5) rfl ex6_5.symm (by decide) rfl (fun ls hl => ?_)
      obtain ⟨x5_6, ex5_6⟩ : ∃ y : Int32, y = x5p20 + Int32.ofInt 8 := ⟨_, rfl⟩
      have h := kb_n_s ex5_6 h
      refine lv_iinc (v := x5_6) (lv' := [(5, .int x5_6), (6, .int x6_5), (4, .int x4_4), (0, .ref h_a1), (2, .int p3), (3, .ref h_a4), (7, .int x7p12)]) hx hb kdX6_unpack_45 hl (k := 5) rfl ex5_6.symm (by decide) rfl (fun ls hl => ?_)
      refine lv_goto (tgt := 20) hx hb kdX6_unpack_48 (by decide) ?_
      obtain rfl := Option.some.inj h
      exact ih x4_4 x5_6 x6_5 r ho _ _ _ hP hD hS (lv_sub hl [3, 4, 5, 2, 0, 1, 6] rfl) hk0
set_option maxHeartbeats 4000000 in
set_option maxRecDepth 100000 in
theorem klX6_unpack_12 {p : Program} {l : Launch} {e : Env} {s : State} {m : MethodId} {args : Array Value} {below : List Frame} {meth : Method} {c : Code} {cells slots : Nat} {Q : State → Prop} {D : va_G} {cB cI cL cBB cII cSh : ClassId} {A : Nat → Prop} (C0 : CallFix p m c prog_2_method_3_code 8 s args kwA kRX6) (hlocks : meth.locks = false) (hK : va_K D kCl (kb_T cB cI cL cBB cII cSh) s) (hN : kb_N s) (hA : ∀ q, s.heap.size ≤ q → A q) (hcR : cells ≤ krX6_unpack.cells) (hsR : slots ≤ krX6_unpack.slots) (h_a1 h_a4 : Nat) (p3 : Int32) (n_a1 : Nat) (n_a4 : Nat) (f_a1 : Nat → Int32) :
    ∀ (fuel : Nat) (x4p12 : Int32) (x5p12 : Int32) (x6p12 : Int32) (x7p12 : Int32) (f_a4p12 : Nat → Int32) (r : Int32 × Int32 × Int32 × Int32 × (Nat → Int32)), kb_w (fun u : Int32 × Int32 × Int32 × Int32 × (Nat → Int32) => kSX6_unpack_12 p3 n_a1 n_a4 f_a1 u.1 u.2.1 u.2.2.1 u.2.2.2.1 u.2.2.2.2) fuel (x4p12, x5p12, x6p12, x7p12, f_a4p12) = some r → ∀ (H : Heap) (locs : List Loc) (ls : Array Slot), va_P D kCl (kWX6_unpack cB cI cL cBB cII cSh h_a1 n_a1 h_a4 n_a4 f_a1 f_a4p12) H → va_D A (kWX6_unpack cB cI cL cBB cII cSh h_a1 n_a1 h_a4 n_a4 f_a1 f_a4p12) → va_S A s.heap H locs → lv_has ls 8 [(0, .ref h_a1), (2, .int p3), (3, .ref h_a4), (4, .int x4p12), (5, .int x5p12), (6, .int x6p12), (7, .int x7p12)] → (∀ (x4p12' : Int32) (x5p12' : Int32) (x6p12' : Int32) (x7p12' : Int32) (f_a4p12' : Nat → Int32), r = (x4p12', x5p12', x6p12', x7p12', f_a4p12') → ∀ (H : Heap) (locs : List Loc) (ls : Array Slot), va_P D kCl (kWX6_unpack cB cI cL cBB cII cSh h_a1 n_a1 h_a4 n_a4 f_a1 f_a4p12') H → va_D A (kWX6_unpack cB cI cL cBB cII cSh h_a1 n_a1 h_a4 n_a4 f_a1 f_a4p12') → va_S A s.heap H locs → lv_has ls 8 [(0, .ref h_a1), (2, .int p3), (3, .ref h_a4), (4, .int x4p12'), (5, .int x5p12'), (6, .int x6p12'), (7, .int x7p12')] → W p l e krX6_unpack s m args below meth c H locs cells slots Q (F0 m 81 ls [])) → W p l e krX6_unpack s m args below meth c H locs cells slots Q (F0 m 12 ls []) := by
  obtain ⟨hx, hb, hml, hown, hts⟩ := id C0
  intro fuel
  induction fuel with
  | zero =>
    intro x4p12 x5p12 x6p12 x7p12 f_a4p12 r h
    exact absurd h (kb_w_z _ _ _)
  | succ fuel ih =>
    intro x4p12 x5p12 x6p12 x7p12 f_a4p12 r h H locs ls hP hD hS hl hk0
    obtain ⟨o, h, ho⟩ := kb_w_s h
    have h : kSX6_unpack_12 p3 n_a1 n_a4 f_a1 x4p12 x5p12 x6p12 x7p12 f_a4p12 = some o := h
    unfold kSX6_unpack_12 at h
    refine lv_iload hx hb kdX6_unpack_12 (lv_at hl 6 rfl) ?_
    refine lv_sipush (v := 256) hx hb kdX6_unpack_14 (by decide) ?_
    refine lv_icmp_ge (tgt := 81) hx hb kdX6_unpack_17 (by decide) (fun c_1 => ?_) (fun c_1 => ?_)
    · have h := kb_b_t c_1 h
      obtain rfl := Option.some.inj h
      exact hk0 x4p12 x5p12 x6p12 x7p12 f_a4p12 ho.symm _ _ _ hP hD hS (lv_sub hl [0, 1, 2, 3, 4, 5, 6] rfl)
    · have h := kb_b_f c_1 h
      obtain ⟨r_15, hr_15, h⟩ := kb_o_s h
      refine klX6_unpack_20 C0 hlocks hK hN hA hcR hsR h_a1 h_a4 p3 x7p12 n_a1 n_a4 f_a1 f_a4p12 100000 x4p12 x5p12 x6p12 r_15 hr_15 _ _ _ hP hD hS (lv_sub hl [0, 1, 2, 3, 4, 5, 6] rfl) (fun x4p20_7 x5p20_8 x6p20_9 er_15 H locs ls hP hD hS hl => ?_)
      subst er_15
      refine lv_aload_n hx hb kdX6_unpack_51 rfl (lv_at hl 2 rfl) ?_
      refine lv_iload hx hb kdX6_unpack_52 (lv_at hl 6 rfl) ?_
      refine lv_iload hx hb kdX6_unpack_54 (lv_at hl 3 rfl) ?_
      refine lv_iconst (v := 1) hx hb kdX6_unpack_56 (by decide) ?_
      refine lv_iload_n hx hb kdX6_unpack_57 rfl (lv_at hl 1 rfl) ?_
      refine lv_ishl hx hb kdX6_unpack_58 ?_
      refine lv_iconst (v := 1) hx hb kdX6_unpack_59 (by decide) ?_
      refine lv_isub hx hb kdX6_unpack_60 ?_
      refine lv_iand hx hb kdX6_unpack_61 ?_
      obtain ⟨g_10, h⟩ := kb_g_s h
      refine va_iast hx hb hK hP hD hS 1 1 rfl rfl (kb_in_v g_10) kdX6_unpack_62 (fun H locs hP hD hS => ?_)
      obtain ⟨f_11, ef_11⟩ : ∃ y, y = upd f_a4p12 x7p12.toNatClampNeg (x4p20_7 &&& (((1 : Int32) <<< (p3 &&& 31)) - (1 : Int32))) := ⟨_, rfl⟩
      have h := kb_n_s ef_11 h
      have hP : va_P D kCl (kWX6_unpack cB cI cL cBB cII cSh h_a1 n_a1 h_a4 n_a4 f_a1 f_11) H := by rw [ef_11]; exact hP
      have hD : va_D A (kWX6_unpack cB cI cL cBB cII cSh h_a1 n_a1 h_a4 n_a4 f_a1 f_11) := by rw [ef_11]; exact hD
      refine lv_iload hx hb kdX6_unpack_63 (lv_at hl 3 rfl) ?_
      refine lv_iload_n hx hb kdX6_unpack_65 rfl (lv_at hl 1 rfl) ?_
      refine lv_iushr (v := ((x4p20_7.toUInt32 >>> (p3.toUInt32 &&& Int32.toUInt32 31)).toInt32)) hx hb kdX6_unpack_66 rfl ?_
      refine lv_topi (fun x4_12 ex4_12 => ?_)
      have h := kb_n_s ex4_12 h
      refine lv_istore (lv' := [(4, .int x4_12), (0, .ref h_a1), (2, .int p3), (3, .ref h_a4), (5, .int x5p20_8), (6, .int x6p20_9), (7, .int x7p12)]) hx hb kdX6_unpack_67 hl (by decide) rfl (fun ls hl => ?_)
      refine lv_iload hx hb kdX6_unpack_69 (lv_at hl 4 rfl) ?_
      refine lv_iload_n hx hb kdX6_unpack_71 rfl (lv_at hl 2 rfl) ?_
      refine lv_isub hx hb kdX6_unpack_72 ?_
      refine lv_topi (fun x5_13 ex5_13 => ?_)
      have h := kb_n_s ex5_13 h
      refine lv_istore (lv' := [(5, .int x5_13), (4, .int x4_12), (0, .ref h_a1), (2, .int p3), (3, .ref h_a4), (6, .int x6p20_9), (7, .int x7p12)]) hx hb kdX6_unpack_73 hl (by decide) rfl (fun ls hl => ?_)
      obtain ⟨x7_14, ex7_14⟩ : ∃ y : Int32, y = x7p12 + Int32.ofInt 1 := ⟨_, rfl⟩
      have h := kb_n_s ex7_14 h
      refine lv_iinc (v := x7_14) (lv' := [(7, .int x7_14), (5, .int x5_13), (4, .int x4_12), (0, .ref h_a1), (2, .int p3), (3, .ref h_a4), (6, .int x6p20_9)]) hx hb kdX6_unpack_75 hl (k := 6) rfl ex7_14.symm (by decide) rfl (fun ls hl => ?_)
      refine lv_goto (tgt := 12) hx hb kdX6_unpack_78 (by decide) ?_
      obtain rfl := Option.some.inj h
      exact ih x4_12 x5_13 x6p20_9 x7_14 f_11 r ho _ _ _ hP hD hS (lv_sub hl [3, 4, 5, 2, 1, 6, 0] rfl) hk0
set_option maxHeartbeats 4000000 in
set_option maxRecDepth 100000 in
theorem kcX6_unpack (l : Launch) (D : va_G) (cB cI cL cBB cII cSh : ClassId) (h_a1 h_a4 : Nat) (sz : Nat) (p2 : Int32) (p3 : Int32) (n_a1 : Nat) (n_a4 : Nat) (f_a1 : Nat → Int32) (f_a4 : Nat → Int32) (out : (Nat → Int32)) (h : kFX6_unpack p2 p3 n_a1 n_a4 f_a1 f_a4 = some out) : Met l kyX6_unpack kwX6_unpack krX6_unpack (kb_P D kCl (kb_T cB cI cL cBB cII cSh) [.ref h_a1, .int p2, .int p3, .ref h_a4] (kWX6_unpack cB cI cL cBB cII cSh h_a1 n_a1 h_a4 n_a4 f_a1 f_a4) sz) (kb_Q D kCl (kb_T cB cI cL cBB cII cSh) (va_A (kWX6_unpack cB cI cL cBB cII cSh h_a1 n_a1 h_a4 n_a4 f_a1 f_a4) sz) none (kWX6_unpack cB cI cL cBB cII cSh h_a1 n_a1 h_a4 n_a4 f_a1 out)) 0 0 (va_A (kWX6_unpack cB cI cL cBB cII cSh h_a1 n_a1 h_a4 n_a4 f_a1 f_a4) sz) := by
  refine Met.ofW (cc := prog_2_method_3_code) (maxL := 8) (ret := none) (by decide) rfl ?_
  intro p e s m args below meth c s₁ B hml hv
  obtain ⟨rfl, hsz, hP, hK, hN, hD0⟩ := hv
  have hx := B.exec
  have hb := B.bytes
  have hr := B.returns
  have hts0 := atoms_spec (ws := kwX6_unpack) B.pre
  have hts : ∀ w ∈ kwA, w.before _ s = true := fun w h => hts0 w (List.mem_cons_of_mem _ h)
  have hown : s.vm.findClass kRX6 = some m.cls := findClass_of_methodNamed B.named
  have hlocks := B.notSynchronized
  subst hsz
  have hD := hD0.self (sz := s.heap.size)
  generalize hAe : va_A (kWX6_unpack cB cI cL cBB cII cSh h_a1 n_a1 h_a4 n_a4 f_a1 f_a4) s.heap.size = A at hD ⊢
  have hA : ∀ q : Nat, s.heap.size ≤ q → A q := fun q h => by rw [← hAe]; exact Or.inr h
  have hS : va_S A s.heap s.heap [] := va_S.rf
  have C0 : CallFix p m c prog_2_method_3_code 8 s _ kwA kRX6 := ⟨hx, hb, hml, hown, hts⟩
  have hl := lv_entry ([.ref h_a1, .int p2, .int p3, .ref h_a4]) (n := 8) (Nat.le_of_ble_eq_true rfl)
  rw [lg_entry_eq]
  generalize (lg_sl ([.ref h_a1, .int p2, .int p3, .ref h_a4]) ++ List.replicate (8 - (lg_sl ([.ref h_a1, .int p2, .int p3, .ref h_a4])).length) Slot.unset).toArray = ls at hl ⊢
  have hl : lv_has ls 8 [(0, .ref h_a1), (1, .int p2), (2, .int p3), (3, .ref h_a4)] := hl
  unfold kFX6_unpack at h
  refine lv_iconst (v := 0) hx hb kdX6_unpack_0 (by decide) ?_
  refine lv_istore (lv' := [(4, .int (0 : Int32)), (0, .ref h_a1), (1, .int p2), (2, .int p3), (3, .ref h_a4)]) hx hb kdX6_unpack_1 hl (by decide) rfl (fun ls hl => ?_)
  refine lv_iconst (v := 0) hx hb kdX6_unpack_3 (by decide) ?_
  refine lv_istore (lv' := [(5, .int (0 : Int32)), (4, .int (0 : Int32)), (0, .ref h_a1), (1, .int p2), (2, .int p3), (3, .ref h_a4)]) hx hb kdX6_unpack_4 hl (by decide) rfl (fun ls hl => ?_)
  refine lv_iload_n hx hb kdX6_unpack_6 rfl (lv_at hl 3 rfl) ?_
  refine lv_istore (lv' := [(6, .int p2), (5, .int (0 : Int32)), (4, .int (0 : Int32)), (0, .ref h_a1), (1, .int p2), (2, .int p3), (3, .ref h_a4)]) hx hb kdX6_unpack_7 hl (by decide) rfl (fun ls hl => ?_)
  refine lv_iconst (v := 0) hx hb kdX6_unpack_9 (by decide) ?_
  refine lv_istore (lv' := [(7, .int (0 : Int32)), (6, .int p2), (5, .int (0 : Int32)), (4, .int (0 : Int32)), (0, .ref h_a1), (1, .int p2), (2, .int p3), (3, .ref h_a4)]) hx hb kdX6_unpack_10 hl (by decide) rfl (fun ls hl => ?_)
  obtain ⟨r_21, hr_21, h⟩ := kb_o_s h
  refine klX6_unpack_12 C0 hlocks hK hN hA (by decide) (by decide) h_a1 h_a4 p3 n_a1 n_a4 f_a1 100000 (0 : Int32) (0 : Int32) p2 (0 : Int32) f_a4 r_21 hr_21 _ _ _ hP hD hS (lv_sub hl [4, 6, 7, 3, 2, 1, 0] rfl) (fun x4p12_16 x5p12_17 x6p12_18 x7p12_19 f_a4p12_20 er_21 H locs ls hP hD hS hl => ?_)
  subst er_21
  obtain rfl := Option.some.inj h
  exact W.vret hx hb hr (fun t ht hW => ⟨⟨rfl, by rw [ht]; exact hP, va_K.moved hW.alike hK, hD⟩, hS.F ht⟩) hS.2.2 kdX6_unpack_81

-- 448.ModuleKem.Bits.packCompressed.lean.txt
abbrev kWX6_packCompressed (cB cI cL cBB cII cSh : ClassId) (h_a1 : Nat) (n_a1 : Nat) (h_a3 : Nat) (n_a3 : Nat) (f_a1 : Nat → Int32) (f_a3 : Nat → Int32) : va_W := [(h_a1, .inl (cI, n_a1, .inl f_a1)), (h_a3, .inl (cB, n_a3, .inl f_a3))]
def krX6_packCompressed : Room := { frames := 1, cells := 0, slots := 0, locals := 27 }
set_option maxHeartbeats 4000000 in
set_option maxRecDepth 100000 in
theorem klX6_packCompressed_3 {p : Program} {l : Launch} {e : Env} {s : State} {m : MethodId} {args : Array Value} {below : List Frame} {meth : Method} {c : Code} {cells slots : Nat} {Q : State → Prop} {D : va_G} {cB cI cL cBB cII cSh : ClassId} {A : Nat → Prop} (C0 : CallFix p m c prog_2_method_4_code 5 s args kwA kRX6) (hlocks : meth.locks = false) (hK : va_K D kCl (kb_T cB cI cL cBB cII cSh) s) (hN : kb_N s) (hA : ∀ q, s.heap.size ≤ q → A q) (hcR : cells ≤ krX6_packCompressed.cells) (hsR : slots ≤ krX6_packCompressed.slots) (h_a1 h_a3 : Nat) (p2 : Int32) (p4 : Int32) (n_a1 : Nat) (n_a3 : Nat) (f_a3 : Nat → Int32) :
    ∀ (fuel : Nat) (x4p3 : Int32) (f_a1p3 : Nat → Int32) (r : Int32 × (Nat → Int32)), kb_w (fun u : Int32 × (Nat → Int32) => kSX6_packCompressed_3 p2 n_a1 u.1 u.2) fuel (x4p3, f_a1p3) = some r → ∀ (H : Heap) (locs : List Loc) (ls : Array Slot), va_P D kCl (kWX6_packCompressed cB cI cL cBB cII cSh h_a1 n_a1 h_a3 n_a3 f_a1p3 f_a3) H → va_D A (kWX6_packCompressed cB cI cL cBB cII cSh h_a1 n_a1 h_a3 n_a3 f_a1p3 f_a3) → va_S A s.heap H locs → lv_has ls 5 [(0, .ref h_a1), (1, .int p2), (2, .ref h_a3), (3, .int p4), (4, .int x4p3)] → (∀ (x4p3' : Int32) (f_a1p3' : Nat → Int32), r = (x4p3', f_a1p3') → ∀ (H : Heap) (locs : List Loc) (ls : Array Slot), va_P D kCl (kWX6_packCompressed cB cI cL cBB cII cSh h_a1 n_a1 h_a3 n_a3 f_a1p3' f_a3) H → va_D A (kWX6_packCompressed cB cI cL cBB cII cSh h_a1 n_a1 h_a3 n_a3 f_a1p3' f_a3) → va_S A s.heap H locs → lv_has ls 5 [(0, .ref h_a1), (1, .int p2), (2, .ref h_a3), (3, .int p4), (4, .int x4p3')] → W p l e krX6_packCompressed s m args below meth c H locs cells slots Q (F0 m 43 ls [])) → W p l e krX6_packCompressed s m args below meth c H locs cells slots Q (F0 m 3 ls []) := by
  obtain ⟨hx, hb, hml, hown, hts⟩ := id C0
  intro fuel
  induction fuel with
  | zero =>
    intro x4p3 f_a1p3 r h
    exact absurd h (kb_w_z _ _ _)
  | succ fuel ih =>
    intro x4p3 f_a1p3 r h H locs ls hP hD hS hl hk0
    obtain ⟨o, h, ho⟩ := kb_w_s h
    have h : kSX6_packCompressed_3 p2 n_a1 x4p3 f_a1p3 = some o := h
    unfold kSX6_packCompressed_3 at h
    refine lv_iload hx hb kdX6_packCompressed_3 (lv_at hl 4 rfl) ?_
    refine lv_sipush (v := 256) hx hb kdX6_packCompressed_5 (by decide) ?_
    refine lv_icmp_ge (tgt := 43) hx hb kdX6_packCompressed_8 (by decide) (fun c_1 => ?_) (fun c_1 => ?_)
    · have h := kb_b_t c_1 h
      obtain rfl := Option.some.inj h
      exact hk0 x4p3 f_a1p3 ho.symm _ _ _ hP hD hS (lv_sub hl [0, 1, 2, 3, 4] rfl)
    · have h := kb_b_f c_1 h
      refine lv_aload_n hx hb kdX6_packCompressed_11 rfl (lv_at hl 0 rfl) ?_
      refine lv_iload hx hb kdX6_packCompressed_12 (lv_at hl 4 rfl) ?_
      refine lv_aload_n hx hb kdX6_packCompressed_14 rfl (lv_at hl 0 rfl) ?_
      refine lv_iload hx hb kdX6_packCompressed_15 (lv_at hl 4 rfl) ?_
      obtain ⟨g_2, h⟩ := kb_g_s h
      refine va_iald hx hb hK hP 0 1 rfl rfl (kb_in_v g_2) kdX6_packCompressed_17 ?_
      refine lv_iload_n hx hb kdX6_packCompressed_18 rfl (lv_at hl 1 rfl) ?_
      refine lv_iconst (v := 1) hx hb kdX6_packCompressed_19 (by decide) ?_
      refine lv_iadd hx hb kdX6_packCompressed_20 ?_
      refine lv_ishl hx hb kdX6_packCompressed_21 ?_
      refine lv_sipush (v := 3329) hx hb kdX6_packCompressed_22 (by decide) ?_
      refine lv_iadd hx hb kdX6_packCompressed_25 ?_
      refine lv_sipush (v := 6658) hx hb kdX6_packCompressed_26 (by decide) ?_
      refine lv_idiv hx hb kdX6_packCompressed_29 (by decide) ?_
      refine lv_iconst (v := 1) hx hb kdX6_packCompressed_30 (by decide) ?_
      refine lv_iload_n hx hb kdX6_packCompressed_31 rfl (lv_at hl 1 rfl) ?_
      refine lv_ishl hx hb kdX6_packCompressed_32 ?_
      refine lv_iconst (v := 1) hx hb kdX6_packCompressed_33 (by decide) ?_
      refine lv_isub hx hb kdX6_packCompressed_34 ?_
      refine lv_iand hx hb kdX6_packCompressed_35 ?_
      obtain ⟨g_3, h⟩ := kb_g_s h
      refine va_iast hx hb hK hP hD hS 0 1 rfl rfl (kb_in_v g_3) kdX6_packCompressed_36 (fun H locs hP hD hS => ?_)
      obtain ⟨f_4, ef_4⟩ : ∃ y, y = upd f_a1p3 x4p3.toNatClampNeg (((((f_a1p3 x4p3.toNatClampNeg) <<< ((p2 + (1 : Int32)) &&& 31)) + (3329 : Int32)) / (6658 : Int32)) &&& (((1 : Int32) <<< (p2 &&& 31)) - (1 : Int32))) := ⟨_, rfl⟩
      have h := kb_n_s ef_4 h
      have hP : va_P D kCl (kWX6_packCompressed cB cI cL cBB cII cSh h_a1 n_a1 h_a3 n_a3 f_4 f_a3) H := by rw [ef_4]; exact hP
      have hD : va_D A (kWX6_packCompressed cB cI cL cBB cII cSh h_a1 n_a1 h_a3 n_a3 f_4 f_a3) := by rw [ef_4]; exact hD
      obtain ⟨x4_5, ex4_5⟩ : ∃ y : Int32, y = x4p3 + Int32.ofInt 1 := ⟨_, rfl⟩
      have h := kb_n_s ex4_5 h
      refine lv_iinc (v := x4_5) (lv' := [(4, .int x4_5), (0, .ref h_a1), (1, .int p2), (2, .ref h_a3), (3, .int p4)]) hx hb kdX6_packCompressed_37 hl (k := 4) rfl ex4_5.symm (by decide) rfl (fun ls hl => ?_)
      refine lv_goto (tgt := 3) hx hb kdX6_packCompressed_40 (by decide) ?_
      obtain rfl := Option.some.inj h
      exact ih x4_5 f_4 r ho _ _ _ hP hD hS (lv_sub hl [1, 2, 3, 4, 0] rfl) hk0
set_option maxHeartbeats 4000000 in
set_option maxRecDepth 100000 in
theorem kcX6_packCompressed (l : Launch) (D : va_G) (cB cI cL cBB cII cSh : ClassId) (h_a1 h_a3 : Nat) (sz : Nat) (p2 : Int32) (p4 : Int32) (n_a1 : Nat) (n_a3 : Nat) (f_a1 : Nat → Int32) (f_a3 : Nat → Int32) (out : (Nat → Int32) × (Nat → Int32)) (h : kFX6_packCompressed p2 p4 n_a1 n_a3 f_a1 f_a3 = some out) : Met l kyX6_packCompressed kwX6_packCompressed krX6_packCompressed (kb_P D kCl (kb_T cB cI cL cBB cII cSh) [.ref h_a1, .int p2, .ref h_a3, .int p4] (kWX6_packCompressed cB cI cL cBB cII cSh h_a1 n_a1 h_a3 n_a3 f_a1 f_a3) sz) (kb_Q D kCl (kb_T cB cI cL cBB cII cSh) (va_A (kWX6_packCompressed cB cI cL cBB cII cSh h_a1 n_a1 h_a3 n_a3 f_a1 f_a3) sz) none (kWX6_packCompressed cB cI cL cBB cII cSh h_a1 n_a1 h_a3 n_a3 out.1 out.2)) 0 0 (va_A (kWX6_packCompressed cB cI cL cBB cII cSh h_a1 n_a1 h_a3 n_a3 f_a1 f_a3) sz) := by
  refine Met.ofW (cc := prog_2_method_4_code) (maxL := 5) (ret := none) (by decide) rfl ?_
  intro p e s m args below meth c s₁ B hml hv
  obtain ⟨rfl, hsz, hP, hK, hN, hD0⟩ := hv
  have hx := B.exec
  have hb := B.bytes
  have hr := B.returns
  have hts0 := atoms_spec (ws := kwX6_packCompressed) B.pre
  have hts : ∀ w ∈ kwA, w.before _ s = true := fun w h => hts0 w (List.mem_cons_of_mem _ h)
  have hown : s.vm.findClass kRX6 = some m.cls := findClass_of_methodNamed B.named
  have hlocks := B.notSynchronized
  subst hsz
  have hD := hD0.self (sz := s.heap.size)
  generalize hAe : va_A (kWX6_packCompressed cB cI cL cBB cII cSh h_a1 n_a1 h_a3 n_a3 f_a1 f_a3) s.heap.size = A at hD ⊢
  have hA : ∀ q : Nat, s.heap.size ≤ q → A q := fun q h => by rw [← hAe]; exact Or.inr h
  have hS : va_S A s.heap s.heap [] := va_S.rf
  have C0 : CallFix p m c prog_2_method_4_code 5 s _ kwA kRX6 := ⟨hx, hb, hml, hown, hts⟩
  have hl := lv_entry ([.ref h_a1, .int p2, .ref h_a3, .int p4]) (n := 5) (Nat.le_of_ble_eq_true rfl)
  rw [lg_entry_eq]
  generalize (lg_sl ([.ref h_a1, .int p2, .ref h_a3, .int p4]) ++ List.replicate (5 - (lg_sl ([.ref h_a1, .int p2, .ref h_a3, .int p4])).length) Slot.unset).toArray = ls at hl ⊢
  have hl : lv_has ls 5 [(0, .ref h_a1), (1, .int p2), (2, .ref h_a3), (3, .int p4)] := hl
  unfold kFX6_packCompressed at h
  refine lv_iconst (v := 0) hx hb kdX6_packCompressed_0 (by decide) ?_
  refine lv_istore (lv' := [(4, .int (0 : Int32)), (0, .ref h_a1), (1, .int p2), (2, .ref h_a3), (3, .int p4)]) hx hb kdX6_packCompressed_1 hl (by decide) rfl (fun ls hl => ?_)
  obtain ⟨r_10, hr_10, h⟩ := kb_o_s h
  refine klX6_packCompressed_3 C0 hlocks hK hN hA (by decide) (by decide) h_a1 h_a3 p2 p4 n_a1 n_a3 f_a3 100000 (0 : Int32) f_a1 r_10 hr_10 _ _ _ hP hD hS (lv_sub hl [1, 2, 3, 4, 0] rfl) (fun x4p3_6 f_a1p3_7 er_10 H locs ls hP hD hS hl => ?_)
  subst er_10
  refine lv_aload_n hx hb kdX6_packCompressed_43 rfl (lv_at hl 0 rfl) ?_
  refine lv_iload_n hx hb kdX6_packCompressed_44 rfl (lv_at hl 1 rfl) ?_
  refine lv_aload_n hx hb kdX6_packCompressed_45 rfl (lv_at hl 2 rfl) ?_
  refine lv_iload_n hx hb kdX6_packCompressed_46 rfl (lv_at hl 3 rfl) ?_
  obtain ⟨u_9, hu_9, h⟩ := kb_o_s h
  obtain ⟨f_8, rfl⟩ : ∃ z, z = u_9 := ⟨_, rfl⟩
  have hC := (show ([0, 1] : List Nat).map (fun i : Nat => (kWX6_packCompressed cB cI cL cBB cII cSh h_a1 n_a1 h_a3 n_a3 f_a1p3_7 f_a3)[i]?) = List.map some (kWX6_pack cB cI cL cBB cII cSh h_a1 n_a1 h_a3 n_a3 f_a1p3_7 f_a3) from rfl)
  have hPc := kb_Psub hP ([0, 1] : List Nat) hC
  have hDc := kb_Dsub hD ([0, 1] : List Nat) hC (by simp [kb_nd])
  refine kb_call0 (va_runS (As := [.ref h_a1, .int p2, .ref h_a3, .int p4]) (rest := []) C0 (kcX6_pack l D cB cI cL cBB cII cSh h_a1 h_a3 _ p2 p4 n_a1 n_a3 f_a1p3_7 f_a3 f_8 hu_9) (va_cwS 4 hts (kb_gS km_550 km_462 km_15 km_463) rfl rfl rfl (by decide +kernel) ⟨Nat.le_of_ble_eq_true rfl, Nat.le_of_ble_eq_true rfl⟩) ⟨kb_P_bl, (fun U hU hW => ⟨rfl, by rw [hU], by rw [hU]; exact hPc, va_K.moved hW.alike hK, kb_N_to hW hN, hDc.weaken (fun _ _ _ _ => trivial)⟩)⟩ rfl rfl hl.1 rfl (lv_room (Nat.le_of_ble_eq_true rfl)) kdX6_packCompressed_47 ⟨Nat.le_of_ble_eq_true rfl, Nat.le_of_ble_eq_true rfl⟩) hP hD hS hA ([0, 1] : List Nat) hC rfl (fun H locs hP hD hS => ?_)
  have hP : va_P D kCl (kWX6_packCompressed cB cI cL cBB cII cSh h_a1 n_a1 h_a3 n_a3 f_a1p3_7 f_8) H := hP
  have hD : va_D A (kWX6_packCompressed cB cI cL cBB cII cSh h_a1 n_a1 h_a3 n_a3 f_a1p3_7 f_8) := hD
  obtain rfl := Option.some.inj h
  exact W.vret hx hb hr (fun t ht hW => ⟨⟨rfl, by rw [ht]; exact hP, va_K.moved hW.alike hK, hD⟩, hS.F ht⟩) hS.2.2 kdX6_packCompressed_50

-- 449.ModuleKem.Bits.unpackCompressed.lean.txt
abbrev kWX6_unpackCompressed (cB cI cL cBB cII cSh : ClassId) (h_a1 : Nat) (n_a1 : Nat) (h_a4 : Nat) (n_a4 : Nat) (f_a1 : Nat → Int32) (f_a4 : Nat → Int32) : va_W := [(h_a1, .inl (cB, n_a1, .inl f_a1)), (h_a4, .inl (cI, n_a4, .inl f_a4))]
def krX6_unpackCompressed : Room := { frames := 1, cells := 0, slots := 0, locals := 27 }
set_option maxHeartbeats 4000000 in
set_option maxRecDepth 100000 in
theorem klX6_unpackCompressed_10 {p : Program} {l : Launch} {e : Env} {s : State} {m : MethodId} {args : Array Value} {below : List Frame} {meth : Method} {c : Code} {cells slots : Nat} {Q : State → Prop} {D : va_G} {cB cI cL cBB cII cSh : ClassId} {A : Nat → Prop} (C0 : CallFix p m c prog_2_method_5_code 5 s args kwA kRX6) (hlocks : meth.locks = false) (hK : va_K D kCl (kb_T cB cI cL cBB cII cSh) s) (hN : kb_N s) (hA : ∀ q, s.heap.size ≤ q → A q) (hcR : cells ≤ krX6_unpackCompressed.cells) (hsR : slots ≤ krX6_unpackCompressed.slots) (h_a4 h_a1 : Nat) (p3 : Int32) (n_a1 : Nat) (n_a4 : Nat) (f_a1 : Nat → Int32) :
    ∀ (fuel : Nat) (x4p10 : Int32) (f_a4p10 : Nat → Int32) (r : Int32 × (Nat → Int32)), kb_w (fun u : Int32 × (Nat → Int32) => kSX6_unpackCompressed_10 p3 n_a4 u.1 u.2) fuel (x4p10, f_a4p10) = some r → ∀ (H : Heap) (locs : List Loc) (ls : Array Slot), va_P D kCl (kWX6_unpackCompressed cB cI cL cBB cII cSh h_a1 n_a1 h_a4 n_a4 f_a1 f_a4p10) H → va_D A (kWX6_unpackCompressed cB cI cL cBB cII cSh h_a1 n_a1 h_a4 n_a4 f_a1 f_a4p10) → va_S A s.heap H locs → lv_has ls 5 [(2, .int p3), (3, .ref h_a4), (4, .int x4p10)] → (∀ (x4p10' : Int32) (f_a4p10' : Nat → Int32), r = (x4p10', f_a4p10') → ∀ (H : Heap) (locs : List Loc) (ls : Array Slot), va_P D kCl (kWX6_unpackCompressed cB cI cL cBB cII cSh h_a1 n_a1 h_a4 n_a4 f_a1 f_a4p10') H → va_D A (kWX6_unpackCompressed cB cI cL cBB cII cSh h_a1 n_a1 h_a4 n_a4 f_a1 f_a4p10') → va_S A s.heap H locs → lv_has ls 5 [(2, .int p3), (3, .ref h_a4), (4, .int x4p10')] → W p l e krX6_unpackCompressed s m args below meth c H locs cells slots Q (F0 m 44 ls [])) → W p l e krX6_unpackCompressed s m args below meth c H locs cells slots Q (F0 m 10 ls []) := by
  obtain ⟨hx, hb, hml, hown, hts⟩ := id C0
  intro fuel
  induction fuel with
  | zero =>
    intro x4p10 f_a4p10 r h
    exact absurd h (kb_w_z _ _ _)
  | succ fuel ih =>
    intro x4p10 f_a4p10 r h H locs ls hP hD hS hl hk0
    obtain ⟨o, h, ho⟩ := kb_w_s h
    have h : kSX6_unpackCompressed_10 p3 n_a4 x4p10 f_a4p10 = some o := h
    unfold kSX6_unpackCompressed_10 at h
    refine lv_iload hx hb kdX6_unpackCompressed_10 (lv_at hl 2 rfl) ?_
    refine lv_sipush (v := 256) hx hb kdX6_unpackCompressed_12 (by decide) ?_
    refine lv_icmp_ge (tgt := 44) hx hb kdX6_unpackCompressed_15 (by decide) (fun c_3 => ?_) (fun c_3 => ?_)
    · have h := kb_b_t c_3 h
      obtain rfl := Option.some.inj h
      exact hk0 x4p10 f_a4p10 ho.symm _ _ _ hP hD hS (lv_sub hl [0, 1, 2] rfl)
    · have h := kb_b_f c_3 h
      refine lv_aload_n hx hb kdX6_unpackCompressed_18 rfl (lv_at hl 1 rfl) ?_
      refine lv_iload hx hb kdX6_unpackCompressed_19 (lv_at hl 2 rfl) ?_
      refine lv_sipush (v := 3329) hx hb kdX6_unpackCompressed_21 (by decide) ?_
      refine lv_aload_n hx hb kdX6_unpackCompressed_24 rfl (lv_at hl 1 rfl) ?_
      refine lv_iload hx hb kdX6_unpackCompressed_25 (lv_at hl 2 rfl) ?_
      obtain ⟨g_4, h⟩ := kb_g_s h
      refine va_iald hx hb hK hP 1 1 rfl rfl (kb_in_v g_4) kdX6_unpackCompressed_27 ?_
      refine lv_imul hx hb kdX6_unpackCompressed_28 ?_
      refine lv_iconst (v := 1) hx hb kdX6_unpackCompressed_29 (by decide) ?_
      refine lv_iload_n hx hb kdX6_unpackCompressed_30 rfl (lv_at hl 0 rfl) ?_
      refine lv_iconst (v := 1) hx hb kdX6_unpackCompressed_31 (by decide) ?_
      refine lv_isub hx hb kdX6_unpackCompressed_32 ?_
      refine lv_ishl hx hb kdX6_unpackCompressed_33 ?_
      refine lv_iadd hx hb kdX6_unpackCompressed_34 ?_
      refine lv_iload_n hx hb kdX6_unpackCompressed_35 rfl (lv_at hl 0 rfl) ?_
      refine lv_ishr hx hb kdX6_unpackCompressed_36 ?_
      obtain ⟨g_5, h⟩ := kb_g_s h
      refine va_iast hx hb hK hP hD hS 1 1 rfl rfl (kb_in_v g_5) kdX6_unpackCompressed_37 (fun H locs hP hD hS => ?_)
      obtain ⟨f_6, ef_6⟩ : ∃ y, y = upd f_a4p10 x4p10.toNatClampNeg ((((3329 : Int32) * (f_a4p10 x4p10.toNatClampNeg)) + ((1 : Int32) <<< ((p3 - (1 : Int32)) &&& 31))) >>> (p3 &&& 31)) := ⟨_, rfl⟩
      have h := kb_n_s ef_6 h
      have hP : va_P D kCl (kWX6_unpackCompressed cB cI cL cBB cII cSh h_a1 n_a1 h_a4 n_a4 f_a1 f_6) H := by rw [ef_6]; exact hP
      have hD : va_D A (kWX6_unpackCompressed cB cI cL cBB cII cSh h_a1 n_a1 h_a4 n_a4 f_a1 f_6) := by rw [ef_6]; exact hD
      obtain ⟨x4_7, ex4_7⟩ : ∃ y : Int32, y = x4p10 + Int32.ofInt 1 := ⟨_, rfl⟩
      have h := kb_n_s ex4_7 h
      refine lv_iinc (v := x4_7) (lv' := [(4, .int x4_7), (2, .int p3), (3, .ref h_a4)]) hx hb kdX6_unpackCompressed_38 hl (k := 2) rfl ex4_7.symm (by decide) rfl (fun ls hl => ?_)
      refine lv_goto (tgt := 10) hx hb kdX6_unpackCompressed_41 (by decide) ?_
      obtain rfl := Option.some.inj h
      exact ih x4_7 f_6 r ho _ _ _ hP hD hS (lv_sub hl [1, 2, 0] rfl) hk0
set_option maxHeartbeats 4000000 in
set_option maxRecDepth 100000 in
theorem kcX6_unpackCompressed (l : Launch) (D : va_G) (cB cI cL cBB cII cSh : ClassId) (h_a1 h_a4 : Nat) (sz : Nat) (p2 : Int32) (p3 : Int32) (n_a1 : Nat) (n_a4 : Nat) (f_a1 : Nat → Int32) (f_a4 : Nat → Int32) (out : (Nat → Int32)) (h : kFX6_unpackCompressed p2 p3 n_a1 n_a4 f_a1 f_a4 = some out) : Met l kyX6_unpackCompressed kwX6_unpackCompressed krX6_unpackCompressed (kb_P D kCl (kb_T cB cI cL cBB cII cSh) [.ref h_a1, .int p2, .int p3, .ref h_a4] (kWX6_unpackCompressed cB cI cL cBB cII cSh h_a1 n_a1 h_a4 n_a4 f_a1 f_a4) sz) (kb_Q D kCl (kb_T cB cI cL cBB cII cSh) (va_A (kWX6_unpackCompressed cB cI cL cBB cII cSh h_a1 n_a1 h_a4 n_a4 f_a1 f_a4) sz) none (kWX6_unpackCompressed cB cI cL cBB cII cSh h_a1 n_a1 h_a4 n_a4 f_a1 out)) 0 0 (va_A (kWX6_unpackCompressed cB cI cL cBB cII cSh h_a1 n_a1 h_a4 n_a4 f_a1 f_a4) sz) := by
  refine Met.ofW (cc := prog_2_method_5_code) (maxL := 5) (ret := none) (by decide) rfl ?_
  intro p e s m args below meth c s₁ B hml hv
  obtain ⟨rfl, hsz, hP, hK, hN, hD0⟩ := hv
  have hx := B.exec
  have hb := B.bytes
  have hr := B.returns
  have hts0 := atoms_spec (ws := kwX6_unpackCompressed) B.pre
  have hts : ∀ w ∈ kwA, w.before _ s = true := fun w h => hts0 w (List.mem_cons_of_mem _ h)
  have hown : s.vm.findClass kRX6 = some m.cls := findClass_of_methodNamed B.named
  have hlocks := B.notSynchronized
  subst hsz
  have hD := hD0.self (sz := s.heap.size)
  generalize hAe : va_A (kWX6_unpackCompressed cB cI cL cBB cII cSh h_a1 n_a1 h_a4 n_a4 f_a1 f_a4) s.heap.size = A at hD ⊢
  have hA : ∀ q : Nat, s.heap.size ≤ q → A q := fun q h => by rw [← hAe]; exact Or.inr h
  have hS : va_S A s.heap s.heap [] := va_S.rf
  have C0 : CallFix p m c prog_2_method_5_code 5 s _ kwA kRX6 := ⟨hx, hb, hml, hown, hts⟩
  have hl := lv_entry ([.ref h_a1, .int p2, .int p3, .ref h_a4]) (n := 5) (Nat.le_of_ble_eq_true rfl)
  rw [lg_entry_eq]
  generalize (lg_sl ([.ref h_a1, .int p2, .int p3, .ref h_a4]) ++ List.replicate (5 - (lg_sl ([.ref h_a1, .int p2, .int p3, .ref h_a4])).length) Slot.unset).toArray = ls at hl ⊢
  have hl : lv_has ls 5 [(0, .ref h_a1), (1, .int p2), (2, .int p3), (3, .ref h_a4)] := hl
  unfold kFX6_unpackCompressed at h
  refine lv_aload_n hx hb kdX6_unpackCompressed_0 rfl (lv_at hl 0 rfl) ?_
  refine lv_iload_n hx hb kdX6_unpackCompressed_1 rfl (lv_at hl 1 rfl) ?_
  refine lv_iload_n hx hb kdX6_unpackCompressed_2 rfl (lv_at hl 2 rfl) ?_
  refine lv_aload_n hx hb kdX6_unpackCompressed_3 rfl (lv_at hl 3 rfl) ?_
  obtain ⟨u_2, hu_2, h⟩ := kb_o_s h
  obtain ⟨f_1, rfl⟩ : ∃ z, z = u_2 := ⟨_, rfl⟩
  have hC := (show ([0, 1] : List Nat).map (fun i : Nat => (kWX6_unpackCompressed cB cI cL cBB cII cSh h_a1 n_a1 h_a4 n_a4 f_a1 f_a4)[i]?) = List.map some (kWX6_unpack cB cI cL cBB cII cSh h_a1 n_a1 h_a4 n_a4 f_a1 f_a4) from rfl)
  have hPc := kb_Psub hP ([0, 1] : List Nat) hC
  have hDc := kb_Dsub hD ([0, 1] : List Nat) hC (by simp [kb_nd])
  refine kb_call0 (va_runS (As := [.ref h_a1, .int p2, .int p3, .ref h_a4]) (rest := []) C0 (kcX6_unpack l D cB cI cL cBB cII cSh h_a1 h_a4 _ p2 p3 n_a1 n_a4 f_a1 f_a4 f_1 hu_2) (va_cwS 4 hts (kb_gS km_558 km_442 km_15 km_443) rfl rfl rfl (by decide +kernel) ⟨Nat.le_of_ble_eq_true rfl, Nat.le_of_ble_eq_true rfl⟩) ⟨kb_P_bl, (fun U hU hW => ⟨rfl, by rw [hU], by rw [hU]; exact hPc, va_K.moved hW.alike hK, kb_N_to hW hN, hDc.weaken (fun _ _ _ _ => trivial)⟩)⟩ rfl rfl hl.1 rfl (lv_room (Nat.le_of_ble_eq_true rfl)) kdX6_unpackCompressed_4 ⟨Nat.le_of_ble_eq_true rfl, Nat.le_of_ble_eq_true rfl⟩) hP hD hS hA ([0, 1] : List Nat) hC rfl (fun H locs hP hD hS => ?_)
  have hP : va_P D kCl (kWX6_unpackCompressed cB cI cL cBB cII cSh h_a1 n_a1 h_a4 n_a4 f_a1 f_1) H := hP
  have hD : va_D A (kWX6_unpackCompressed cB cI cL cBB cII cSh h_a1 n_a1 h_a4 n_a4 f_a1 f_1) := hD
  refine lv_iconst (v := 0) hx hb kdX6_unpackCompressed_7 (by decide) ?_
  refine lv_istore (lv' := [(4, .int (0 : Int32)), (0, .ref h_a1), (1, .int p2), (2, .int p3), (3, .ref h_a4)]) hx hb kdX6_unpackCompressed_8 hl (by decide) rfl (fun ls hl => ?_)
  obtain ⟨r_10, hr_10, h⟩ := kb_o_s h
  refine klX6_unpackCompressed_10 C0 hlocks hK hN hA (by decide) (by decide) h_a4 h_a1 p3 n_a1 n_a4 f_a1 100000 (0 : Int32) f_1 r_10 hr_10 _ _ _ hP hD hS (lv_sub hl [3, 4, 0] rfl) (fun x4p10_8 f_a4p10_9 er_10 H locs ls hP hD hS hl => ?_)
  subst er_10
  obtain rfl := Option.some.inj h
  exact W.vret hx hb hr (fun t ht hW => ⟨⟨rfl, by rw [ht]; exact hP, va_K.moved hW.alike hK, hD⟩, hS.F ht⟩) hS.2.2 kdX6_unpackCompressed_44

-- 450.ModuleKem.Bits.unpackNumbers.lean.txt
abbrev kWX6_unpackNumbers (cB cI cL cBB cII cSh : ClassId) (h_a1 : Nat) (n_a1 : Nat) (h_a3 : Nat) (n_a3 : Nat) (f_a1 : Nat → Int32) (f_a3 : Nat → Int32) : va_W := [(h_a1, .inl (cB, n_a1, .inl f_a1)), (h_a3, .inl (cI, n_a3, .inl f_a3))]
def krX6_unpackNumbers : Room := { frames := 1, cells := 0, slots := 0, locals := 27 }
set_option maxHeartbeats 4000000 in
set_option maxRecDepth 100000 in
theorem klX6_unpackNumbers_10 {p : Program} {l : Launch} {e : Env} {s : State} {m : MethodId} {args : Array Value} {below : List Frame} {meth : Method} {c : Code} {cells slots : Nat} {Q : State → Prop} {D : va_G} {cB cI cL cBB cII cSh : ClassId} {A : Nat → Prop} (C0 : CallFix p m c prog_2_method_6_code 4 s args kwA kRX6) (hlocks : meth.locks = false) (hK : va_K D kCl (kb_T cB cI cL cBB cII cSh) s) (hN : kb_N s) (hA : ∀ q, s.heap.size ≤ q → A q) (hcR : cells ≤ krX6_unpackNumbers.cells) (hsR : slots ≤ krX6_unpackNumbers.slots) (h_a3 h_a1 : Nat) (n_a1 : Nat) (n_a3 : Nat) (f_a1 : Nat → Int32) :
    ∀ (fuel : Nat) (x3p10 : Int32) (f_a3p10 : Nat → Int32) (r : Int32 × (Nat → Int32)), kb_w (fun u : Int32 × (Nat → Int32) => kSX6_unpackNumbers_10 n_a3 u.1 u.2) fuel (x3p10, f_a3p10) = some r → ∀ (H : Heap) (locs : List Loc) (ls : Array Slot), va_P D kCl (kWX6_unpackNumbers cB cI cL cBB cII cSh h_a1 n_a1 h_a3 n_a3 f_a1 f_a3p10) H → va_D A (kWX6_unpackNumbers cB cI cL cBB cII cSh h_a1 n_a1 h_a3 n_a3 f_a1 f_a3p10) → va_S A s.heap H locs → lv_has ls 4 [(2, .ref h_a3), (3, .int x3p10)] → (∀ (x3p10' : Int32) (f_a3p10' : Nat → Int32), r = (x3p10', f_a3p10') → ∀ (H : Heap) (locs : List Loc) (ls : Array Slot), va_P D kCl (kWX6_unpackNumbers cB cI cL cBB cII cSh h_a1 n_a1 h_a3 n_a3 f_a1 f_a3p10') H → va_D A (kWX6_unpackNumbers cB cI cL cBB cII cSh h_a1 n_a1 h_a3 n_a3 f_a1 f_a3p10') → va_S A s.heap H locs → lv_has ls 4 [(2, .ref h_a3), (3, .int x3p10')] → W p l e krX6_unpackNumbers s m args below meth c H locs cells slots Q (F0 m 33 ls [])) → W p l e krX6_unpackNumbers s m args below meth c H locs cells slots Q (F0 m 10 ls []) := by
  obtain ⟨hx, hb, hml, hown, hts⟩ := id C0
  intro fuel
  induction fuel with
  | zero =>
    intro x3p10 f_a3p10 r h
    exact absurd h (kb_w_z _ _ _)
  | succ fuel ih =>
    intro x3p10 f_a3p10 r h H locs ls hP hD hS hl hk0
    obtain ⟨o, h, ho⟩ := kb_w_s h
    have h : kSX6_unpackNumbers_10 n_a3 x3p10 f_a3p10 = some o := h
    unfold kSX6_unpackNumbers_10 at h
    refine lv_iload_n hx hb kdX6_unpackNumbers_10 rfl (lv_at hl 1 rfl) ?_
    refine lv_sipush (v := 256) hx hb kdX6_unpackNumbers_11 (by decide) ?_
    refine lv_icmp_ge (tgt := 33) hx hb kdX6_unpackNumbers_14 (by decide) (fun c_3 => ?_) (fun c_3 => ?_)
    · have h := kb_b_t c_3 h
      obtain rfl := Option.some.inj h
      exact hk0 x3p10 f_a3p10 ho.symm _ _ _ hP hD hS (lv_sub hl [0, 1] rfl)
    · have h := kb_b_f c_3 h
      refine lv_aload_n hx hb kdX6_unpackNumbers_17 rfl (lv_at hl 0 rfl) ?_
      refine lv_iload_n hx hb kdX6_unpackNumbers_18 rfl (lv_at hl 1 rfl) ?_
      refine lv_aload_n hx hb kdX6_unpackNumbers_19 rfl (lv_at hl 0 rfl) ?_
      refine lv_iload_n hx hb kdX6_unpackNumbers_20 rfl (lv_at hl 1 rfl) ?_
      obtain ⟨g_4, h⟩ := kb_g_s h
      refine va_iald hx hb hK hP 1 1 rfl rfl (kb_in_v g_4) kdX6_unpackNumbers_21 ?_
      refine lv_sipush (v := 3329) hx hb kdX6_unpackNumbers_22 (by decide) ?_
      refine lv_irem hx hb kdX6_unpackNumbers_25 (by decide) ?_
      refine lv_topi (fun q_5 eq_5 => ?_)
      have h := kb_n_s eq_5 h
      obtain ⟨g_6, h⟩ := kb_g_s h
      refine va_iast hx hb hK hP hD hS 1 1 rfl rfl (kb_in_v g_6) kdX6_unpackNumbers_26 (fun H locs hP hD hS => ?_)
      obtain ⟨f_7, ef_7⟩ : ∃ y, y = upd f_a3p10 x3p10.toNatClampNeg q_5 := ⟨_, rfl⟩
      have h := kb_n_s ef_7 h
      have hP : va_P D kCl (kWX6_unpackNumbers cB cI cL cBB cII cSh h_a1 n_a1 h_a3 n_a3 f_a1 f_7) H := by rw [ef_7]; exact hP
      have hD : va_D A (kWX6_unpackNumbers cB cI cL cBB cII cSh h_a1 n_a1 h_a3 n_a3 f_a1 f_7) := by rw [ef_7]; exact hD
      obtain ⟨x3_8, ex3_8⟩ : ∃ y : Int32, y = x3p10 + Int32.ofInt 1 := ⟨_, rfl⟩
      have h := kb_n_s ex3_8 h
      refine lv_iinc (v := x3_8) (lv' := [(3, .int x3_8), (2, .ref h_a3)]) hx hb kdX6_unpackNumbers_27 hl (k := 1) rfl ex3_8.symm (by decide) rfl (fun ls hl => ?_)
      refine lv_goto (tgt := 10) hx hb kdX6_unpackNumbers_30 (by decide) ?_
      obtain rfl := Option.some.inj h
      exact ih x3_8 f_7 r ho _ _ _ hP hD hS (lv_sub hl [1, 0] rfl) hk0
set_option maxHeartbeats 4000000 in
set_option maxRecDepth 100000 in
theorem kcX6_unpackNumbers (l : Launch) (D : va_G) (cB cI cL cBB cII cSh : ClassId) (h_a1 h_a3 : Nat) (sz : Nat) (p2 : Int32) (n_a1 : Nat) (n_a3 : Nat) (f_a1 : Nat → Int32) (f_a3 : Nat → Int32) (out : (Nat → Int32)) (h : kFX6_unpackNumbers p2 n_a1 n_a3 f_a1 f_a3 = some out) : Met l kyX6_unpackNumbers kwX6_unpackNumbers krX6_unpackNumbers (kb_P D kCl (kb_T cB cI cL cBB cII cSh) [.ref h_a1, .int p2, .ref h_a3] (kWX6_unpackNumbers cB cI cL cBB cII cSh h_a1 n_a1 h_a3 n_a3 f_a1 f_a3) sz) (kb_Q D kCl (kb_T cB cI cL cBB cII cSh) (va_A (kWX6_unpackNumbers cB cI cL cBB cII cSh h_a1 n_a1 h_a3 n_a3 f_a1 f_a3) sz) none (kWX6_unpackNumbers cB cI cL cBB cII cSh h_a1 n_a1 h_a3 n_a3 f_a1 out)) 0 0 (va_A (kWX6_unpackNumbers cB cI cL cBB cII cSh h_a1 n_a1 h_a3 n_a3 f_a1 f_a3) sz) := by
  refine Met.ofW (cc := prog_2_method_6_code) (maxL := 4) (ret := none) (by decide) rfl ?_
  intro p e s m args below meth c s₁ B hml hv
  obtain ⟨rfl, hsz, hP, hK, hN, hD0⟩ := hv
  have hx := B.exec
  have hb := B.bytes
  have hr := B.returns
  have hts0 := atoms_spec (ws := kwX6_unpackNumbers) B.pre
  have hts : ∀ w ∈ kwA, w.before _ s = true := fun w h => hts0 w (List.mem_cons_of_mem _ h)
  have hown : s.vm.findClass kRX6 = some m.cls := findClass_of_methodNamed B.named
  have hlocks := B.notSynchronized
  subst hsz
  have hD := hD0.self (sz := s.heap.size)
  generalize hAe : va_A (kWX6_unpackNumbers cB cI cL cBB cII cSh h_a1 n_a1 h_a3 n_a3 f_a1 f_a3) s.heap.size = A at hD ⊢
  have hA : ∀ q : Nat, s.heap.size ≤ q → A q := fun q h => by rw [← hAe]; exact Or.inr h
  have hS : va_S A s.heap s.heap [] := va_S.rf
  have C0 : CallFix p m c prog_2_method_6_code 4 s _ kwA kRX6 := ⟨hx, hb, hml, hown, hts⟩
  have hl := lv_entry ([.ref h_a1, .int p2, .ref h_a3]) (n := 4) (Nat.le_of_ble_eq_true rfl)
  rw [lg_entry_eq]
  generalize (lg_sl ([.ref h_a1, .int p2, .ref h_a3]) ++ List.replicate (4 - (lg_sl ([.ref h_a1, .int p2, .ref h_a3])).length) Slot.unset).toArray = ls at hl ⊢
  have hl : lv_has ls 4 [(0, .ref h_a1), (1, .int p2), (2, .ref h_a3)] := hl
  unfold kFX6_unpackNumbers at h
  refine lv_aload_n hx hb kdX6_unpackNumbers_0 rfl (lv_at hl 0 rfl) ?_
  refine lv_iload_n hx hb kdX6_unpackNumbers_1 rfl (lv_at hl 1 rfl) ?_
  refine lv_bipush (v := 12) hx hb kdX6_unpackNumbers_2 (by decide) ?_
  refine lv_aload_n hx hb kdX6_unpackNumbers_4 rfl (lv_at hl 2 rfl) ?_
  obtain ⟨u_2, hu_2, h⟩ := kb_o_s h
  obtain ⟨f_1, rfl⟩ : ∃ z, z = u_2 := ⟨_, rfl⟩
  have hC := (show ([0, 1] : List Nat).map (fun i : Nat => (kWX6_unpackNumbers cB cI cL cBB cII cSh h_a1 n_a1 h_a3 n_a3 f_a1 f_a3)[i]?) = List.map some (kWX6_unpack cB cI cL cBB cII cSh h_a1 n_a1 h_a3 n_a3 f_a1 f_a3) from rfl)
  have hPc := kb_Psub hP ([0, 1] : List Nat) hC
  have hDc := kb_Dsub hD ([0, 1] : List Nat) hC (by simp [kb_nd])
  refine kb_call0 (va_runS (As := [.ref h_a1, .int p2, .int (12 : Int32), .ref h_a3]) (rest := []) C0 (kcX6_unpack l D cB cI cL cBB cII cSh h_a1 h_a3 _ p2 (12 : Int32) n_a1 n_a3 f_a1 f_a3 f_1 hu_2) (va_cwS 4 hts (kb_gS km_558 km_442 km_15 km_443) rfl rfl rfl (by decide +kernel) ⟨Nat.le_of_ble_eq_true rfl, Nat.le_of_ble_eq_true rfl⟩) ⟨kb_P_bl, (fun U hU hW => ⟨rfl, by rw [hU], by rw [hU]; exact hPc, va_K.moved hW.alike hK, kb_N_to hW hN, hDc.weaken (fun _ _ _ _ => trivial)⟩)⟩ rfl rfl hl.1 rfl (lv_room (Nat.le_of_ble_eq_true rfl)) kdX6_unpackNumbers_5 ⟨Nat.le_of_ble_eq_true rfl, Nat.le_of_ble_eq_true rfl⟩) hP hD hS hA ([0, 1] : List Nat) hC rfl (fun H locs hP hD hS => ?_)
  have hP : va_P D kCl (kWX6_unpackNumbers cB cI cL cBB cII cSh h_a1 n_a1 h_a3 n_a3 f_a1 f_1) H := hP
  have hD : va_D A (kWX6_unpackNumbers cB cI cL cBB cII cSh h_a1 n_a1 h_a3 n_a3 f_a1 f_1) := hD
  refine lv_iconst (v := 0) hx hb kdX6_unpackNumbers_8 (by decide) ?_
  refine lv_istore_n (lv' := [(3, .int (0 : Int32)), (0, .ref h_a1), (1, .int p2), (2, .ref h_a3)]) hx hb kdX6_unpackNumbers_9 rfl hl (by decide) rfl (fun ls hl => ?_)
  obtain ⟨r_11, hr_11, h⟩ := kb_o_s h
  refine klX6_unpackNumbers_10 C0 hlocks hK hN hA (by decide) (by decide) h_a3 h_a1 n_a1 n_a3 f_a1 100000 (0 : Int32) f_1 r_11 hr_11 _ _ _ hP hD hS (lv_sub hl [3, 0] rfl) (fun x3p10_9 f_a3p10_10 er_11 H locs ls hP hD hS hl => ?_)
  subst er_11
  obtain rfl := Option.some.inj h
  exact W.vret hx hb hr (fun t ht hW => ⟨⟨rfl, by rw [ht]; exact hP, va_K.moved hW.alike hK, hD⟩, hS.F ht⟩) hS.2.2 kdX6_unpackNumbers_33

-- 451.ModuleKem.Kem.isReduced.lean.txt
abbrev kWX1_isReduced (cB cI cL cBB cII cSh : ClassId) (h_this : Nat) (a_this : Nat → Nat) (h_a1 : Nat) (h_a2 : Nat) (n_a2 : Nat) (f_this_term : Nat → Int32) (a1_rank : Int32) (a1_keyNoise : Int32) (a1_vectorBits : Int32) (a1_scalarBits : Int32) (f_a2 : Nat → Int32) : va_W := [(h_this, koX1 a_this), ((a_this 5), .inl (cI, 256, .inl f_this_term)), (h_a1, koX3  a1_rank a1_keyNoise a1_vectorBits a1_scalarBits), (h_a2, .inl (cB, n_a2, .inl f_a2))]
def krX1_isReduced : Room := { frames := 1, cells := 0, slots := 0, locals := 27 }
set_option maxHeartbeats 4000000 in
set_option maxRecDepth 100000 in
theorem klX1_isReduced_28 {p : Program} {l : Launch} {e : Env} {s : State} {m : MethodId} {args : Array Value} {below : List Frame} {meth : Method} {c : Code} {cells slots : Nat} {Q : State → Prop} {D : va_G} {cB cI cL cBB cII cSh : ClassId} {A : Nat → Prop} (C0 : CallFix p m c prog_3_method_3_code 5 s args kwA kRX1) (hlocks : meth.locks = false) (hK : va_K D kCl (kb_T cB cI cL cBB cII cSh) s) (hN : kb_N s) (hA : ∀ q, s.heap.size ≤ q → A q) (hcR : cells ≤ krX1_isReduced.cells) (hsR : slots ≤ krX1_isReduced.slots) (h_this h_a1 h_a2 : Nat) (a_this : Nat → Nat) (x3p2 : Int32) (n_a2 : Nat) (f_2 : Nat → Int32) (a1_rank : Int32) (a1_keyNoise : Int32) (a1_vectorBits : Int32) (a1_scalarBits : Int32) (f_a2 : Nat → Int32) :
    ∀ (fuel : Nat) (x4p28 : Int32) (r : (Int32) ⊕ (Int32)), kb_w (fun u : Int32 => kSX1_isReduced_28 f_2 u) fuel x4p28 = some r → ∀ (H : Heap) (locs : List Loc) (ls : Array Slot), va_P D kCl (kWX1_isReduced cB cI cL cBB cII cSh h_this a_this h_a1 h_a2 n_a2 f_2 a1_rank a1_keyNoise a1_vectorBits a1_scalarBits f_a2) H → va_D A (kWX1_isReduced cB cI cL cBB cII cSh h_this a_this h_a1 h_a2 n_a2 f_2 a1_rank a1_keyNoise a1_vectorBits a1_scalarBits f_a2) → va_S A s.heap H locs → lv_has ls 5 [(0, .ref h_this), (1, .ref h_a1), (2, .ref h_a2), (3, .int x3p2), (4, .int x4p28)] → (∀ (x4p28' : Int32), r = .inl x4p28' → ∀ (H : Heap) (locs : List Loc) (ls : Array Slot), va_P D kCl (kWX1_isReduced cB cI cL cBB cII cSh h_this a_this h_a1 h_a2 n_a2 f_2 a1_rank a1_keyNoise a1_vectorBits a1_scalarBits f_a2) H → va_D A (kWX1_isReduced cB cI cL cBB cII cSh h_this a_this h_a1 h_a2 n_a2 f_2 a1_rank a1_keyNoise a1_vectorBits a1_scalarBits f_a2) → va_S A s.heap H locs → lv_has ls 5 [(0, .ref h_this), (1, .ref h_a1), (2, .ref h_a2), (3, .int x3p2), (4, .int x4p28')] → W p l e krX1_isReduced s m args below meth c H locs cells slots Q (F0 m 49 ls [])) → (∀ (x4p28' : Int32), r = .inr x4p28' → ∀ (H : Heap) (locs : List Loc) (ls : Array Slot), va_P D kCl (kWX1_isReduced cB cI cL cBB cII cSh h_this a_this h_a1 h_a2 n_a2 f_2 a1_rank a1_keyNoise a1_vectorBits a1_scalarBits f_a2) H → va_D A (kWX1_isReduced cB cI cL cBB cII cSh h_this a_this h_a1 h_a2 n_a2 f_2 a1_rank a1_keyNoise a1_vectorBits a1_scalarBits f_a2) → va_S A s.heap H locs → lv_has ls 5 [(0, .ref h_this), (1, .ref h_a1), (2, .ref h_a2), (3, .int x3p2), (4, .int x4p28')] → W p l e krX1_isReduced s m args below meth c H locs cells slots Q (F0 m 57 ls [])) → W p l e krX1_isReduced s m args below meth c H locs cells slots Q (F0 m 28 ls []) := by
  obtain ⟨hx, hb, hml, hown, hts⟩ := id C0
  intro fuel
  induction fuel with
  | zero =>
    intro x4p28 r h
    exact absurd h (kb_w_z _ _ _)
  | succ fuel ih =>
    intro x4p28 r h H locs ls hP hD hS hl hk0 hk1
    obtain ⟨o, h, ho⟩ := kb_w_s h
    have h : kSX1_isReduced_28 f_2 x4p28 = some o := h
    unfold kSX1_isReduced_28 at h
    refine lv_iload hx hb kdX1_isReduced_28 (lv_at hl 4 rfl) ?_
    refine lv_sipush (v := 256) hx hb kdX1_isReduced_30 (by decide) ?_
    refine lv_icmp_ge (tgt := 57) hx hb kdX1_isReduced_33 (by decide) (fun c_4 => ?_) (fun c_4 => ?_)
    · have h := kb_b_t c_4 h
      obtain rfl := Option.some.inj h
      exact hk1 x4p28 ho.symm _ _ _ hP hD hS (lv_sub hl [0, 1, 2, 3, 4] rfl)
    · have h := kb_b_f c_4 h
      refine lv_aload_n hx hb kdX1_isReduced_36 rfl (lv_at hl 0 rfl) ?_
      refine va_get (ci := 1) (v := .ref (a_this 5)) (C := kRX1) (T := kTX1) (N := 13) hx hb hts kinX1 hown hK hP 0 rfl rfl 5 (by decide) (hts _ km_124) (fun _ h9 => h9) rfl kdX1_isReduced_37 ?_
      refine lv_iload hx hb kdX1_isReduced_40 (lv_at hl 4 rfl) ?_
      obtain ⟨g_5, h⟩ := kb_g_s h
      refine va_iald hx hb hK hP 1 1 rfl rfl (kb_in_v g_5) kdX1_isReduced_42 ?_
      refine lv_sipush (v := 3329) hx hb kdX1_isReduced_43 (by decide) ?_
      refine lv_icmp_lt (tgt := 51) hx hb kdX1_isReduced_46 (by decide) (fun c_6 => ?_) (fun c_6 => ?_)
      · have h := kb_b_t c_6 h
        obtain ⟨x4_7, ex4_7⟩ : ∃ y : Int32, y = x4p28 + Int32.ofInt 1 := ⟨_, rfl⟩
        have h := kb_n_s ex4_7 h
        refine lv_iinc (v := x4_7) (lv' := [(4, .int x4_7), (0, .ref h_this), (1, .ref h_a1), (2, .ref h_a2), (3, .int x3p2)]) hx hb kdX1_isReduced_51 hl (k := 4) rfl ex4_7.symm (by decide) rfl (fun ls hl => ?_)
        refine lv_goto (tgt := 28) hx hb kdX1_isReduced_54 (by decide) ?_
        obtain rfl := Option.some.inj h
        exact ih x4_7 r ho _ _ _ hP hD hS (lv_sub hl [1, 2, 3, 4, 0] rfl) hk0 hk1
      · have h := kb_b_f c_6 h
        obtain rfl := Option.some.inj h
        exact hk0 x4p28 ho.symm _ _ _ hP hD hS (lv_sub hl [0, 1, 2, 3, 4] rfl)
set_option maxHeartbeats 4000000 in
set_option maxRecDepth 100000 in
theorem klX1_isReduced_2 {p : Program} {l : Launch} {e : Env} {s : State} {m : MethodId} {args : Array Value} {below : List Frame} {meth : Method} {c : Code} {cells slots : Nat} {Q : State → Prop} {D : va_G} {cB cI cL cBB cII cSh : ClassId} {A : Nat → Prop} (C0 : CallFix p m c prog_3_method_3_code 5 s args kwA kRX1) (hlocks : meth.locks = false) (hK : va_K D kCl (kb_T cB cI cL cBB cII cSh) s) (hN : kb_N s) (hA : ∀ q, s.heap.size ≤ q → A q) (hcR : cells ≤ krX1_isReduced.cells) (hsR : slots ≤ krX1_isReduced.slots) (h_this h_a1 h_a2 : Nat) (a_this : Nat → Nat) (n_a2 : Nat) (a1_rank : Int32) (a1_keyNoise : Int32) (a1_vectorBits : Int32) (a1_scalarBits : Int32) (f_a2 : Nat → Int32) :
    ∀ (fuel : Nat) (x3p2 : Int32) (f_this_termp2 : Nat → Int32) (r : (Int32 × (Nat → Int32)) ⊕ (Int32 × (Nat → Int32))), kb_w (fun u : Int32 × (Nat → Int32) => kSX1_isReduced_2 n_a2 a1_rank f_a2 u.1 u.2) fuel (x3p2, f_this_termp2) = some r → ∀ (H : Heap) (locs : List Loc) (ls : Array Slot), va_P D kCl (kWX1_isReduced cB cI cL cBB cII cSh h_this a_this h_a1 h_a2 n_a2 f_this_termp2 a1_rank a1_keyNoise a1_vectorBits a1_scalarBits f_a2) H → va_D A (kWX1_isReduced cB cI cL cBB cII cSh h_this a_this h_a1 h_a2 n_a2 f_this_termp2 a1_rank a1_keyNoise a1_vectorBits a1_scalarBits f_a2) → va_S A s.heap H locs → lv_has ls 5 [(0, .ref h_this), (1, .ref h_a1), (2, .ref h_a2), (3, .int x3p2)] → (∀ (x3p2' : Int32) (f_this_termp2' : Nat → Int32), r = .inl (x3p2', f_this_termp2') → ∀ (H : Heap) (locs : List Loc) (ls : Array Slot), va_P D kCl (kWX1_isReduced cB cI cL cBB cII cSh h_this a_this h_a1 h_a2 n_a2 f_this_termp2' a1_rank a1_keyNoise a1_vectorBits a1_scalarBits f_a2) H → va_D A (kWX1_isReduced cB cI cL cBB cII cSh h_this a_this h_a1 h_a2 n_a2 f_this_termp2' a1_rank a1_keyNoise a1_vectorBits a1_scalarBits f_a2) → va_S A s.heap H locs → lv_has ls 5 [(0, .ref h_this), (1, .ref h_a1), (2, .ref h_a2), (3, .int x3p2')] → W p l e krX1_isReduced s m args below meth c H locs cells slots Q (F0 m 49 ls [])) → (∀ (x3p2' : Int32) (f_this_termp2' : Nat → Int32), r = .inr (x3p2', f_this_termp2') → ∀ (H : Heap) (locs : List Loc) (ls : Array Slot), va_P D kCl (kWX1_isReduced cB cI cL cBB cII cSh h_this a_this h_a1 h_a2 n_a2 f_this_termp2' a1_rank a1_keyNoise a1_vectorBits a1_scalarBits f_a2) H → va_D A (kWX1_isReduced cB cI cL cBB cII cSh h_this a_this h_a1 h_a2 n_a2 f_this_termp2' a1_rank a1_keyNoise a1_vectorBits a1_scalarBits f_a2) → va_S A s.heap H locs → lv_has ls 5 [(0, .ref h_this), (1, .ref h_a1), (2, .ref h_a2), (3, .int x3p2')] → W p l e krX1_isReduced s m args below meth c H locs cells slots Q (F0 m 63 ls [])) → W p l e krX1_isReduced s m args below meth c H locs cells slots Q (F0 m 2 ls []) := by
  obtain ⟨hx, hb, hml, hown, hts⟩ := id C0
  intro fuel
  induction fuel with
  | zero =>
    intro x3p2 f_this_termp2 r h
    exact absurd h (kb_w_z _ _ _)
  | succ fuel ih =>
    intro x3p2 f_this_termp2 r h H locs ls hP hD hS hl hk0 hk1
    obtain ⟨o, h, ho⟩ := kb_w_s h
    have h : kSX1_isReduced_2 n_a2 a1_rank f_a2 x3p2 f_this_termp2 = some o := h
    unfold kSX1_isReduced_2 at h
    refine lv_iload_n hx hb kdX1_isReduced_2 rfl (lv_at hl 3 rfl) ?_
    refine lv_aload_n hx hb kdX1_isReduced_3 rfl (lv_at hl 1 rfl) ?_
    refine va_get (ci := 3) (v := .int a1_rank) (C := kRX3) (T := kTX3) (N := 4) hx hb hts kinX3 hown hK hP 2 rfl rfl 0 (by decide) (hts _ km_36) (fun _ h9 => h9) rfl kdX1_isReduced_4 ?_
    refine lv_icmp_ge (tgt := 63) hx hb kdX1_isReduced_7 (by decide) (fun c_1 => ?_) (fun c_1 => ?_)
    · have h := kb_b_t c_1 h
      obtain rfl := Option.some.inj h
      exact hk1 x3p2 f_this_termp2 ho.symm _ _ _ hP hD hS (lv_sub hl [0, 1, 2, 3] rfl)
    · have h := kb_b_f c_1 h
      refine lv_aload_n hx hb kdX1_isReduced_10 rfl (lv_at hl 2 rfl) ?_
      refine lv_sipush (v := 384) hx hb kdX1_isReduced_11 (by decide) ?_
      refine lv_iload_n hx hb kdX1_isReduced_14 rfl (lv_at hl 3 rfl) ?_
      refine lv_imul hx hb kdX1_isReduced_15 ?_
      refine lv_bipush (v := 12) hx hb kdX1_isReduced_16 (by decide) ?_
      refine lv_aload_n hx hb kdX1_isReduced_18 rfl (lv_at hl 0 rfl) ?_
      refine va_get (ci := 1) (v := .ref (a_this 5)) (C := kRX1) (T := kTX1) (N := 13) hx hb hts kinX1 hown hK hP 0 rfl rfl 5 (by decide) (hts _ km_124) (fun _ h9 => h9) rfl kdX1_isReduced_19 ?_
      obtain ⟨u_3, hu_3, h⟩ := kb_o_s h
      obtain ⟨f_2, rfl⟩ : ∃ z, z = u_3 := ⟨_, rfl⟩
      have hC := (show ([3, 1] : List Nat).map (fun i : Nat => (kWX1_isReduced cB cI cL cBB cII cSh h_this a_this h_a1 h_a2 n_a2 f_this_termp2 a1_rank a1_keyNoise a1_vectorBits a1_scalarBits f_a2)[i]?) = List.map some (kWX6_unpack cB cI cL cBB cII cSh h_a2 n_a2 (a_this 5) 256 f_a2 f_this_termp2) from rfl)
      have hPc := kb_Psub hP ([3, 1] : List Nat) hC
      have hDc := kb_Dsub hD ([3, 1] : List Nat) hC (by simp [kb_nd])
      refine kb_call0 (va_runS (As := [.ref h_a2, .int ((384 : Int32) * x3p2), .int (12 : Int32), .ref (a_this 5)]) (rest := []) C0 (kcX6_unpack l D cB cI cL cBB cII cSh h_a2 (a_this 5) _ ((384 : Int32) * x3p2) (12 : Int32) n_a2 256 f_a2 f_this_termp2 f_2 hu_3) (va_cwS 4 hts (kb_gS km_441 km_442 km_15 km_443) rfl rfl rfl (by decide +kernel) ⟨Nat.le_of_ble_eq_true rfl, Nat.le_of_ble_eq_true rfl⟩) ⟨kb_P_bl, (fun U hU hW => ⟨rfl, by rw [hU], by rw [hU]; exact hPc, va_K.moved hW.alike hK, kb_N_to hW hN, hDc.weaken (fun _ _ _ _ => trivial)⟩)⟩ rfl rfl hl.1 rfl (lv_room (Nat.le_of_ble_eq_true rfl)) kdX1_isReduced_22 ⟨hcR, hsR⟩) hP hD hS hA ([3, 1] : List Nat) hC rfl (fun H locs hP hD hS => ?_)
      have hP : va_P D kCl (kWX1_isReduced cB cI cL cBB cII cSh h_this a_this h_a1 h_a2 n_a2 f_2 a1_rank a1_keyNoise a1_vectorBits a1_scalarBits f_a2) H := hP
      have hD : va_D A (kWX1_isReduced cB cI cL cBB cII cSh h_this a_this h_a1 h_a2 n_a2 f_2 a1_rank a1_keyNoise a1_vectorBits a1_scalarBits f_a2) := hD
      refine lv_iconst (v := 0) hx hb kdX1_isReduced_25 (by decide) ?_
      refine lv_istore (lv' := [(4, .int (0 : Int32)), (0, .ref h_this), (1, .ref h_a1), (2, .ref h_a2), (3, .int x3p2)]) hx hb kdX1_isReduced_26 hl (by decide) rfl (fun ls hl => ?_)
      obtain ⟨r_11, hr_11, h⟩ := kb_o_s h
      refine klX1_isReduced_28 C0 hlocks hK hN hA hcR hsR h_this h_a1 h_a2 a_this x3p2 n_a2 f_2 a1_rank a1_keyNoise a1_vectorBits a1_scalarBits f_a2 100000 (0 : Int32) r_11 hr_11 _ _ _ hP hD hS (lv_sub hl [1, 2, 3, 4, 0] rfl) (fun x4p28_8 er_11 H locs ls hP hD hS hl => ?_) (fun x4p28_9 er_11 H locs ls hP hD hS hl => ?_)
      · subst er_11
        have h := kb_s_il h
        obtain rfl := Option.some.inj h
        exact hk0 x3p2 f_2 ho.symm _ _ _ hP hD hS (lv_sub hl [0, 1, 2, 3] rfl)
      · subst er_11
        have h := kb_s_ir h
        obtain ⟨x3_10, ex3_10⟩ : ∃ y : Int32, y = x3p2 + Int32.ofInt 1 := ⟨_, rfl⟩
        have h := kb_n_s ex3_10 h
        refine lv_iinc (v := x3_10) (lv' := [(3, .int x3_10), (0, .ref h_this), (1, .ref h_a1), (2, .ref h_a2), (4, .int x4p28_9)]) hx hb kdX1_isReduced_57 hl (k := 3) rfl ex3_10.symm (by decide) rfl (fun ls hl => ?_)
        refine lv_goto (tgt := 2) hx hb kdX1_isReduced_60 (by decide) ?_
        obtain rfl := Option.some.inj h
        exact ih x3_10 f_2 r ho _ _ _ hP hD hS (lv_sub hl [1, 2, 3, 0] rfl) hk0 hk1
set_option maxHeartbeats 4000000 in
set_option maxRecDepth 100000 in
theorem kcX1_isReduced (l : Launch) (D : va_G) (cB cI cL cBB cII cSh : ClassId) (h_this h_a1 h_a2 : Nat) (a_this : Nat → Nat) (sz : Nat) (n_a2 : Nat) (f_this_term : Nat → Int32) (a1_rank : Int32) (a1_keyNoise : Int32) (a1_vectorBits : Int32) (a1_scalarBits : Int32) (f_a2 : Nat → Int32) (out : Int32 × (Nat → Int32)) (h : kFX1_isReduced n_a2 f_this_term a1_rank f_a2 = some out) : Met l kyX1_isReduced kwX1_isReduced krX1_isReduced (kb_P D kCl (kb_T cB cI cL cBB cII cSh) [.ref h_this, .ref h_a1, .ref h_a2] (kWX1_isReduced cB cI cL cBB cII cSh h_this a_this h_a1 h_a2 n_a2 f_this_term a1_rank a1_keyNoise a1_vectorBits a1_scalarBits f_a2) sz) (kb_Q D kCl (kb_T cB cI cL cBB cII cSh) (va_A (kWX1_isReduced cB cI cL cBB cII cSh h_this a_this h_a1 h_a2 n_a2 f_this_term a1_rank a1_keyNoise a1_vectorBits a1_scalarBits f_a2) sz) (some (.int out.1)) (kWX1_isReduced cB cI cL cBB cII cSh h_this a_this h_a1 h_a2 n_a2 out.2 a1_rank a1_keyNoise a1_vectorBits a1_scalarBits f_a2)) 0 0 (va_A (kWX1_isReduced cB cI cL cBB cII cSh h_this a_this h_a1 h_a2 n_a2 f_this_term a1_rank a1_keyNoise a1_vectorBits a1_scalarBits f_a2) sz) := by
  refine Met.ofW (cc := prog_3_method_3_code) (maxL := 5) (ret := (some .boolean)) (by decide) rfl ?_
  intro p e s m args below meth c s₁ B hml hv
  obtain ⟨rfl, hsz, hP, hK, hN, hD0⟩ := hv
  have hx := B.exec
  have hb := B.bytes
  have hr := B.returns
  have hts0 := atoms_spec (ws := kwX1_isReduced) B.pre
  have hts : ∀ w ∈ kwA, w.before _ s = true := fun w h => hts0 w (List.mem_cons_of_mem _ h)
  have hown : s.vm.findClass kRX1 = some m.cls := findClass_of_methodNamed B.named
  have hlocks := B.notSynchronized
  subst hsz
  have hD := hD0.self (sz := s.heap.size)
  generalize hAe : va_A (kWX1_isReduced cB cI cL cBB cII cSh h_this a_this h_a1 h_a2 n_a2 f_this_term a1_rank a1_keyNoise a1_vectorBits a1_scalarBits f_a2) s.heap.size = A at hD ⊢
  have hA : ∀ q : Nat, s.heap.size ≤ q → A q := fun q h => by rw [← hAe]; exact Or.inr h
  have hS : va_S A s.heap s.heap [] := va_S.rf
  have C0 : CallFix p m c prog_3_method_3_code 5 s _ kwA kRX1 := ⟨hx, hb, hml, hown, hts⟩
  have hl := lv_entry ([.ref h_this, .ref h_a1, .ref h_a2]) (n := 5) (Nat.le_of_ble_eq_true rfl)
  rw [lg_entry_eq]
  generalize (lg_sl ([.ref h_this, .ref h_a1, .ref h_a2]) ++ List.replicate (5 - (lg_sl ([.ref h_this, .ref h_a1, .ref h_a2])).length) Slot.unset).toArray = ls at hl ⊢
  have hl : lv_has ls 5 [(0, .ref h_this), (1, .ref h_a1), (2, .ref h_a2)] := hl
  unfold kFX1_isReduced at h
  refine lv_iconst (v := 0) hx hb kdX1_isReduced_0 (by decide) ?_
  refine lv_istore_n (lv' := [(3, .int (0 : Int32)), (0, .ref h_this), (1, .ref h_a1), (2, .ref h_a2)]) hx hb kdX1_isReduced_1 rfl hl (by decide) rfl (fun ls hl => ?_)
  obtain ⟨r_16, hr_16, h⟩ := kb_o_s h
  refine klX1_isReduced_2 C0 hlocks hK hN hA (by decide) (by decide) h_this h_a1 h_a2 a_this n_a2 a1_rank a1_keyNoise a1_vectorBits a1_scalarBits f_a2 100000 (0 : Int32) f_this_term r_16 hr_16 _ _ _ hP hD hS (lv_sub hl [1, 2, 3, 0] rfl) (fun x3p2_12 f_this_termp2_13 er_16 H locs ls hP hD hS hl => ?_) (fun x3p2_14 f_this_termp2_15 er_16 H locs ls hP hD hS hl => ?_)
  · subst er_16
    have h := kb_s_il h
    refine lv_iconst (v := 0) hx hb kdX1_isReduced_49 (by decide) ?_
    obtain rfl := Option.some.inj h
    exact W.zret (v := (0 : Int32)) (ty := .boolean) hx hb hr (by decide) (fun t ht hW => ⟨⟨rfl, by rw [ht]; exact hP, va_K.moved hW.alike hK, hD⟩, hS.F ht⟩) hS.2.2 kdX1_isReduced_50
  · subst er_16
    have h := kb_s_ir h
    refine lv_iconst (v := 1) hx hb kdX1_isReduced_63 (by decide) ?_
    obtain rfl := Option.some.inj h
    exact W.zret (v := (1 : Int32)) (ty := .boolean) hx hb hr (by decide) (fun t ht hW => ⟨⟨rfl, by rw [ht]; exact hP, va_K.moved hW.alike hK, hD⟩, hS.F ht⟩) hS.2.2 kdX1_isReduced_64

-- 452.ModuleKem.Ring.turnedRound.lean.txt
abbrev kWX2_turnedRound (cB cI cL cBB cII cSh : ClassId)   : va_W := []
def krX2_turnedRound : Room := { frames := 0, cells := 0, slots := 0, locals := 0 }
set_option maxHeartbeats 4000000 in
set_option maxRecDepth 100000 in
theorem klX2_turnedRound_4 {p : Program} {l : Launch} {e : Env} {s : State} {m : MethodId} {args : Array Value} {below : List Frame} {meth : Method} {c : Code} {cells slots : Nat} {Q : State → Prop} {D : va_G} {cB cI cL cBB cII cSh : ClassId} {A : Nat → Prop} (C0 : CallFix p m c prog_4_method_2_code 3 s args kwA kRX2) (hlocks : meth.locks = false) (hK : va_K D kCl (kb_T cB cI cL cBB cII cSh) s) (hN : kb_N s) (hA : ∀ q, s.heap.size ≤ q → A q) (hcR : cells ≤ krX2_turnedRound.cells) (hsR : slots ≤ krX2_turnedRound.slots)  (p1 : Int32) :
    ∀ (fuel : Nat) (x1p4 : Int32) (x2p4 : Int32) (r : Int32 × Int32), kb_w (fun u : Int32 × Int32 => kSX2_turnedRound_4 p1 u.1 u.2) fuel (x1p4, x2p4) = some r → ∀ (H : Heap) (locs : List Loc) (ls : Array Slot), va_P D kCl (kWX2_turnedRound cB cI cL cBB cII cSh) H → va_D A (kWX2_turnedRound cB cI cL cBB cII cSh) → va_S A s.heap H locs → lv_has ls 3 [(0, .int p1), (1, .int x1p4), (2, .int x2p4)] → (∀ (x1p4' : Int32) (x2p4' : Int32), r = (x1p4', x2p4') → ∀ (H : Heap) (locs : List Loc) (ls : Array Slot), va_P D kCl (kWX2_turnedRound cB cI cL cBB cII cSh) H → va_D A (kWX2_turnedRound cB cI cL cBB cII cSh) → va_S A s.heap H locs → lv_has ls 3 [(0, .int p1), (1, .int x1p4'), (2, .int x2p4')] → W p l e krX2_turnedRound s m args below meth c H locs cells slots Q (F0 m 26 ls [])) → W p l e krX2_turnedRound s m args below meth c H locs cells slots Q (F0 m 4 ls []) := by
  obtain ⟨hx, hb, hml, hown, hts⟩ := id C0
  intro fuel
  induction fuel with
  | zero =>
    intro x1p4 x2p4 r h
    exact absurd h (kb_w_z _ _ _)
  | succ fuel ih =>
    intro x1p4 x2p4 r h H locs ls hP hD hS hl hk0
    obtain ⟨o, h, ho⟩ := kb_w_s h
    have h : kSX2_turnedRound_4 p1 x1p4 x2p4 = some o := h
    unfold kSX2_turnedRound_4 at h
    refine lv_iload_n hx hb kdX2_turnedRound_4 rfl (lv_at hl 2 rfl) ?_
    refine lv_bipush (v := 7) hx hb kdX2_turnedRound_5 (by decide) ?_
    refine lv_icmp_ge (tgt := 26) hx hb kdX2_turnedRound_7 (by decide) (fun c_1 => ?_) (fun c_1 => ?_)
    · have h := kb_b_t c_1 h
      obtain rfl := Option.some.inj h
      exact hk0 x1p4 x2p4 ho.symm _ _ _ hP hD hS (lv_sub hl [0, 1, 2] rfl)
    · have h := kb_b_f c_1 h
      refine lv_iload_n hx hb kdX2_turnedRound_10 rfl (lv_at hl 1 rfl) ?_
      refine lv_iconst (v := 1) hx hb kdX2_turnedRound_11 (by decide) ?_
      refine lv_ishl hx hb kdX2_turnedRound_12 ?_
      refine lv_iload_n hx hb kdX2_turnedRound_13 rfl (lv_at hl 0 rfl) ?_
      refine lv_iload_n hx hb kdX2_turnedRound_14 rfl (lv_at hl 2 rfl) ?_
      refine lv_ishr hx hb kdX2_turnedRound_15 ?_
      refine lv_iconst (v := 1) hx hb kdX2_turnedRound_16 (by decide) ?_
      refine lv_iand hx hb kdX2_turnedRound_17 ?_
      refine lv_ior hx hb kdX2_turnedRound_18 ?_
      refine lv_topi (fun x1_2 ex1_2 => ?_)
      have h := kb_n_s ex1_2 h
      refine lv_istore_n (lv' := [(1, .int x1_2), (0, .int p1), (2, .int x2p4)]) hx hb kdX2_turnedRound_19 rfl hl (by decide) rfl (fun ls hl => ?_)
      obtain ⟨x2_3, ex2_3⟩ : ∃ y : Int32, y = x2p4 + Int32.ofInt 1 := ⟨_, rfl⟩
      have h := kb_n_s ex2_3 h
      refine lv_iinc (v := x2_3) (lv' := [(2, .int x2_3), (1, .int x1_2), (0, .int p1)]) hx hb kdX2_turnedRound_20 hl (k := 2) rfl ex2_3.symm (by decide) rfl (fun ls hl => ?_)
      refine lv_goto (tgt := 4) hx hb kdX2_turnedRound_23 (by decide) ?_
      obtain rfl := Option.some.inj h
      exact ih x1_2 x2_3 r ho _ _ _ hP hD hS (lv_sub hl [2, 1, 0] rfl) hk0
set_option maxHeartbeats 4000000 in
set_option maxRecDepth 100000 in
theorem kcX2_turnedRound (l : Launch) (D : va_G) (cB cI cL cBB cII cSh : ClassId)  (sz : Nat) (p1 : Int32) (out : Int32) (h : kFX2_turnedRound p1 = some out) : Met l kyX2_turnedRound kwX2_turnedRound krX2_turnedRound (kb_P D kCl (kb_T cB cI cL cBB cII cSh) [.int p1] (kWX2_turnedRound cB cI cL cBB cII cSh) sz) (kb_Q D kCl (kb_T cB cI cL cBB cII cSh) (va_A (kWX2_turnedRound cB cI cL cBB cII cSh) sz) (some (.int out)) (kWX2_turnedRound cB cI cL cBB cII cSh)) 0 0 (va_A (kWX2_turnedRound cB cI cL cBB cII cSh) sz) := by
  refine Met.ofW (cc := prog_4_method_2_code) (maxL := 3) (ret := (some .int)) (by decide) rfl ?_
  intro p e s m args below meth c s₁ B hml hv
  obtain ⟨rfl, hsz, hP, hK, hN, hD0⟩ := hv
  have hx := B.exec
  have hb := B.bytes
  have hr := B.returns
  have hts0 := atoms_spec (ws := kwX2_turnedRound) B.pre
  have hts : ∀ w ∈ kwA, w.before _ s = true := fun w h => hts0 w (List.mem_cons_of_mem _ h)
  have hown : s.vm.findClass kRX2 = some m.cls := findClass_of_methodNamed B.named
  have hlocks := B.notSynchronized
  subst hsz
  have hD := hD0.self (sz := s.heap.size)
  generalize hAe : va_A (kWX2_turnedRound cB cI cL cBB cII cSh) s.heap.size = A at hD ⊢
  have hA : ∀ q : Nat, s.heap.size ≤ q → A q := fun q h => by rw [← hAe]; exact Or.inr h
  have hS : va_S A s.heap s.heap [] := va_S.rf
  have C0 : CallFix p m c prog_4_method_2_code 3 s _ kwA kRX2 := ⟨hx, hb, hml, hown, hts⟩
  have hl := lv_entry ([.int p1]) (n := 3) (Nat.le_of_ble_eq_true rfl)
  rw [lg_entry_eq]
  generalize (lg_sl ([.int p1]) ++ List.replicate (3 - (lg_sl ([.int p1])).length) Slot.unset).toArray = ls at hl ⊢
  have hl : lv_has ls 3 [(0, .int p1)] := hl
  unfold kFX2_turnedRound at h
  refine lv_iconst (v := 0) hx hb kdX2_turnedRound_0 (by decide) ?_
  refine lv_istore_n (lv' := [(1, .int (0 : Int32)), (0, .int p1)]) hx hb kdX2_turnedRound_1 rfl hl (by decide) rfl (fun ls hl => ?_)
  refine lv_iconst (v := 0) hx hb kdX2_turnedRound_2 (by decide) ?_
  refine lv_istore_n (lv' := [(2, .int (0 : Int32)), (1, .int (0 : Int32)), (0, .int p1)]) hx hb kdX2_turnedRound_3 rfl hl (by decide) rfl (fun ls hl => ?_)
  obtain ⟨r_6, hr_6, h⟩ := kb_o_s h
  refine klX2_turnedRound_4 C0 hlocks hK hN hA (by decide) (by decide) p1 100000 (0 : Int32) (0 : Int32) r_6 hr_6 _ _ _ hP hD hS (lv_sub hl [2, 1, 0] rfl) (fun x1p4_4 x2p4_5 er_6 H locs ls hP hD hS hl => ?_)
  subst er_6
  refine lv_iload_n hx hb kdX2_turnedRound_26 rfl (lv_at hl 1 rfl) ?_
  obtain rfl := Option.some.inj h
  exact W.iret (v := x1p4_4) hx hb hr (fun t ht hW => ⟨⟨rfl, by rw [ht]; exact hP, va_K.moved hW.alike hK, hD⟩, hS.F ht⟩) hS.2.2 kdX2_turnedRound_27

-- 453.ModuleKem.Ring.transform.lean.txt
abbrev kWX2_transform (cB cI cL cBB cII cSh : ClassId) (h_this : Nat) (a_this : Nat → Nat) (h_a1 : Nat) (n_a1 : Nat) (f_this_powers : Nat → Int32) (f_a1 : Nat → Int32) : va_W := [(h_this, koX2 a_this), ((a_this 0), .inl (cI, 128, .inl f_this_powers)), (h_a1, .inl (cI, n_a1, .inl f_a1))]
def krX2_transform : Room := { frames := 0, cells := 0, slots := 0, locals := 0 }
set_option maxHeartbeats 4000000 in
set_option maxRecDepth 100000 in
theorem klX2_transform_37 {p : Program} {l : Launch} {e : Env} {s : State} {m : MethodId} {args : Array Value} {below : List Frame} {meth : Method} {c : Code} {cells slots : Nat} {Q : State → Prop} {D : va_G} {cB cI cL cBB cII cSh : ClassId} {A : Nat → Prop} (C0 : CallFix p m c prog_4_method_3_code 8 s args kwA kRX2) (hlocks : meth.locks = false) (hK : va_K D kCl (kb_T cB cI cL cBB cII cSh) s) (hN : kb_N s) (hA : ∀ q, s.heap.size ≤ q → A q) (hcR : cells ≤ krX2_transform.cells) (hsR : slots ≤ krX2_transform.slots) (h_this h_a1 : Nat) (a_this : Nat → Nat) (x2_5 : Int32) (x3p6 : Int32) (x4p14 : Int32) (x5_4 : Int32) (n_a1 : Nat) (f_this_powers : Nat → Int32) :
    ∀ (fuel : Nat) (x6p37 : Int32) (f_a1p37 : Nat → Int32) (r : Int32 × (Nat → Int32)), kb_w (fun u : Int32 × (Nat → Int32) => kSX2_transform_37 x3p6 x4p14 x5_4 n_a1 u.1 u.2) fuel (x6p37, f_a1p37) = some r → ∀ (H : Heap) (locs : List Loc) (ls : Array Slot), va_P D kCl (kWX2_transform cB cI cL cBB cII cSh h_this a_this h_a1 n_a1 f_this_powers f_a1p37) H → va_D A (kWX2_transform cB cI cL cBB cII cSh h_this a_this h_a1 n_a1 f_this_powers f_a1p37) → va_S A s.heap H locs → lv_has ls 8 [(0, .ref h_this), (1, .ref h_a1), (2, .int x2_5), (3, .int x3p6), (4, .int x4p14), (5, .int x5_4), (6, .int x6p37)] → (∀ (x6p37' : Int32) (f_a1p37' : Nat → Int32), r = (x6p37', f_a1p37') → ∀ (H : Heap) (locs : List Loc) (ls : Array Slot), va_P D kCl (kWX2_transform cB cI cL cBB cII cSh h_this a_this h_a1 n_a1 f_this_powers f_a1p37') H → va_D A (kWX2_transform cB cI cL cBB cII cSh h_this a_this h_a1 n_a1 f_this_powers f_a1p37') → va_S A s.heap H locs → lv_has ls 8 [(0, .ref h_this), (1, .ref h_a1), (2, .int x2_5), (3, .int x3p6), (4, .int x4p14), (5, .int x5_4), (6, .int x6p37')] → W p l e krX2_transform s m args below meth c H locs cells slots Q (F0 m 103 ls [])) → W p l e krX2_transform s m args below meth c H locs cells slots Q (F0 m 37 ls []) := by
  obtain ⟨hx, hb, hml, hown, hts⟩ := id C0
  intro fuel
  induction fuel with
  | zero =>
    intro x6p37 f_a1p37 r h
    exact absurd h (kb_w_z _ _ _)
  | succ fuel ih =>
    intro x6p37 f_a1p37 r h H locs ls hP hD hS hl hk0
    obtain ⟨o, h, ho⟩ := kb_w_s h
    have h : kSX2_transform_37 x3p6 x4p14 x5_4 n_a1 x6p37 f_a1p37 = some o := h
    unfold kSX2_transform_37 at h
    refine lv_iload hx hb kdX2_transform_37 (lv_at hl 6 rfl) ?_
    refine lv_iload hx hb kdX2_transform_39 (lv_at hl 4 rfl) ?_
    refine lv_iload_n hx hb kdX2_transform_41 rfl (lv_at hl 3 rfl) ?_
    refine lv_iadd hx hb kdX2_transform_42 ?_
    refine lv_icmp_ge (tgt := 103) hx hb kdX2_transform_43 (by decide) (fun c_6 => ?_) (fun c_6 => ?_)
    · have h := kb_b_t c_6 h
      obtain rfl := Option.some.inj h
      exact hk0 x6p37 f_a1p37 ho.symm _ _ _ hP hD hS (lv_sub hl [0, 1, 2, 3, 4, 5, 6] rfl)
    · have h := kb_b_f c_6 h
      refine lv_iload hx hb kdX2_transform_46 (lv_at hl 5 rfl) ?_
      refine lv_aload_n hx hb kdX2_transform_48 rfl (lv_at hl 1 rfl) ?_
      refine lv_iload hx hb kdX2_transform_49 (lv_at hl 6 rfl) ?_
      refine lv_iload_n hx hb kdX2_transform_51 rfl (lv_at hl 3 rfl) ?_
      refine lv_iadd hx hb kdX2_transform_52 ?_
      obtain ⟨g_7, h⟩ := kb_g_s h
      refine va_iald hx hb hK hP 2 1 rfl rfl (kb_in_v g_7) kdX2_transform_53 ?_
      refine lv_imul hx hb kdX2_transform_54 ?_
      refine lv_sipush (v := 3329) hx hb kdX2_transform_55 (by decide) ?_
      refine lv_irem hx hb kdX2_transform_58 (by decide) ?_
      refine lv_topi (fun q_8 eq_8 => ?_)
      have h := kb_n_s eq_8 h
      refine lv_istore (lv' := [(7, .int q_8), (0, .ref h_this), (1, .ref h_a1), (2, .int x2_5), (3, .int x3p6), (4, .int x4p14), (5, .int x5_4), (6, .int x6p37)]) hx hb kdX2_transform_59 hl (by decide) rfl (fun ls hl => ?_)
      refine lv_aload_n hx hb kdX2_transform_61 rfl (lv_at hl 2 rfl) ?_
      refine lv_iload hx hb kdX2_transform_62 (lv_at hl 7 rfl) ?_
      refine lv_iload_n hx hb kdX2_transform_64 rfl (lv_at hl 4 rfl) ?_
      refine lv_iadd hx hb kdX2_transform_65 ?_
      refine lv_aload_n hx hb kdX2_transform_66 rfl (lv_at hl 2 rfl) ?_
      refine lv_iload hx hb kdX2_transform_67 (lv_at hl 7 rfl) ?_
      obtain ⟨g_9, h⟩ := kb_g_s h
      refine va_iald hx hb hK hP 2 1 rfl rfl (kb_in_v g_9) kdX2_transform_69 ?_
      refine lv_sipush (v := 3329) hx hb kdX2_transform_70 (by decide) ?_
      refine lv_iadd hx hb kdX2_transform_73 ?_
      refine lv_iload hx hb kdX2_transform_74 (lv_at hl 0 rfl) ?_
      refine lv_isub hx hb kdX2_transform_76 ?_
      refine lv_sipush (v := 3329) hx hb kdX2_transform_77 (by decide) ?_
      refine lv_irem hx hb kdX2_transform_80 (by decide) ?_
      refine lv_topi (fun q_10 eq_10 => ?_)
      have h := kb_n_s eq_10 h
      obtain ⟨g_11, h⟩ := kb_g_s h
      refine va_iast hx hb hK hP hD hS 2 1 rfl rfl (kb_in_v g_11) kdX2_transform_81 (fun H locs hP hD hS => ?_)
      obtain ⟨f_12, ef_12⟩ : ∃ y, y = upd f_a1p37 (x6p37 + x3p6).toNatClampNeg q_10 := ⟨_, rfl⟩
      have h := kb_n_s ef_12 h
      have hP : va_P D kCl (kWX2_transform cB cI cL cBB cII cSh h_this a_this h_a1 n_a1 f_this_powers f_12) H := by rw [ef_12]; exact hP
      have hD : va_D A (kWX2_transform cB cI cL cBB cII cSh h_this a_this h_a1 n_a1 f_this_powers f_12) := by rw [ef_12]; exact hD
      refine lv_aload_n hx hb kdX2_transform_82 rfl (lv_at hl 2 rfl) ?_
      refine lv_iload hx hb kdX2_transform_83 (lv_at hl 7 rfl) ?_
      refine lv_aload_n hx hb kdX2_transform_85 rfl (lv_at hl 2 rfl) ?_
      refine lv_iload hx hb kdX2_transform_86 (lv_at hl 7 rfl) ?_
      obtain ⟨g_13, h⟩ := kb_g_s h
      refine va_iald hx hb hK hP 2 1 rfl rfl (kb_in_v g_13) kdX2_transform_88 ?_
      refine lv_iload hx hb kdX2_transform_89 (lv_at hl 0 rfl) ?_
      refine lv_iadd hx hb kdX2_transform_91 ?_
      refine lv_sipush (v := 3329) hx hb kdX2_transform_92 (by decide) ?_
      refine lv_irem hx hb kdX2_transform_95 (by decide) ?_
      refine lv_topi (fun q_14 eq_14 => ?_)
      have h := kb_n_s eq_14 h
      obtain ⟨g_15, h⟩ := kb_g_s h
      refine va_iast hx hb hK hP hD hS 2 1 rfl rfl (kb_in_v g_15) kdX2_transform_96 (fun H locs hP hD hS => ?_)
      obtain ⟨f_16, ef_16⟩ : ∃ y, y = upd f_12 x6p37.toNatClampNeg q_14 := ⟨_, rfl⟩
      have h := kb_n_s ef_16 h
      have hP : va_P D kCl (kWX2_transform cB cI cL cBB cII cSh h_this a_this h_a1 n_a1 f_this_powers f_16) H := by rw [ef_16]; exact hP
      have hD : va_D A (kWX2_transform cB cI cL cBB cII cSh h_this a_this h_a1 n_a1 f_this_powers f_16) := by rw [ef_16]; exact hD
      obtain ⟨x6_17, ex6_17⟩ : ∃ y : Int32, y = x6p37 + Int32.ofInt 1 := ⟨_, rfl⟩
      have h := kb_n_s ex6_17 h
      refine lv_iinc (v := x6_17) (lv' := [(6, .int x6_17), (7, .int q_8), (0, .ref h_this), (1, .ref h_a1), (2, .int x2_5), (3, .int x3p6), (4, .int x4p14), (5, .int x5_4)]) hx hb kdX2_transform_97 hl (k := 7) rfl ex6_17.symm (by decide) rfl (fun ls hl => ?_)
      refine lv_goto (tgt := 37) hx hb kdX2_transform_100 (by decide) ?_
      obtain rfl := Option.some.inj h
      exact ih x6_17 f_16 r ho _ _ _ hP hD hS (lv_sub hl [2, 3, 4, 5, 6, 7, 0] rfl) hk0
set_option maxHeartbeats 4000000 in
set_option maxRecDepth 100000 in
theorem klX2_transform_14 {p : Program} {l : Launch} {e : Env} {s : State} {m : MethodId} {args : Array Value} {below : List Frame} {meth : Method} {c : Code} {cells slots : Nat} {Q : State → Prop} {D : va_G} {cB cI cL cBB cII cSh : ClassId} {A : Nat → Prop} (C0 : CallFix p m c prog_4_method_3_code 8 s args kwA kRX2) (hlocks : meth.locks = false) (hK : va_K D kCl (kb_T cB cI cL cBB cII cSh) s) (hN : kb_N s) (hA : ∀ q, s.heap.size ≤ q → A q) (hcR : cells ≤ krX2_transform.cells) (hsR : slots ≤ krX2_transform.slots) (h_this h_a1 : Nat) (a_this : Nat → Nat) (x3p6 : Int32) (n_a1 : Nat) (f_this_powers : Nat → Int32) :
    ∀ (fuel : Nat) (x2p14 : Int32) (x4p14 : Int32) (f_a1p14 : Nat → Int32) (r : Int32 × Int32 × (Nat → Int32)), kb_w (fun u : Int32 × Int32 × (Nat → Int32) => kSX2_transform_14 x3p6 n_a1 f_this_powers u.1 u.2.1 u.2.2) fuel (x2p14, x4p14, f_a1p14) = some r → ∀ (H : Heap) (locs : List Loc) (ls : Array Slot), va_P D kCl (kWX2_transform cB cI cL cBB cII cSh h_this a_this h_a1 n_a1 f_this_powers f_a1p14) H → va_D A (kWX2_transform cB cI cL cBB cII cSh h_this a_this h_a1 n_a1 f_this_powers f_a1p14) → va_S A s.heap H locs → lv_has ls 8 [(0, .ref h_this), (1, .ref h_a1), (2, .int x2p14), (3, .int x3p6), (4, .int x4p14)] → (∀ (x2p14' : Int32) (x4p14' : Int32) (f_a1p14' : Nat → Int32), r = (x2p14', x4p14', f_a1p14') → ∀ (H : Heap) (locs : List Loc) (ls : Array Slot), va_P D kCl (kWX2_transform cB cI cL cBB cII cSh h_this a_this h_a1 n_a1 f_this_powers f_a1p14') H → va_D A (kWX2_transform cB cI cL cBB cII cSh h_this a_this h_a1 n_a1 f_this_powers f_a1p14') → va_S A s.heap H locs → lv_has ls 8 [(0, .ref h_this), (1, .ref h_a1), (2, .int x2p14'), (3, .int x3p6), (4, .int x4p14')] → W p l e krX2_transform s m args below meth c H locs cells slots Q (F0 m 114 ls [])) → W p l e krX2_transform s m args below meth c H locs cells slots Q (F0 m 14 ls []) := by
  obtain ⟨hx, hb, hml, hown, hts⟩ := id C0
  intro fuel
  induction fuel with
  | zero =>
    intro x2p14 x4p14 f_a1p14 r h
    exact absurd h (kb_w_z _ _ _)
  | succ fuel ih =>
    intro x2p14 x4p14 f_a1p14 r h H locs ls hP hD hS hl hk0
    obtain ⟨o, h, ho⟩ := kb_w_s h
    have h : kSX2_transform_14 x3p6 n_a1 f_this_powers x2p14 x4p14 f_a1p14 = some o := h
    unfold kSX2_transform_14 at h
    refine lv_iload hx hb kdX2_transform_14 (lv_at hl 4 rfl) ?_
    refine lv_sipush (v := 256) hx hb kdX2_transform_16 (by decide) ?_
    refine lv_icmp_ge (tgt := 114) hx hb kdX2_transform_19 (by decide) (fun c_2 => ?_) (fun c_2 => ?_)
    · have h := kb_b_t c_2 h
      obtain rfl := Option.some.inj h
      exact hk0 x2p14 x4p14 f_a1p14 ho.symm _ _ _ hP hD hS (lv_sub hl [0, 1, 2, 3, 4] rfl)
    · have h := kb_b_f c_2 h
      refine lv_aload_n hx hb kdX2_transform_22 rfl (lv_at hl 0 rfl) ?_
      refine va_get (ci := 2) (v := .ref (a_this 0)) (C := kRX2) (T := kTX2) (N := 1) hx hb hts kinX2 hown hK hP 0 rfl rfl 0 (by decide) (hts _ km_113) (fun _ h9 => h9) rfl kdX2_transform_23 ?_
      refine lv_iload_n hx hb kdX2_transform_26 rfl (lv_at hl 2 rfl) ?_
      obtain ⟨g_3, h⟩ := kb_g_s h
      refine va_iald hx hb hK hP 1 1 rfl rfl (kb_in_v g_3) kdX2_transform_27 ?_
      refine lv_topi (fun x5_4 ex5_4 => ?_)
      have h := kb_n_s ex5_4 h
      refine lv_istore (lv' := [(5, .int x5_4), (0, .ref h_this), (1, .ref h_a1), (2, .int x2p14), (3, .int x3p6), (4, .int x4p14)]) hx hb kdX2_transform_28 hl (by decide) rfl (fun ls hl => ?_)
      obtain ⟨x2_5, ex2_5⟩ : ∃ y : Int32, y = x2p14 + Int32.ofInt 1 := ⟨_, rfl⟩
      have h := kb_n_s ex2_5 h
      refine lv_iinc (v := x2_5) (lv' := [(2, .int x2_5), (5, .int x5_4), (0, .ref h_this), (1, .ref h_a1), (3, .int x3p6), (4, .int x4p14)]) hx hb kdX2_transform_30 hl (k := 3) rfl ex2_5.symm (by decide) rfl (fun ls hl => ?_)
      refine lv_iload hx hb kdX2_transform_33 (lv_at hl 5 rfl) ?_
      refine lv_istore (lv' := [(6, .int x4p14), (2, .int x2_5), (5, .int x5_4), (0, .ref h_this), (1, .ref h_a1), (3, .int x3p6), (4, .int x4p14)]) hx hb kdX2_transform_35 hl (by decide) rfl (fun ls hl => ?_)
      obtain ⟨r_21, hr_21, h⟩ := kb_o_s h
      refine klX2_transform_37 C0 hlocks hK hN hA hcR hsR h_this h_a1 a_this x2_5 x3p6 x4p14 x5_4 n_a1 f_this_powers 100000 x4p14 f_a1p14 r_21 hr_21 _ _ _ hP hD hS (lv_sub hl [3, 4, 1, 5, 6, 2, 0] rfl) (fun x6p37_18 f_a1p37_19 er_21 H locs ls hP hD hS hl => ?_)
      subst er_21
      refine lv_iload hx hb kdX2_transform_103 (lv_at hl 4 rfl) ?_
      refine lv_iconst (v := 2) hx hb kdX2_transform_105 (by decide) ?_
      refine lv_iload_n hx hb kdX2_transform_106 rfl (lv_at hl 3 rfl) ?_
      refine lv_imul hx hb kdX2_transform_107 ?_
      refine lv_iadd hx hb kdX2_transform_108 ?_
      refine lv_topi (fun x4_20 ex4_20 => ?_)
      have h := kb_n_s ex4_20 h
      refine lv_istore (lv' := [(4, .int x4_20), (0, .ref h_this), (1, .ref h_a1), (2, .int x2_5), (3, .int x3p6), (5, .int x5_4), (6, .int x6p37_18)]) hx hb kdX2_transform_109 hl (by decide) rfl (fun ls hl => ?_)
      refine lv_goto (tgt := 14) hx hb kdX2_transform_111 (by decide) ?_
      obtain rfl := Option.some.inj h
      exact ih x2_5 x4_20 f_a1p37_19 r ho _ _ _ hP hD hS (lv_sub hl [1, 2, 3, 4, 0] rfl) hk0
set_option maxHeartbeats 4000000 in
set_option maxRecDepth 100000 in
theorem klX2_transform_6 {p : Program} {l : Launch} {e : Env} {s : State} {m : MethodId} {args : Array Value} {below : List Frame} {meth : Method} {c : Code} {cells slots : Nat} {Q : State → Prop} {D : va_G} {cB cI cL cBB cII cSh : ClassId} {A : Nat → Prop} (C0 : CallFix p m c prog_4_method_3_code 8 s args kwA kRX2) (hlocks : meth.locks = false) (hK : va_K D kCl (kb_T cB cI cL cBB cII cSh) s) (hN : kb_N s) (hA : ∀ q, s.heap.size ≤ q → A q) (hcR : cells ≤ krX2_transform.cells) (hsR : slots ≤ krX2_transform.slots) (h_this h_a1 : Nat) (a_this : Nat → Nat) (n_a1 : Nat) (f_this_powers : Nat → Int32) :
    ∀ (fuel : Nat) (x2p6 : Int32) (x3p6 : Int32) (f_a1p6 : Nat → Int32) (r : Int32 × Int32 × (Nat → Int32)), kb_w (fun u : Int32 × Int32 × (Nat → Int32) => kSX2_transform_6 n_a1 f_this_powers u.1 u.2.1 u.2.2) fuel (x2p6, x3p6, f_a1p6) = some r → ∀ (H : Heap) (locs : List Loc) (ls : Array Slot), va_P D kCl (kWX2_transform cB cI cL cBB cII cSh h_this a_this h_a1 n_a1 f_this_powers f_a1p6) H → va_D A (kWX2_transform cB cI cL cBB cII cSh h_this a_this h_a1 n_a1 f_this_powers f_a1p6) → va_S A s.heap H locs → lv_has ls 8 [(0, .ref h_this), (1, .ref h_a1), (2, .int x2p6), (3, .int x3p6)] → (∀ (x2p6' : Int32) (x3p6' : Int32) (f_a1p6' : Nat → Int32), r = (x2p6', x3p6', f_a1p6') → ∀ (H : Heap) (locs : List Loc) (ls : Array Slot), va_P D kCl (kWX2_transform cB cI cL cBB cII cSh h_this a_this h_a1 n_a1 f_this_powers f_a1p6') H → va_D A (kWX2_transform cB cI cL cBB cII cSh h_this a_this h_a1 n_a1 f_this_powers f_a1p6') → va_S A s.heap H locs → lv_has ls 8 [(0, .ref h_this), (1, .ref h_a1), (2, .int x2p6'), (3, .int x3p6')] → W p l e krX2_transform s m args below meth c H locs cells slots Q (F0 m 121 ls [])) → W p l e krX2_transform s m args below meth c H locs cells slots Q (F0 m 6 ls []) := by
  obtain ⟨hx, hb, hml, hown, hts⟩ := id C0
  intro fuel
  induction fuel with
  | zero =>
    intro x2p6 x3p6 f_a1p6 r h
    exact absurd h (kb_w_z _ _ _)
  | succ fuel ih =>
    intro x2p6 x3p6 f_a1p6 r h H locs ls hP hD hS hl hk0
    obtain ⟨o, h, ho⟩ := kb_w_s h
    have h : kSX2_transform_6 n_a1 f_this_powers x2p6 x3p6 f_a1p6 = some o := h
    unfold kSX2_transform_6 at h
    refine lv_iload_n hx hb kdX2_transform_6 rfl (lv_at hl 3 rfl) ?_
    refine lv_iconst (v := 2) hx hb kdX2_transform_7 (by decide) ?_
    refine lv_icmp_lt (tgt := 121) hx hb kdX2_transform_8 (by decide) (fun c_1 => ?_) (fun c_1 => ?_)
    · have h := kb_b_t c_1 h
      obtain rfl := Option.some.inj h
      exact hk0 x2p6 x3p6 f_a1p6 ho.symm _ _ _ hP hD hS (lv_sub hl [0, 1, 2, 3] rfl)
    · have h := kb_b_f c_1 h
      refine lv_iconst (v := 0) hx hb kdX2_transform_11 (by decide) ?_
      refine lv_istore (lv' := [(4, .int (0 : Int32)), (0, .ref h_this), (1, .ref h_a1), (2, .int x2p6), (3, .int x3p6)]) hx hb kdX2_transform_12 hl (by decide) rfl (fun ls hl => ?_)
      obtain ⟨r_26, hr_26, h⟩ := kb_o_s h
      refine klX2_transform_14 C0 hlocks hK hN hA hcR hsR h_this h_a1 a_this x3p6 n_a1 f_this_powers 100000 x2p6 (0 : Int32) f_a1p6 r_26 hr_26 _ _ _ hP hD hS (lv_sub hl [1, 2, 3, 4, 0] rfl) (fun x2p14_22 x4p14_23 f_a1p14_24 er_26 H locs ls hP hD hS hl => ?_)
      subst er_26
      refine lv_iload_n hx hb kdX2_transform_114 rfl (lv_at hl 3 rfl) ?_
      refine lv_iconst (v := 2) hx hb kdX2_transform_115 (by decide) ?_
      refine lv_idiv hx hb kdX2_transform_116 (by decide) ?_
      refine lv_topi (fun x3_25 ex3_25 => ?_)
      have h := kb_n_s ex3_25 h
      refine lv_istore_n (lv' := [(3, .int x3_25), (0, .ref h_this), (1, .ref h_a1), (2, .int x2p14_22), (4, .int x4p14_23)]) hx hb kdX2_transform_117 rfl hl (by decide) rfl (fun ls hl => ?_)
      refine lv_goto (tgt := 6) hx hb kdX2_transform_118 (by decide) ?_
      obtain rfl := Option.some.inj h
      exact ih x2p14_22 x3_25 f_a1p14_24 r ho _ _ _ hP hD hS (lv_sub hl [1, 2, 3, 0] rfl) hk0
set_option maxHeartbeats 4000000 in
set_option maxRecDepth 100000 in
theorem kcX2_transform (l : Launch) (D : va_G) (cB cI cL cBB cII cSh : ClassId) (h_this h_a1 : Nat) (a_this : Nat → Nat) (sz : Nat) (n_a1 : Nat) (f_this_powers : Nat → Int32) (f_a1 : Nat → Int32) (out : (Nat → Int32)) (h : kFX2_transform n_a1 f_this_powers f_a1 = some out) : Met l kyX2_transform kwX2_transform krX2_transform (kb_P D kCl (kb_T cB cI cL cBB cII cSh) [.ref h_this, .ref h_a1] (kWX2_transform cB cI cL cBB cII cSh h_this a_this h_a1 n_a1 f_this_powers f_a1) sz) (kb_Q D kCl (kb_T cB cI cL cBB cII cSh) (va_A (kWX2_transform cB cI cL cBB cII cSh h_this a_this h_a1 n_a1 f_this_powers f_a1) sz) none (kWX2_transform cB cI cL cBB cII cSh h_this a_this h_a1 n_a1 f_this_powers out)) 0 0 (va_A (kWX2_transform cB cI cL cBB cII cSh h_this a_this h_a1 n_a1 f_this_powers f_a1) sz) := by
  refine Met.ofW (cc := prog_4_method_3_code) (maxL := 8) (ret := none) (by decide) rfl ?_
  intro p e s m args below meth c s₁ B hml hv
  obtain ⟨rfl, hsz, hP, hK, hN, hD0⟩ := hv
  have hx := B.exec
  have hb := B.bytes
  have hr := B.returns
  have hts0 := atoms_spec (ws := kwX2_transform) B.pre
  have hts : ∀ w ∈ kwA, w.before _ s = true := fun w h => hts0 w (List.mem_cons_of_mem _ h)
  have hown : s.vm.findClass kRX2 = some m.cls := findClass_of_methodNamed B.named
  have hlocks := B.notSynchronized
  subst hsz
  have hD := hD0.self (sz := s.heap.size)
  generalize hAe : va_A (kWX2_transform cB cI cL cBB cII cSh h_this a_this h_a1 n_a1 f_this_powers f_a1) s.heap.size = A at hD ⊢
  have hA : ∀ q : Nat, s.heap.size ≤ q → A q := fun q h => by rw [← hAe]; exact Or.inr h
  have hS : va_S A s.heap s.heap [] := va_S.rf
  have C0 : CallFix p m c prog_4_method_3_code 8 s _ kwA kRX2 := ⟨hx, hb, hml, hown, hts⟩
  have hl := lv_entry ([.ref h_this, .ref h_a1]) (n := 8) (Nat.le_of_ble_eq_true rfl)
  rw [lg_entry_eq]
  generalize (lg_sl ([.ref h_this, .ref h_a1]) ++ List.replicate (8 - (lg_sl ([.ref h_this, .ref h_a1])).length) Slot.unset).toArray = ls at hl ⊢
  have hl : lv_has ls 8 [(0, .ref h_this), (1, .ref h_a1)] := hl
  unfold kFX2_transform at h
  refine lv_iconst (v := 1) hx hb kdX2_transform_0 (by decide) ?_
  refine lv_istore_n (lv' := [(2, .int (1 : Int32)), (0, .ref h_this), (1, .ref h_a1)]) hx hb kdX2_transform_1 rfl hl (by decide) rfl (fun ls hl => ?_)
  refine lv_sipush (v := 128) hx hb kdX2_transform_2 (by decide) ?_
  refine lv_istore_n (lv' := [(3, .int (128 : Int32)), (2, .int (1 : Int32)), (0, .ref h_this), (1, .ref h_a1)]) hx hb kdX2_transform_5 rfl hl (by decide) rfl (fun ls hl => ?_)
  obtain ⟨r_30, hr_30, h⟩ := kb_o_s h
  refine klX2_transform_6 C0 hlocks hK hN hA (by decide) (by decide) h_this h_a1 a_this n_a1 f_this_powers 100000 (1 : Int32) (128 : Int32) f_a1 r_30 hr_30 _ _ _ hP hD hS (lv_sub hl [2, 3, 1, 0] rfl) (fun x2p6_27 x3p6_28 f_a1p6_29 er_30 H locs ls hP hD hS hl => ?_)
  subst er_30
  obtain rfl := Option.some.inj h
  exact W.vret hx hb hr (fun t ht hW => ⟨⟨rfl, by rw [ht]; exact hP, va_K.moved hW.alike hK, hD⟩, hS.F ht⟩) hS.2.2 kdX2_transform_121

-- 454.ModuleKem.Ring.transformBack.lean.txt
abbrev kWX2_transformBack (cB cI cL cBB cII cSh : ClassId) (h_this : Nat) (a_this : Nat → Nat) (h_a1 : Nat) (n_a1 : Nat) (f_this_powers : Nat → Int32) (f_a1 : Nat → Int32) : va_W := [(h_this, koX2 a_this), ((a_this 0), .inl (cI, 128, .inl f_this_powers)), (h_a1, .inl (cI, n_a1, .inl f_a1))]
def krX2_transformBack : Room := { frames := 0, cells := 0, slots := 0, locals := 0 }
set_option maxHeartbeats 4000000 in
set_option maxRecDepth 100000 in
theorem klX2_transformBack_38 {p : Program} {l : Launch} {e : Env} {s : State} {m : MethodId} {args : Array Value} {below : List Frame} {meth : Method} {c : Code} {cells slots : Nat} {Q : State → Prop} {D : va_G} {cB cI cL cBB cII cSh : ClassId} {A : Nat → Prop} (C0 : CallFix p m c prog_4_method_4_code 8 s args kwA kRX2) (hlocks : meth.locks = false) (hK : va_K D kCl (kb_T cB cI cL cBB cII cSh) s) (hN : kb_N s) (hA : ∀ q, s.heap.size ≤ q → A q) (hcR : cells ≤ krX2_transformBack.cells) (hsR : slots ≤ krX2_transformBack.slots) (h_this h_a1 : Nat) (a_this : Nat → Nat) (x2_5 : Int32) (x3p5 : Int32) (x4p15 : Int32) (x5_4 : Int32) (n_a1 : Nat) (f_this_powers : Nat → Int32) :
    ∀ (fuel : Nat) (x6p38 : Int32) (f_a1p38 : Nat → Int32) (r : Int32 × (Nat → Int32)), kb_w (fun u : Int32 × (Nat → Int32) => kSX2_transformBack_38 x3p5 x4p15 x5_4 n_a1 u.1 u.2) fuel (x6p38, f_a1p38) = some r → ∀ (H : Heap) (locs : List Loc) (ls : Array Slot), va_P D kCl (kWX2_transformBack cB cI cL cBB cII cSh h_this a_this h_a1 n_a1 f_this_powers f_a1p38) H → va_D A (kWX2_transformBack cB cI cL cBB cII cSh h_this a_this h_a1 n_a1 f_this_powers f_a1p38) → va_S A s.heap H locs → lv_has ls 8 [(0, .ref h_this), (1, .ref h_a1), (2, .int x2_5), (3, .int x3p5), (4, .int x4p15), (5, .int x5_4), (6, .int x6p38)] → (∀ (x6p38' : Int32) (f_a1p38' : Nat → Int32), r = (x6p38', f_a1p38') → ∀ (H : Heap) (locs : List Loc) (ls : Array Slot), va_P D kCl (kWX2_transformBack cB cI cL cBB cII cSh h_this a_this h_a1 n_a1 f_this_powers f_a1p38') H → va_D A (kWX2_transformBack cB cI cL cBB cII cSh h_this a_this h_a1 n_a1 f_this_powers f_a1p38') → va_S A s.heap H locs → lv_has ls 8 [(0, .ref h_this), (1, .ref h_a1), (2, .int x2_5), (3, .int x3p5), (4, .int x4p15), (5, .int x5_4), (6, .int x6p38')] → W p l e krX2_transformBack s m args below meth c H locs cells slots Q (F0 m 104 ls [])) → W p l e krX2_transformBack s m args below meth c H locs cells slots Q (F0 m 38 ls []) := by
  obtain ⟨hx, hb, hml, hown, hts⟩ := id C0
  intro fuel
  induction fuel with
  | zero =>
    intro x6p38 f_a1p38 r h
    exact absurd h (kb_w_z _ _ _)
  | succ fuel ih =>
    intro x6p38 f_a1p38 r h H locs ls hP hD hS hl hk0
    obtain ⟨o, h, ho⟩ := kb_w_s h
    have h : kSX2_transformBack_38 x3p5 x4p15 x5_4 n_a1 x6p38 f_a1p38 = some o := h
    unfold kSX2_transformBack_38 at h
    refine lv_iload hx hb kdX2_transformBack_38 (lv_at hl 6 rfl) ?_
    refine lv_iload hx hb kdX2_transformBack_40 (lv_at hl 4 rfl) ?_
    refine lv_iload_n hx hb kdX2_transformBack_42 rfl (lv_at hl 3 rfl) ?_
    refine lv_iadd hx hb kdX2_transformBack_43 ?_
    refine lv_icmp_ge (tgt := 104) hx hb kdX2_transformBack_44 (by decide) (fun c_6 => ?_) (fun c_6 => ?_)
    · have h := kb_b_t c_6 h
      obtain rfl := Option.some.inj h
      exact hk0 x6p38 f_a1p38 ho.symm _ _ _ hP hD hS (lv_sub hl [0, 1, 2, 3, 4, 5, 6] rfl)
    · have h := kb_b_f c_6 h
      refine lv_aload_n hx hb kdX2_transformBack_47 rfl (lv_at hl 1 rfl) ?_
      refine lv_iload hx hb kdX2_transformBack_48 (lv_at hl 6 rfl) ?_
      refine lv_iload_n hx hb kdX2_transformBack_50 rfl (lv_at hl 3 rfl) ?_
      refine lv_iadd hx hb kdX2_transformBack_51 ?_
      obtain ⟨g_7, h⟩ := kb_g_s h
      refine va_iald hx hb hK hP 2 1 rfl rfl (kb_in_v g_7) kdX2_transformBack_52 ?_
      refine lv_sipush (v := 3329) hx hb kdX2_transformBack_53 (by decide) ?_
      refine lv_iadd hx hb kdX2_transformBack_56 ?_
      refine lv_aload_n hx hb kdX2_transformBack_57 rfl (lv_at hl 1 rfl) ?_
      refine lv_iload hx hb kdX2_transformBack_58 (lv_at hl 6 rfl) ?_
      obtain ⟨g_8, h⟩ := kb_g_s h
      refine va_iald hx hb hK hP 2 1 rfl rfl (kb_in_v g_8) kdX2_transformBack_60 ?_
      refine lv_isub hx hb kdX2_transformBack_61 ?_
      refine lv_topi (fun x7_9 ex7_9 => ?_)
      have h := kb_n_s ex7_9 h
      refine lv_istore (lv' := [(7, .int x7_9), (0, .ref h_this), (1, .ref h_a1), (2, .int x2_5), (3, .int x3p5), (4, .int x4p15), (5, .int x5_4), (6, .int x6p38)]) hx hb kdX2_transformBack_62 hl (by decide) rfl (fun ls hl => ?_)
      refine lv_aload_n hx hb kdX2_transformBack_64 rfl (lv_at hl 2 rfl) ?_
      refine lv_iload hx hb kdX2_transformBack_65 (lv_at hl 7 rfl) ?_
      refine lv_aload_n hx hb kdX2_transformBack_67 rfl (lv_at hl 2 rfl) ?_
      refine lv_iload hx hb kdX2_transformBack_68 (lv_at hl 7 rfl) ?_
      obtain ⟨g_10, h⟩ := kb_g_s h
      refine va_iald hx hb hK hP 2 1 rfl rfl (kb_in_v g_10) kdX2_transformBack_70 ?_
      refine lv_aload_n hx hb kdX2_transformBack_71 rfl (lv_at hl 2 rfl) ?_
      refine lv_iload hx hb kdX2_transformBack_72 (lv_at hl 7 rfl) ?_
      refine lv_iload_n hx hb kdX2_transformBack_74 rfl (lv_at hl 4 rfl) ?_
      refine lv_iadd hx hb kdX2_transformBack_75 ?_
      obtain ⟨g_11, h⟩ := kb_g_s h
      refine va_iald hx hb hK hP 2 1 rfl rfl (kb_in_v g_11) kdX2_transformBack_76 ?_
      refine lv_iadd hx hb kdX2_transformBack_77 ?_
      refine lv_sipush (v := 3329) hx hb kdX2_transformBack_78 (by decide) ?_
      refine lv_irem hx hb kdX2_transformBack_81 (by decide) ?_
      refine lv_topi (fun q_12 eq_12 => ?_)
      have h := kb_n_s eq_12 h
      obtain ⟨g_13, h⟩ := kb_g_s h
      refine va_iast hx hb hK hP hD hS 2 1 rfl rfl (kb_in_v g_13) kdX2_transformBack_82 (fun H locs hP hD hS => ?_)
      obtain ⟨f_14, ef_14⟩ : ∃ y, y = upd f_a1p38 x6p38.toNatClampNeg q_12 := ⟨_, rfl⟩
      have h := kb_n_s ef_14 h
      have hP : va_P D kCl (kWX2_transformBack cB cI cL cBB cII cSh h_this a_this h_a1 n_a1 f_this_powers f_14) H := by rw [ef_14]; exact hP
      have hD : va_D A (kWX2_transformBack cB cI cL cBB cII cSh h_this a_this h_a1 n_a1 f_this_powers f_14) := by rw [ef_14]; exact hD
      refine lv_aload_n hx hb kdX2_transformBack_83 rfl (lv_at hl 2 rfl) ?_
      refine lv_iload hx hb kdX2_transformBack_84 (lv_at hl 7 rfl) ?_
      refine lv_iload_n hx hb kdX2_transformBack_86 rfl (lv_at hl 4 rfl) ?_
      refine lv_iadd hx hb kdX2_transformBack_87 ?_
      refine lv_iload hx hb kdX2_transformBack_88 (lv_at hl 6 rfl) ?_
      refine lv_iload hx hb kdX2_transformBack_90 (lv_at hl 0 rfl) ?_
      refine lv_imul hx hb kdX2_transformBack_92 ?_
      refine lv_sipush (v := 3329) hx hb kdX2_transformBack_93 (by decide) ?_
      refine lv_irem hx hb kdX2_transformBack_96 (by decide) ?_
      refine lv_topi (fun q_15 eq_15 => ?_)
      have h := kb_n_s eq_15 h
      obtain ⟨g_16, h⟩ := kb_g_s h
      refine va_iast hx hb hK hP hD hS 2 1 rfl rfl (kb_in_v g_16) kdX2_transformBack_97 (fun H locs hP hD hS => ?_)
      obtain ⟨f_17, ef_17⟩ : ∃ y, y = upd f_14 (x6p38 + x3p5).toNatClampNeg q_15 := ⟨_, rfl⟩
      have h := kb_n_s ef_17 h
      have hP : va_P D kCl (kWX2_transformBack cB cI cL cBB cII cSh h_this a_this h_a1 n_a1 f_this_powers f_17) H := by rw [ef_17]; exact hP
      have hD : va_D A (kWX2_transformBack cB cI cL cBB cII cSh h_this a_this h_a1 n_a1 f_this_powers f_17) := by rw [ef_17]; exact hD
      obtain ⟨x6_18, ex6_18⟩ : ∃ y : Int32, y = x6p38 + Int32.ofInt 1 := ⟨_, rfl⟩
      have h := kb_n_s ex6_18 h
      refine lv_iinc (v := x6_18) (lv' := [(6, .int x6_18), (7, .int x7_9), (0, .ref h_this), (1, .ref h_a1), (2, .int x2_5), (3, .int x3p5), (4, .int x4p15), (5, .int x5_4)]) hx hb kdX2_transformBack_98 hl (k := 7) rfl ex6_18.symm (by decide) rfl (fun ls hl => ?_)
      refine lv_goto (tgt := 38) hx hb kdX2_transformBack_101 (by decide) ?_
      obtain rfl := Option.some.inj h
      exact ih x6_18 f_17 r ho _ _ _ hP hD hS (lv_sub hl [2, 3, 4, 5, 6, 7, 0] rfl) hk0
set_option maxHeartbeats 4000000 in
set_option maxRecDepth 100000 in
theorem klX2_transformBack_15 {p : Program} {l : Launch} {e : Env} {s : State} {m : MethodId} {args : Array Value} {below : List Frame} {meth : Method} {c : Code} {cells slots : Nat} {Q : State → Prop} {D : va_G} {cB cI cL cBB cII cSh : ClassId} {A : Nat → Prop} (C0 : CallFix p m c prog_4_method_4_code 8 s args kwA kRX2) (hlocks : meth.locks = false) (hK : va_K D kCl (kb_T cB cI cL cBB cII cSh) s) (hN : kb_N s) (hA : ∀ q, s.heap.size ≤ q → A q) (hcR : cells ≤ krX2_transformBack.cells) (hsR : slots ≤ krX2_transformBack.slots) (h_this h_a1 : Nat) (a_this : Nat → Nat) (x3p5 : Int32) (n_a1 : Nat) (f_this_powers : Nat → Int32) :
    ∀ (fuel : Nat) (x2p15 : Int32) (x4p15 : Int32) (f_a1p15 : Nat → Int32) (r : Int32 × Int32 × (Nat → Int32)), kb_w (fun u : Int32 × Int32 × (Nat → Int32) => kSX2_transformBack_15 x3p5 n_a1 f_this_powers u.1 u.2.1 u.2.2) fuel (x2p15, x4p15, f_a1p15) = some r → ∀ (H : Heap) (locs : List Loc) (ls : Array Slot), va_P D kCl (kWX2_transformBack cB cI cL cBB cII cSh h_this a_this h_a1 n_a1 f_this_powers f_a1p15) H → va_D A (kWX2_transformBack cB cI cL cBB cII cSh h_this a_this h_a1 n_a1 f_this_powers f_a1p15) → va_S A s.heap H locs → lv_has ls 8 [(0, .ref h_this), (1, .ref h_a1), (2, .int x2p15), (3, .int x3p5), (4, .int x4p15)] → (∀ (x2p15' : Int32) (x4p15' : Int32) (f_a1p15' : Nat → Int32), r = (x2p15', x4p15', f_a1p15') → ∀ (H : Heap) (locs : List Loc) (ls : Array Slot), va_P D kCl (kWX2_transformBack cB cI cL cBB cII cSh h_this a_this h_a1 n_a1 f_this_powers f_a1p15') H → va_D A (kWX2_transformBack cB cI cL cBB cII cSh h_this a_this h_a1 n_a1 f_this_powers f_a1p15') → va_S A s.heap H locs → lv_has ls 8 [(0, .ref h_this), (1, .ref h_a1), (2, .int x2p15'), (3, .int x3p5), (4, .int x4p15')] → W p l e krX2_transformBack s m args below meth c H locs cells slots Q (F0 m 115 ls [])) → W p l e krX2_transformBack s m args below meth c H locs cells slots Q (F0 m 15 ls []) := by
  obtain ⟨hx, hb, hml, hown, hts⟩ := id C0
  intro fuel
  induction fuel with
  | zero =>
    intro x2p15 x4p15 f_a1p15 r h
    exact absurd h (kb_w_z _ _ _)
  | succ fuel ih =>
    intro x2p15 x4p15 f_a1p15 r h H locs ls hP hD hS hl hk0
    obtain ⟨o, h, ho⟩ := kb_w_s h
    have h : kSX2_transformBack_15 x3p5 n_a1 f_this_powers x2p15 x4p15 f_a1p15 = some o := h
    unfold kSX2_transformBack_15 at h
    refine lv_iload hx hb kdX2_transformBack_15 (lv_at hl 4 rfl) ?_
    refine lv_sipush (v := 256) hx hb kdX2_transformBack_17 (by decide) ?_
    refine lv_icmp_ge (tgt := 115) hx hb kdX2_transformBack_20 (by decide) (fun c_2 => ?_) (fun c_2 => ?_)
    · have h := kb_b_t c_2 h
      obtain rfl := Option.some.inj h
      exact hk0 x2p15 x4p15 f_a1p15 ho.symm _ _ _ hP hD hS (lv_sub hl [0, 1, 2, 3, 4] rfl)
    · have h := kb_b_f c_2 h
      refine lv_aload_n hx hb kdX2_transformBack_23 rfl (lv_at hl 0 rfl) ?_
      refine va_get (ci := 2) (v := .ref (a_this 0)) (C := kRX2) (T := kTX2) (N := 1) hx hb hts kinX2 hown hK hP 0 rfl rfl 0 (by decide) (hts _ km_113) (fun _ h9 => h9) rfl kdX2_transformBack_24 ?_
      refine lv_iload_n hx hb kdX2_transformBack_27 rfl (lv_at hl 2 rfl) ?_
      obtain ⟨g_3, h⟩ := kb_g_s h
      refine va_iald hx hb hK hP 1 1 rfl rfl (kb_in_v g_3) kdX2_transformBack_28 ?_
      refine lv_topi (fun x5_4 ex5_4 => ?_)
      have h := kb_n_s ex5_4 h
      refine lv_istore (lv' := [(5, .int x5_4), (0, .ref h_this), (1, .ref h_a1), (2, .int x2p15), (3, .int x3p5), (4, .int x4p15)]) hx hb kdX2_transformBack_29 hl (by decide) rfl (fun ls hl => ?_)
      obtain ⟨x2_5, ex2_5⟩ : ∃ y : Int32, y = x2p15 + Int32.ofInt (-1) := ⟨_, rfl⟩
      have h := kb_n_s ex2_5 h
      refine lv_iinc (v := x2_5) (lv' := [(2, .int x2_5), (5, .int x5_4), (0, .ref h_this), (1, .ref h_a1), (3, .int x3p5), (4, .int x4p15)]) hx hb kdX2_transformBack_31 hl (k := 3) rfl ex2_5.symm (by decide) rfl (fun ls hl => ?_)
      refine lv_iload hx hb kdX2_transformBack_34 (lv_at hl 5 rfl) ?_
      refine lv_istore (lv' := [(6, .int x4p15), (2, .int x2_5), (5, .int x5_4), (0, .ref h_this), (1, .ref h_a1), (3, .int x3p5), (4, .int x4p15)]) hx hb kdX2_transformBack_36 hl (by decide) rfl (fun ls hl => ?_)
      obtain ⟨r_22, hr_22, h⟩ := kb_o_s h
      refine klX2_transformBack_38 C0 hlocks hK hN hA hcR hsR h_this h_a1 a_this x2_5 x3p5 x4p15 x5_4 n_a1 f_this_powers 100000 x4p15 f_a1p15 r_22 hr_22 _ _ _ hP hD hS (lv_sub hl [3, 4, 1, 5, 6, 2, 0] rfl) (fun x6p38_19 f_a1p38_20 er_22 H locs ls hP hD hS hl => ?_)
      subst er_22
      refine lv_iload hx hb kdX2_transformBack_104 (lv_at hl 4 rfl) ?_
      refine lv_iconst (v := 2) hx hb kdX2_transformBack_106 (by decide) ?_
      refine lv_iload_n hx hb kdX2_transformBack_107 rfl (lv_at hl 3 rfl) ?_
      refine lv_imul hx hb kdX2_transformBack_108 ?_
      refine lv_iadd hx hb kdX2_transformBack_109 ?_
      refine lv_topi (fun x4_21 ex4_21 => ?_)
      have h := kb_n_s ex4_21 h
      refine lv_istore (lv' := [(4, .int x4_21), (0, .ref h_this), (1, .ref h_a1), (2, .int x2_5), (3, .int x3p5), (5, .int x5_4), (6, .int x6p38_19)]) hx hb kdX2_transformBack_110 hl (by decide) rfl (fun ls hl => ?_)
      refine lv_goto (tgt := 15) hx hb kdX2_transformBack_112 (by decide) ?_
      obtain rfl := Option.some.inj h
      exact ih x2_5 x4_21 f_a1p38_20 r ho _ _ _ hP hD hS (lv_sub hl [1, 2, 3, 4, 0] rfl) hk0
set_option maxHeartbeats 4000000 in
set_option maxRecDepth 100000 in
theorem klX2_transformBack_5 {p : Program} {l : Launch} {e : Env} {s : State} {m : MethodId} {args : Array Value} {below : List Frame} {meth : Method} {c : Code} {cells slots : Nat} {Q : State → Prop} {D : va_G} {cB cI cL cBB cII cSh : ClassId} {A : Nat → Prop} (C0 : CallFix p m c prog_4_method_4_code 8 s args kwA kRX2) (hlocks : meth.locks = false) (hK : va_K D kCl (kb_T cB cI cL cBB cII cSh) s) (hN : kb_N s) (hA : ∀ q, s.heap.size ≤ q → A q) (hcR : cells ≤ krX2_transformBack.cells) (hsR : slots ≤ krX2_transformBack.slots) (h_this h_a1 : Nat) (a_this : Nat → Nat) (n_a1 : Nat) (f_this_powers : Nat → Int32) :
    ∀ (fuel : Nat) (x2p5 : Int32) (x3p5 : Int32) (f_a1p5 : Nat → Int32) (r : Int32 × Int32 × (Nat → Int32)), kb_w (fun u : Int32 × Int32 × (Nat → Int32) => kSX2_transformBack_5 n_a1 f_this_powers u.1 u.2.1 u.2.2) fuel (x2p5, x3p5, f_a1p5) = some r → ∀ (H : Heap) (locs : List Loc) (ls : Array Slot), va_P D kCl (kWX2_transformBack cB cI cL cBB cII cSh h_this a_this h_a1 n_a1 f_this_powers f_a1p5) H → va_D A (kWX2_transformBack cB cI cL cBB cII cSh h_this a_this h_a1 n_a1 f_this_powers f_a1p5) → va_S A s.heap H locs → lv_has ls 8 [(0, .ref h_this), (1, .ref h_a1), (2, .int x2p5), (3, .int x3p5)] → (∀ (x2p5' : Int32) (x3p5' : Int32) (f_a1p5' : Nat → Int32), r = (x2p5', x3p5', f_a1p5') → ∀ (H : Heap) (locs : List Loc) (ls : Array Slot), va_P D kCl (kWX2_transformBack cB cI cL cBB cII cSh h_this a_this h_a1 n_a1 f_this_powers f_a1p5') H → va_D A (kWX2_transformBack cB cI cL cBB cII cSh h_this a_this h_a1 n_a1 f_this_powers f_a1p5') → va_S A s.heap H locs → lv_has ls 8 [(0, .ref h_this), (1, .ref h_a1), (2, .int x2p5'), (3, .int x3p5')] → W p l e krX2_transformBack s m args below meth c H locs cells slots Q (F0 m 122 ls [])) → W p l e krX2_transformBack s m args below meth c H locs cells slots Q (F0 m 5 ls []) := by
  obtain ⟨hx, hb, hml, hown, hts⟩ := id C0
  intro fuel
  induction fuel with
  | zero =>
    intro x2p5 x3p5 f_a1p5 r h
    exact absurd h (kb_w_z _ _ _)
  | succ fuel ih =>
    intro x2p5 x3p5 f_a1p5 r h H locs ls hP hD hS hl hk0
    obtain ⟨o, h, ho⟩ := kb_w_s h
    have h : kSX2_transformBack_5 n_a1 f_this_powers x2p5 x3p5 f_a1p5 = some o := h
    unfold kSX2_transformBack_5 at h
    refine lv_iload_n hx hb kdX2_transformBack_5 rfl (lv_at hl 3 rfl) ?_
    refine lv_sipush (v := 128) hx hb kdX2_transformBack_6 (by decide) ?_
    refine lv_icmp_gt (tgt := 122) hx hb kdX2_transformBack_9 (by decide) (fun c_1 => ?_) (fun c_1 => ?_)
    · have h := kb_b_t c_1 h
      obtain rfl := Option.some.inj h
      exact hk0 x2p5 x3p5 f_a1p5 ho.symm _ _ _ hP hD hS (lv_sub hl [0, 1, 2, 3] rfl)
    · have h := kb_b_f c_1 h
      refine lv_iconst (v := 0) hx hb kdX2_transformBack_12 (by decide) ?_
      refine lv_istore (lv' := [(4, .int (0 : Int32)), (0, .ref h_this), (1, .ref h_a1), (2, .int x2p5), (3, .int x3p5)]) hx hb kdX2_transformBack_13 hl (by decide) rfl (fun ls hl => ?_)
      obtain ⟨r_27, hr_27, h⟩ := kb_o_s h
      refine klX2_transformBack_15 C0 hlocks hK hN hA hcR hsR h_this h_a1 a_this x3p5 n_a1 f_this_powers 100000 x2p5 (0 : Int32) f_a1p5 r_27 hr_27 _ _ _ hP hD hS (lv_sub hl [1, 2, 3, 4, 0] rfl) (fun x2p15_23 x4p15_24 f_a1p15_25 er_27 H locs ls hP hD hS hl => ?_)
      subst er_27
      refine lv_iload_n hx hb kdX2_transformBack_115 rfl (lv_at hl 3 rfl) ?_
      refine lv_iconst (v := 2) hx hb kdX2_transformBack_116 (by decide) ?_
      refine lv_imul hx hb kdX2_transformBack_117 ?_
      refine lv_topi (fun x3_26 ex3_26 => ?_)
      have h := kb_n_s ex3_26 h
      refine lv_istore_n (lv' := [(3, .int x3_26), (0, .ref h_this), (1, .ref h_a1), (2, .int x2p15_23), (4, .int x4p15_24)]) hx hb kdX2_transformBack_118 rfl hl (by decide) rfl (fun ls hl => ?_)
      refine lv_goto (tgt := 5) hx hb kdX2_transformBack_119 (by decide) ?_
      obtain rfl := Option.some.inj h
      exact ih x2p15_23 x3_26 f_a1p15_25 r ho _ _ _ hP hD hS (lv_sub hl [1, 2, 3, 0] rfl) hk0
set_option maxHeartbeats 4000000 in
set_option maxRecDepth 100000 in
theorem klX2_transformBack_124 {p : Program} {l : Launch} {e : Env} {s : State} {m : MethodId} {args : Array Value} {below : List Frame} {meth : Method} {c : Code} {cells slots : Nat} {Q : State → Prop} {D : va_G} {cB cI cL cBB cII cSh : ClassId} {A : Nat → Prop} (C0 : CallFix p m c prog_4_method_4_code 8 s args kwA kRX2) (hlocks : meth.locks = false) (hK : va_K D kCl (kb_T cB cI cL cBB cII cSh) s) (hN : kb_N s) (hA : ∀ q, s.heap.size ≤ q → A q) (hcR : cells ≤ krX2_transformBack.cells) (hsR : slots ≤ krX2_transformBack.slots) (h_a1 h_this : Nat) (a_this : Nat → Nat) (n_a1 : Nat) (f_this_powers : Nat → Int32) :
    ∀ (fuel : Nat) (x3p124 : Int32) (f_a1p124 : Nat → Int32) (r : Int32 × (Nat → Int32)), kb_w (fun u : Int32 × (Nat → Int32) => kSX2_transformBack_124 n_a1 u.1 u.2) fuel (x3p124, f_a1p124) = some r → ∀ (H : Heap) (locs : List Loc) (ls : Array Slot), va_P D kCl (kWX2_transformBack cB cI cL cBB cII cSh h_this a_this h_a1 n_a1 f_this_powers f_a1p124) H → va_D A (kWX2_transformBack cB cI cL cBB cII cSh h_this a_this h_a1 n_a1 f_this_powers f_a1p124) → va_S A s.heap H locs → lv_has ls 8 [(1, .ref h_a1), (3, .int x3p124)] → (∀ (x3p124' : Int32) (f_a1p124' : Nat → Int32), r = (x3p124', f_a1p124') → ∀ (H : Heap) (locs : List Loc) (ls : Array Slot), va_P D kCl (kWX2_transformBack cB cI cL cBB cII cSh h_this a_this h_a1 n_a1 f_this_powers f_a1p124') H → va_D A (kWX2_transformBack cB cI cL cBB cII cSh h_this a_this h_a1 n_a1 f_this_powers f_a1p124') → va_S A s.heap H locs → lv_has ls 8 [(1, .ref h_a1), (3, .int x3p124')] → W p l e krX2_transformBack s m args below meth c H locs cells slots Q (F0 m 151 ls [])) → W p l e krX2_transformBack s m args below meth c H locs cells slots Q (F0 m 124 ls []) := by
  obtain ⟨hx, hb, hml, hown, hts⟩ := id C0
  intro fuel
  induction fuel with
  | zero =>
    intro x3p124 f_a1p124 r h
    exact absurd h (kb_w_z _ _ _)
  | succ fuel ih =>
    intro x3p124 f_a1p124 r h H locs ls hP hD hS hl hk0
    obtain ⟨o, h, ho⟩ := kb_w_s h
    have h : kSX2_transformBack_124 n_a1 x3p124 f_a1p124 = some o := h
    unfold kSX2_transformBack_124 at h
    refine lv_iload_n hx hb kdX2_transformBack_124 rfl (lv_at hl 1 rfl) ?_
    refine lv_sipush (v := 256) hx hb kdX2_transformBack_125 (by decide) ?_
    refine lv_icmp_ge (tgt := 151) hx hb kdX2_transformBack_128 (by decide) (fun c_31 => ?_) (fun c_31 => ?_)
    · have h := kb_b_t c_31 h
      obtain rfl := Option.some.inj h
      exact hk0 x3p124 f_a1p124 ho.symm _ _ _ hP hD hS (lv_sub hl [0, 1] rfl)
    · have h := kb_b_f c_31 h
      refine lv_aload_n hx hb kdX2_transformBack_131 rfl (lv_at hl 0 rfl) ?_
      refine lv_iload_n hx hb kdX2_transformBack_132 rfl (lv_at hl 1 rfl) ?_
      refine lv_aload_n hx hb kdX2_transformBack_133 rfl (lv_at hl 0 rfl) ?_
      refine lv_iload_n hx hb kdX2_transformBack_134 rfl (lv_at hl 1 rfl) ?_
      obtain ⟨g_32, h⟩ := kb_g_s h
      refine va_iald hx hb hK hP 2 1 rfl rfl (kb_in_v g_32) kdX2_transformBack_135 ?_
      refine lv_sipush (v := 3303) hx hb kdX2_transformBack_136 (by decide) ?_
      refine lv_imul hx hb kdX2_transformBack_139 ?_
      refine lv_sipush (v := 3329) hx hb kdX2_transformBack_140 (by decide) ?_
      refine lv_irem hx hb kdX2_transformBack_143 (by decide) ?_
      refine lv_topi (fun q_33 eq_33 => ?_)
      have h := kb_n_s eq_33 h
      obtain ⟨g_34, h⟩ := kb_g_s h
      refine va_iast hx hb hK hP hD hS 2 1 rfl rfl (kb_in_v g_34) kdX2_transformBack_144 (fun H locs hP hD hS => ?_)
      obtain ⟨f_35, ef_35⟩ : ∃ y, y = upd f_a1p124 x3p124.toNatClampNeg q_33 := ⟨_, rfl⟩
      have h := kb_n_s ef_35 h
      have hP : va_P D kCl (kWX2_transformBack cB cI cL cBB cII cSh h_this a_this h_a1 n_a1 f_this_powers f_35) H := by rw [ef_35]; exact hP
      have hD : va_D A (kWX2_transformBack cB cI cL cBB cII cSh h_this a_this h_a1 n_a1 f_this_powers f_35) := by rw [ef_35]; exact hD
      obtain ⟨x3_36, ex3_36⟩ : ∃ y : Int32, y = x3p124 + Int32.ofInt 1 := ⟨_, rfl⟩
      have h := kb_n_s ex3_36 h
      refine lv_iinc (v := x3_36) (lv' := [(3, .int x3_36), (1, .ref h_a1)]) hx hb kdX2_transformBack_145 hl (k := 1) rfl ex3_36.symm (by decide) rfl (fun ls hl => ?_)
      refine lv_goto (tgt := 124) hx hb kdX2_transformBack_148 (by decide) ?_
      obtain rfl := Option.some.inj h
      exact ih x3_36 f_35 r ho _ _ _ hP hD hS (lv_sub hl [1, 0] rfl) hk0
set_option maxHeartbeats 4000000 in
set_option maxRecDepth 100000 in
theorem kcX2_transformBack (l : Launch) (D : va_G) (cB cI cL cBB cII cSh : ClassId) (h_this h_a1 : Nat) (a_this : Nat → Nat) (sz : Nat) (n_a1 : Nat) (f_this_powers : Nat → Int32) (f_a1 : Nat → Int32) (out : (Nat → Int32)) (h : kFX2_transformBack n_a1 f_this_powers f_a1 = some out) : Met l kyX2_transformBack kwX2_transformBack krX2_transformBack (kb_P D kCl (kb_T cB cI cL cBB cII cSh) [.ref h_this, .ref h_a1] (kWX2_transformBack cB cI cL cBB cII cSh h_this a_this h_a1 n_a1 f_this_powers f_a1) sz) (kb_Q D kCl (kb_T cB cI cL cBB cII cSh) (va_A (kWX2_transformBack cB cI cL cBB cII cSh h_this a_this h_a1 n_a1 f_this_powers f_a1) sz) none (kWX2_transformBack cB cI cL cBB cII cSh h_this a_this h_a1 n_a1 f_this_powers out)) 0 0 (va_A (kWX2_transformBack cB cI cL cBB cII cSh h_this a_this h_a1 n_a1 f_this_powers f_a1) sz) := by
  refine Met.ofW (cc := prog_4_method_4_code) (maxL := 8) (ret := none) (by decide) rfl ?_
  intro p e s m args below meth c s₁ B hml hv
  obtain ⟨rfl, hsz, hP, hK, hN, hD0⟩ := hv
  have hx := B.exec
  have hb := B.bytes
  have hr := B.returns
  have hts0 := atoms_spec (ws := kwX2_transformBack) B.pre
  have hts : ∀ w ∈ kwA, w.before _ s = true := fun w h => hts0 w (List.mem_cons_of_mem _ h)
  have hown : s.vm.findClass kRX2 = some m.cls := findClass_of_methodNamed B.named
  have hlocks := B.notSynchronized
  subst hsz
  have hD := hD0.self (sz := s.heap.size)
  generalize hAe : va_A (kWX2_transformBack cB cI cL cBB cII cSh h_this a_this h_a1 n_a1 f_this_powers f_a1) s.heap.size = A at hD ⊢
  have hA : ∀ q : Nat, s.heap.size ≤ q → A q := fun q h => by rw [← hAe]; exact Or.inr h
  have hS : va_S A s.heap s.heap [] := va_S.rf
  have C0 : CallFix p m c prog_4_method_4_code 8 s _ kwA kRX2 := ⟨hx, hb, hml, hown, hts⟩
  have hl := lv_entry ([.ref h_this, .ref h_a1]) (n := 8) (Nat.le_of_ble_eq_true rfl)
  rw [lg_entry_eq]
  generalize (lg_sl ([.ref h_this, .ref h_a1]) ++ List.replicate (8 - (lg_sl ([.ref h_this, .ref h_a1])).length) Slot.unset).toArray = ls at hl ⊢
  have hl : lv_has ls 8 [(0, .ref h_this), (1, .ref h_a1)] := hl
  unfold kFX2_transformBack at h
  refine lv_bipush (v := 127) hx hb kdX2_transformBack_0 (by decide) ?_
  refine lv_istore_n (lv' := [(2, .int (127 : Int32)), (0, .ref h_this), (1, .ref h_a1)]) hx hb kdX2_transformBack_2 rfl hl (by decide) rfl (fun ls hl => ?_)
  refine lv_iconst (v := 2) hx hb kdX2_transformBack_3 (by decide) ?_
  refine lv_istore_n (lv' := [(3, .int (2 : Int32)), (2, .int (127 : Int32)), (0, .ref h_this), (1, .ref h_a1)]) hx hb kdX2_transformBack_4 rfl hl (by decide) rfl (fun ls hl => ?_)
  obtain ⟨r_40, hr_40, h⟩ := kb_o_s h
  refine klX2_transformBack_5 C0 hlocks hK hN hA (by decide) (by decide) h_this h_a1 a_this n_a1 f_this_powers 100000 (127 : Int32) (2 : Int32) f_a1 r_40 hr_40 _ _ _ hP hD hS (lv_sub hl [2, 3, 1, 0] rfl) (fun x2p5_28 x3p5_29 f_a1p5_30 er_40 H locs ls hP hD hS hl => ?_)
  subst er_40
  refine lv_iconst (v := 0) hx hb kdX2_transformBack_122 (by decide) ?_
  refine lv_istore_n (lv' := [(3, .int (0 : Int32)), (0, .ref h_this), (1, .ref h_a1), (2, .int x2p5_28)]) hx hb kdX2_transformBack_123 rfl hl (by decide) rfl (fun ls hl => ?_)
  obtain ⟨r_39, hr_39, h⟩ := kb_o_s h
  refine klX2_transformBack_124 C0 hlocks hK hN hA (by decide) (by decide) h_a1 h_this a_this n_a1 f_this_powers 100000 (0 : Int32) f_a1p5_30 r_39 hr_39 _ _ _ hP hD hS (lv_sub hl [2, 0] rfl) (fun x3p124_37 f_a1p124_38 er_39 H locs ls hP hD hS hl => ?_)
  subst er_39
  obtain rfl := Option.some.inj h
  exact W.vret hx hb hr (fun t ht hW => ⟨⟨rfl, by rw [ht]; exact hP, va_K.moved hW.alike hK, hD⟩, hS.F ht⟩) hS.2.2 kdX2_transformBack_151

-- 455.ModuleKem.Ring.addPairProduct.lean.txt
abbrev kWX2_addPairProduct (cB cI cL cBB cII cSh : ClassId) (h_a1 : Nat) (n_a1 : Nat) (h_a2 : Nat) (n_a2 : Nat) (h_a3 : Nat) (n_a3 : Nat) (f_a1 : Nat → Int32) (f_a2 : Nat → Int32) (f_a3 : Nat → Int32) : va_W := [(h_a1, .inl (cI, n_a1, .inl f_a1)), (h_a2, .inl (cI, n_a2, .inl f_a2)), (h_a3, .inl (cI, n_a3, .inl f_a3))]
def krX2_addPairProduct : Room := { frames := 0, cells := 0, slots := 0, locals := 0 }
set_option maxHeartbeats 4000000 in
set_option maxRecDepth 100000 in
theorem kcX2_addPairProduct (l : Launch) (D : va_G) (cB cI cL cBB cII cSh : ClassId) (h_a1 h_a2 h_a3 : Nat) (sz : Nat) (p4 : Int32) (p5 : Int32) (n_a1 : Nat) (n_a2 : Nat) (n_a3 : Nat) (f_a1 : Nat → Int32) (f_a2 : Nat → Int32) (f_a3 : Nat → Int32) (out : (Nat → Int32)) (h : kFX2_addPairProduct p4 p5 n_a1 n_a2 n_a3 f_a1 f_a2 f_a3 = some out) : Met l kyX2_addPairProduct kwX2_addPairProduct krX2_addPairProduct (kb_P D kCl (kb_T cB cI cL cBB cII cSh) [.ref h_a1, .ref h_a2, .ref h_a3, .int p4, .int p5] (kWX2_addPairProduct cB cI cL cBB cII cSh h_a1 n_a1 h_a2 n_a2 h_a3 n_a3 f_a1 f_a2 f_a3) sz) (kb_Q D kCl (kb_T cB cI cL cBB cII cSh) (va_A (kWX2_addPairProduct cB cI cL cBB cII cSh h_a1 n_a1 h_a2 n_a2 h_a3 n_a3 f_a1 f_a2 f_a3) sz) none (kWX2_addPairProduct cB cI cL cBB cII cSh h_a1 n_a1 h_a2 n_a2 h_a3 n_a3 out f_a2 f_a3)) 0 0 (va_A (kWX2_addPairProduct cB cI cL cBB cII cSh h_a1 n_a1 h_a2 n_a2 h_a3 n_a3 f_a1 f_a2 f_a3) sz) := by
  refine Met.ofW (cc := prog_4_method_6_code) (maxL := 6) (ret := none) (by decide) rfl ?_
  intro p e s m args below meth c s₁ B hml hv
  obtain ⟨rfl, hsz, hP, hK, hN, hD0⟩ := hv
  have hx := B.exec
  have hb := B.bytes
  have hr := B.returns
  have hts0 := atoms_spec (ws := kwX2_addPairProduct) B.pre
  have hts : ∀ w ∈ kwA, w.before _ s = true := fun w h => hts0 w (List.mem_cons_of_mem _ h)
  have hown : s.vm.findClass kRX2 = some m.cls := findClass_of_methodNamed B.named
  have hlocks := B.notSynchronized
  subst hsz
  have hD := hD0.self (sz := s.heap.size)
  generalize hAe : va_A (kWX2_addPairProduct cB cI cL cBB cII cSh h_a1 n_a1 h_a2 n_a2 h_a3 n_a3 f_a1 f_a2 f_a3) s.heap.size = A at hD ⊢
  have hA : ∀ q : Nat, s.heap.size ≤ q → A q := fun q h => by rw [← hAe]; exact Or.inr h
  have hS : va_S A s.heap s.heap [] := va_S.rf
  have C0 : CallFix p m c prog_4_method_6_code 6 s _ kwA kRX2 := ⟨hx, hb, hml, hown, hts⟩
  have hl := lv_entry ([.ref h_a1, .ref h_a2, .ref h_a3, .int p4, .int p5]) (n := 6) (Nat.le_of_ble_eq_true rfl)
  rw [lg_entry_eq]
  generalize (lg_sl ([.ref h_a1, .ref h_a2, .ref h_a3, .int p4, .int p5]) ++ List.replicate (6 - (lg_sl ([.ref h_a1, .ref h_a2, .ref h_a3, .int p4, .int p5])).length) Slot.unset).toArray = ls at hl ⊢
  have hl : lv_has ls 6 [(0, .ref h_a1), (1, .ref h_a2), (2, .ref h_a3), (3, .int p4), (4, .int p5)] := hl
  unfold kFX2_addPairProduct at h
  refine lv_aload_n hx hb kdX2_addPairProduct_0 rfl (lv_at hl 1 rfl) ?_
  refine lv_iload_n hx hb kdX2_addPairProduct_1 rfl (lv_at hl 3 rfl) ?_
  refine lv_iconst (v := 1) hx hb kdX2_addPairProduct_2 (by decide) ?_
  refine lv_iadd hx hb kdX2_addPairProduct_3 ?_
  obtain ⟨g_1, h⟩ := kb_g_s h
  refine va_iald hx hb hK hP 1 1 rfl rfl (kb_in_v g_1) kdX2_addPairProduct_4 ?_
  refine lv_aload_n hx hb kdX2_addPairProduct_5 rfl (lv_at hl 2 rfl) ?_
  refine lv_iload_n hx hb kdX2_addPairProduct_6 rfl (lv_at hl 3 rfl) ?_
  refine lv_iconst (v := 1) hx hb kdX2_addPairProduct_7 (by decide) ?_
  refine lv_iadd hx hb kdX2_addPairProduct_8 ?_
  obtain ⟨g_2, h⟩ := kb_g_s h
  refine va_iald hx hb hK hP 2 1 rfl rfl (kb_in_v g_2) kdX2_addPairProduct_9 ?_
  refine lv_imul hx hb kdX2_addPairProduct_10 ?_
  refine lv_sipush (v := 3329) hx hb kdX2_addPairProduct_11 (by decide) ?_
  refine lv_irem hx hb kdX2_addPairProduct_14 (by decide) ?_
  refine lv_topi (fun q_3 eq_3 => ?_)
  have h := kb_n_s eq_3 h
  refine lv_istore (lv' := [(5, .int q_3), (0, .ref h_a1), (1, .ref h_a2), (2, .ref h_a3), (3, .int p4), (4, .int p5)]) hx hb kdX2_addPairProduct_15 hl (by decide) rfl (fun ls hl => ?_)
  refine lv_aload_n hx hb kdX2_addPairProduct_17 rfl (lv_at hl 1 rfl) ?_
  refine lv_iload_n hx hb kdX2_addPairProduct_18 rfl (lv_at hl 4 rfl) ?_
  refine lv_aload_n hx hb kdX2_addPairProduct_19 rfl (lv_at hl 1 rfl) ?_
  refine lv_iload_n hx hb kdX2_addPairProduct_20 rfl (lv_at hl 4 rfl) ?_
  obtain ⟨g_4, h⟩ := kb_g_s h
  refine va_iald hx hb hK hP 0 1 rfl rfl (kb_in_v g_4) kdX2_addPairProduct_21 ?_
  refine lv_aload_n hx hb kdX2_addPairProduct_22 rfl (lv_at hl 2 rfl) ?_
  refine lv_iload_n hx hb kdX2_addPairProduct_23 rfl (lv_at hl 4 rfl) ?_
  obtain ⟨g_5, h⟩ := kb_g_s h
  refine va_iald hx hb hK hP 1 1 rfl rfl (kb_in_v g_5) kdX2_addPairProduct_24 ?_
  refine lv_aload_n hx hb kdX2_addPairProduct_25 rfl (lv_at hl 3 rfl) ?_
  refine lv_iload_n hx hb kdX2_addPairProduct_26 rfl (lv_at hl 4 rfl) ?_
  obtain ⟨g_6, h⟩ := kb_g_s h
  refine va_iald hx hb hK hP 2 1 rfl rfl (kb_in_v g_6) kdX2_addPairProduct_27 ?_
  refine lv_imul hx hb kdX2_addPairProduct_28 ?_
  refine lv_iadd hx hb kdX2_addPairProduct_29 ?_
  refine lv_iload hx hb kdX2_addPairProduct_30 (lv_at hl 0 rfl) ?_
  refine lv_iload hx hb kdX2_addPairProduct_32 (lv_at hl 5 rfl) ?_
  refine lv_imul hx hb kdX2_addPairProduct_34 ?_
  refine lv_iadd hx hb kdX2_addPairProduct_35 ?_
  refine lv_sipush (v := 3329) hx hb kdX2_addPairProduct_36 (by decide) ?_
  refine lv_irem hx hb kdX2_addPairProduct_39 (by decide) ?_
  refine lv_topi (fun q_7 eq_7 => ?_)
  have h := kb_n_s eq_7 h
  obtain ⟨g_8, h⟩ := kb_g_s h
  refine va_iast hx hb hK hP hD hS 0 1 rfl rfl (kb_in_v g_8) kdX2_addPairProduct_40 (fun H locs hP hD hS => ?_)
  obtain ⟨f_9, ef_9⟩ : ∃ y, y = upd f_a1 p4.toNatClampNeg q_7 := ⟨_, rfl⟩
  have h := kb_n_s ef_9 h
  have hP : va_P D kCl (kWX2_addPairProduct cB cI cL cBB cII cSh h_a1 n_a1 h_a2 n_a2 h_a3 n_a3 f_9 f_a2 f_a3) H := by rw [ef_9]; exact hP
  have hD : va_D A (kWX2_addPairProduct cB cI cL cBB cII cSh h_a1 n_a1 h_a2 n_a2 h_a3 n_a3 f_9 f_a2 f_a3) := by rw [ef_9]; exact hD
  refine lv_aload_n hx hb kdX2_addPairProduct_41 rfl (lv_at hl 1 rfl) ?_
  refine lv_iload_n hx hb kdX2_addPairProduct_42 rfl (lv_at hl 4 rfl) ?_
  refine lv_iconst (v := 1) hx hb kdX2_addPairProduct_43 (by decide) ?_
  refine lv_iadd hx hb kdX2_addPairProduct_44 ?_
  refine lv_aload_n hx hb kdX2_addPairProduct_45 rfl (lv_at hl 1 rfl) ?_
  refine lv_iload_n hx hb kdX2_addPairProduct_46 rfl (lv_at hl 4 rfl) ?_
  refine lv_iconst (v := 1) hx hb kdX2_addPairProduct_47 (by decide) ?_
  refine lv_iadd hx hb kdX2_addPairProduct_48 ?_
  obtain ⟨g_10, h⟩ := kb_g_s h
  refine va_iald hx hb hK hP 0 1 rfl rfl (kb_in_v g_10) kdX2_addPairProduct_49 ?_
  refine lv_aload_n hx hb kdX2_addPairProduct_50 rfl (lv_at hl 2 rfl) ?_
  refine lv_iload_n hx hb kdX2_addPairProduct_51 rfl (lv_at hl 4 rfl) ?_
  obtain ⟨g_11, h⟩ := kb_g_s h
  refine va_iald hx hb hK hP 1 1 rfl rfl (kb_in_v g_11) kdX2_addPairProduct_52 ?_
  refine lv_aload_n hx hb kdX2_addPairProduct_53 rfl (lv_at hl 3 rfl) ?_
  refine lv_iload_n hx hb kdX2_addPairProduct_54 rfl (lv_at hl 4 rfl) ?_
  refine lv_iconst (v := 1) hx hb kdX2_addPairProduct_55 (by decide) ?_
  refine lv_iadd hx hb kdX2_addPairProduct_56 ?_
  obtain ⟨g_12, h⟩ := kb_g_s h
  refine va_iald hx hb hK hP 2 1 rfl rfl (kb_in_v g_12) kdX2_addPairProduct_57 ?_
  refine lv_imul hx hb kdX2_addPairProduct_58 ?_
  refine lv_iadd hx hb kdX2_addPairProduct_59 ?_
  refine lv_aload_n hx hb kdX2_addPairProduct_60 rfl (lv_at hl 2 rfl) ?_
  refine lv_iload_n hx hb kdX2_addPairProduct_61 rfl (lv_at hl 4 rfl) ?_
  refine lv_iconst (v := 1) hx hb kdX2_addPairProduct_62 (by decide) ?_
  refine lv_iadd hx hb kdX2_addPairProduct_63 ?_
  obtain ⟨g_13, h⟩ := kb_g_s h
  refine va_iald hx hb hK hP 1 1 rfl rfl (kb_in_v g_13) kdX2_addPairProduct_64 ?_
  refine lv_aload_n hx hb kdX2_addPairProduct_65 rfl (lv_at hl 3 rfl) ?_
  refine lv_iload_n hx hb kdX2_addPairProduct_66 rfl (lv_at hl 4 rfl) ?_
  obtain ⟨g_14, h⟩ := kb_g_s h
  refine va_iald hx hb hK hP 2 1 rfl rfl (kb_in_v g_14) kdX2_addPairProduct_67 ?_
  refine lv_imul hx hb kdX2_addPairProduct_68 ?_
  refine lv_iadd hx hb kdX2_addPairProduct_69 ?_
  refine lv_sipush (v := 3329) hx hb kdX2_addPairProduct_70 (by decide) ?_
  refine lv_irem hx hb kdX2_addPairProduct_73 (by decide) ?_
  refine lv_topi (fun q_15 eq_15 => ?_)
  have h := kb_n_s eq_15 h
  obtain ⟨g_16, h⟩ := kb_g_s h
  refine va_iast hx hb hK hP hD hS 0 1 rfl rfl (kb_in_v g_16) kdX2_addPairProduct_74 (fun H locs hP hD hS => ?_)
  obtain ⟨f_17, ef_17⟩ : ∃ y, y = upd f_9 (p4 + (1 : Int32)).toNatClampNeg q_15 := ⟨_, rfl⟩
  have h := kb_n_s ef_17 h
  have hP : va_P D kCl (kWX2_addPairProduct cB cI cL cBB cII cSh h_a1 n_a1 h_a2 n_a2 h_a3 n_a3 f_17 f_a2 f_a3) H := by rw [ef_17]; exact hP
  have hD : va_D A (kWX2_addPairProduct cB cI cL cBB cII cSh h_a1 n_a1 h_a2 n_a2 h_a3 n_a3 f_17 f_a2 f_a3) := by rw [ef_17]; exact hD
  obtain rfl := Option.some.inj h
  exact W.vret hx hb hr (fun t ht hW => ⟨⟨rfl, by rw [ht]; exact hP, va_K.moved hW.alike hK, hD⟩, hS.F ht⟩) hS.2.2 kdX2_addPairProduct_75

-- 456.ModuleKem.Ring.add.lean.txt
abbrev kWX2_add (cB cI cL cBB cII cSh : ClassId) (h_a1 : Nat) (n_a1 : Nat) (h_a2 : Nat) (n_a2 : Nat) (f_a1 : Nat → Int32) (f_a2 : Nat → Int32) : va_W := [(h_a1, .inl (cI, n_a1, .inl f_a1)), (h_a2, .inl (cI, n_a2, .inl f_a2))]
def krX2_add : Room := { frames := 0, cells := 0, slots := 0, locals := 0 }
set_option maxHeartbeats 4000000 in
set_option maxRecDepth 100000 in
theorem klX2_add_2 {p : Program} {l : Launch} {e : Env} {s : State} {m : MethodId} {args : Array Value} {below : List Frame} {meth : Method} {c : Code} {cells slots : Nat} {Q : State → Prop} {D : va_G} {cB cI cL cBB cII cSh : ClassId} {A : Nat → Prop} (C0 : CallFix p m c prog_4_method_7_code 3 s args kwA kRX2) (hlocks : meth.locks = false) (hK : va_K D kCl (kb_T cB cI cL cBB cII cSh) s) (hN : kb_N s) (hA : ∀ q, s.heap.size ≤ q → A q) (hcR : cells ≤ krX2_add.cells) (hsR : slots ≤ krX2_add.slots) (h_a1 h_a2 : Nat) (n_a1 : Nat) (n_a2 : Nat) (f_a2 : Nat → Int32) :
    ∀ (fuel : Nat) (x2p2 : Int32) (f_a1p2 : Nat → Int32) (r : Int32 × (Nat → Int32)), kb_w (fun u : Int32 × (Nat → Int32) => kSX2_add_2 n_a1 n_a2 f_a2 u.1 u.2) fuel (x2p2, f_a1p2) = some r → ∀ (H : Heap) (locs : List Loc) (ls : Array Slot), va_P D kCl (kWX2_add cB cI cL cBB cII cSh h_a1 n_a1 h_a2 n_a2 f_a1p2 f_a2) H → va_D A (kWX2_add cB cI cL cBB cII cSh h_a1 n_a1 h_a2 n_a2 f_a1p2 f_a2) → va_S A s.heap H locs → lv_has ls 3 [(0, .ref h_a1), (1, .ref h_a2), (2, .int x2p2)] → (∀ (x2p2' : Int32) (f_a1p2' : Nat → Int32), r = (x2p2', f_a1p2') → ∀ (H : Heap) (locs : List Loc) (ls : Array Slot), va_P D kCl (kWX2_add cB cI cL cBB cII cSh h_a1 n_a1 h_a2 n_a2 f_a1p2' f_a2) H → va_D A (kWX2_add cB cI cL cBB cII cSh h_a1 n_a1 h_a2 n_a2 f_a1p2' f_a2) → va_S A s.heap H locs → lv_has ls 3 [(0, .ref h_a1), (1, .ref h_a2), (2, .int x2p2')] → W p l e krX2_add s m args below meth c H locs cells slots Q (F0 m 29 ls [])) → W p l e krX2_add s m args below meth c H locs cells slots Q (F0 m 2 ls []) := by
  obtain ⟨hx, hb, hml, hown, hts⟩ := id C0
  intro fuel
  induction fuel with
  | zero =>
    intro x2p2 f_a1p2 r h
    exact absurd h (kb_w_z _ _ _)
  | succ fuel ih =>
    intro x2p2 f_a1p2 r h H locs ls hP hD hS hl hk0
    obtain ⟨o, h, ho⟩ := kb_w_s h
    have h : kSX2_add_2 n_a1 n_a2 f_a2 x2p2 f_a1p2 = some o := h
    unfold kSX2_add_2 at h
    refine lv_iload_n hx hb kdX2_add_2 rfl (lv_at hl 2 rfl) ?_
    refine lv_sipush (v := 256) hx hb kdX2_add_3 (by decide) ?_
    refine lv_icmp_ge (tgt := 29) hx hb kdX2_add_6 (by decide) (fun c_1 => ?_) (fun c_1 => ?_)
    · have h := kb_b_t c_1 h
      obtain rfl := Option.some.inj h
      exact hk0 x2p2 f_a1p2 ho.symm _ _ _ hP hD hS (lv_sub hl [0, 1, 2] rfl)
    · have h := kb_b_f c_1 h
      refine lv_aload_n hx hb kdX2_add_9 rfl (lv_at hl 0 rfl) ?_
      refine lv_iload_n hx hb kdX2_add_10 rfl (lv_at hl 2 rfl) ?_
      refine lv_aload_n hx hb kdX2_add_11 rfl (lv_at hl 0 rfl) ?_
      refine lv_iload_n hx hb kdX2_add_12 rfl (lv_at hl 2 rfl) ?_
      obtain ⟨g_2, h⟩ := kb_g_s h
      refine va_iald hx hb hK hP 0 1 rfl rfl (kb_in_v g_2) kdX2_add_13 ?_
      refine lv_aload_n hx hb kdX2_add_14 rfl (lv_at hl 1 rfl) ?_
      refine lv_iload_n hx hb kdX2_add_15 rfl (lv_at hl 2 rfl) ?_
      obtain ⟨g_3, h⟩ := kb_g_s h
      refine va_iald hx hb hK hP 1 1 rfl rfl (kb_in_v g_3) kdX2_add_16 ?_
      refine lv_iadd hx hb kdX2_add_17 ?_
      refine lv_sipush (v := 3329) hx hb kdX2_add_18 (by decide) ?_
      refine lv_irem hx hb kdX2_add_21 (by decide) ?_
      refine lv_topi (fun q_4 eq_4 => ?_)
      have h := kb_n_s eq_4 h
      obtain ⟨g_5, h⟩ := kb_g_s h
      refine va_iast hx hb hK hP hD hS 0 1 rfl rfl (kb_in_v g_5) kdX2_add_22 (fun H locs hP hD hS => ?_)
      obtain ⟨f_6, ef_6⟩ : ∃ y, y = upd f_a1p2 x2p2.toNatClampNeg q_4 := ⟨_, rfl⟩
      have h := kb_n_s ef_6 h
      have hP : va_P D kCl (kWX2_add cB cI cL cBB cII cSh h_a1 n_a1 h_a2 n_a2 f_6 f_a2) H := by rw [ef_6]; exact hP
      have hD : va_D A (kWX2_add cB cI cL cBB cII cSh h_a1 n_a1 h_a2 n_a2 f_6 f_a2) := by rw [ef_6]; exact hD
      obtain ⟨x2_7, ex2_7⟩ : ∃ y : Int32, y = x2p2 + Int32.ofInt 1 := ⟨_, rfl⟩
      have h := kb_n_s ex2_7 h
      refine lv_iinc (v := x2_7) (lv' := [(2, .int x2_7), (0, .ref h_a1), (1, .ref h_a2)]) hx hb kdX2_add_23 hl (k := 2) rfl ex2_7.symm (by decide) rfl (fun ls hl => ?_)
      refine lv_goto (tgt := 2) hx hb kdX2_add_26 (by decide) ?_
      obtain rfl := Option.some.inj h
      exact ih x2_7 f_6 r ho _ _ _ hP hD hS (lv_sub hl [1, 2, 0] rfl) hk0
set_option maxHeartbeats 4000000 in
set_option maxRecDepth 100000 in
theorem kcX2_add (l : Launch) (D : va_G) (cB cI cL cBB cII cSh : ClassId) (h_a1 h_a2 : Nat) (sz : Nat) (n_a1 : Nat) (n_a2 : Nat) (f_a1 : Nat → Int32) (f_a2 : Nat → Int32) (out : (Nat → Int32)) (h : kFX2_add n_a1 n_a2 f_a1 f_a2 = some out) : Met l kyX2_add kwX2_add krX2_add (kb_P D kCl (kb_T cB cI cL cBB cII cSh) [.ref h_a1, .ref h_a2] (kWX2_add cB cI cL cBB cII cSh h_a1 n_a1 h_a2 n_a2 f_a1 f_a2) sz) (kb_Q D kCl (kb_T cB cI cL cBB cII cSh) (va_A (kWX2_add cB cI cL cBB cII cSh h_a1 n_a1 h_a2 n_a2 f_a1 f_a2) sz) none (kWX2_add cB cI cL cBB cII cSh h_a1 n_a1 h_a2 n_a2 out f_a2)) 0 0 (va_A (kWX2_add cB cI cL cBB cII cSh h_a1 n_a1 h_a2 n_a2 f_a1 f_a2) sz) := by
  refine Met.ofW (cc := prog_4_method_7_code) (maxL := 3) (ret := none) (by decide) rfl ?_
  intro p e s m args below meth c s₁ B hml hv
  obtain ⟨rfl, hsz, hP, hK, hN, hD0⟩ := hv
  have hx := B.exec
  have hb := B.bytes
  have hr := B.returns
  have hts0 := atoms_spec (ws := kwX2_add) B.pre
  have hts : ∀ w ∈ kwA, w.before _ s = true := fun w h => hts0 w (List.mem_cons_of_mem _ h)
  have hown : s.vm.findClass kRX2 = some m.cls := findClass_of_methodNamed B.named
  have hlocks := B.notSynchronized
  subst hsz
  have hD := hD0.self (sz := s.heap.size)
  generalize hAe : va_A (kWX2_add cB cI cL cBB cII cSh h_a1 n_a1 h_a2 n_a2 f_a1 f_a2) s.heap.size = A at hD ⊢
  have hA : ∀ q : Nat, s.heap.size ≤ q → A q := fun q h => by rw [← hAe]; exact Or.inr h
  have hS : va_S A s.heap s.heap [] := va_S.rf
  have C0 : CallFix p m c prog_4_method_7_code 3 s _ kwA kRX2 := ⟨hx, hb, hml, hown, hts⟩
  have hl := lv_entry ([.ref h_a1, .ref h_a2]) (n := 3) (Nat.le_of_ble_eq_true rfl)
  rw [lg_entry_eq]
  generalize (lg_sl ([.ref h_a1, .ref h_a2]) ++ List.replicate (3 - (lg_sl ([.ref h_a1, .ref h_a2])).length) Slot.unset).toArray = ls at hl ⊢
  have hl : lv_has ls 3 [(0, .ref h_a1), (1, .ref h_a2)] := hl
  unfold kFX2_add at h
  refine lv_iconst (v := 0) hx hb kdX2_add_0 (by decide) ?_
  refine lv_istore_n (lv' := [(2, .int (0 : Int32)), (0, .ref h_a1), (1, .ref h_a2)]) hx hb kdX2_add_1 rfl hl (by decide) rfl (fun ls hl => ?_)
  obtain ⟨r_10, hr_10, h⟩ := kb_o_s h
  refine klX2_add_2 C0 hlocks hK hN hA (by decide) (by decide) h_a1 h_a2 n_a1 n_a2 f_a2 100000 (0 : Int32) f_a1 r_10 hr_10 _ _ _ hP hD hS (lv_sub hl [1, 2, 0] rfl) (fun x2p2_8 f_a1p2_9 er_10 H locs ls hP hD hS hl => ?_)
  subst er_10
  obtain rfl := Option.some.inj h
  exact W.vret hx hb hr (fun t ht hW => ⟨⟨rfl, by rw [ht]; exact hP, va_K.moved hW.alike hK, hD⟩, hS.F ht⟩) hS.2.2 kdX2_add_29

-- 457.ModuleKem.Ring.clear.lean.txt
abbrev kWX2_clear (cB cI cL cBB cII cSh : ClassId) (h_a1 : Nat) (n_a1 : Nat) (f_a1 : Nat → Int32) : va_W := [(h_a1, .inl (cI, n_a1, .inl f_a1))]
def krX2_clear : Room := { frames := 0, cells := 0, slots := 0, locals := 0 }
set_option maxHeartbeats 4000000 in
set_option maxRecDepth 100000 in
theorem klX2_clear_2 {p : Program} {l : Launch} {e : Env} {s : State} {m : MethodId} {args : Array Value} {below : List Frame} {meth : Method} {c : Code} {cells slots : Nat} {Q : State → Prop} {D : va_G} {cB cI cL cBB cII cSh : ClassId} {A : Nat → Prop} (C0 : CallFix p m c prog_4_method_8_code 2 s args kwA kRX2) (hlocks : meth.locks = false) (hK : va_K D kCl (kb_T cB cI cL cBB cII cSh) s) (hN : kb_N s) (hA : ∀ q, s.heap.size ≤ q → A q) (hcR : cells ≤ krX2_clear.cells) (hsR : slots ≤ krX2_clear.slots) (h_a1 : Nat) (n_a1 : Nat) :
    ∀ (fuel : Nat) (x1p2 : Int32) (f_a1p2 : Nat → Int32) (r : Int32 × (Nat → Int32)), kb_w (fun u : Int32 × (Nat → Int32) => kSX2_clear_2 n_a1 u.1 u.2) fuel (x1p2, f_a1p2) = some r → ∀ (H : Heap) (locs : List Loc) (ls : Array Slot), va_P D kCl (kWX2_clear cB cI cL cBB cII cSh h_a1 n_a1 f_a1p2) H → va_D A (kWX2_clear cB cI cL cBB cII cSh h_a1 n_a1 f_a1p2) → va_S A s.heap H locs → lv_has ls 2 [(0, .ref h_a1), (1, .int x1p2)] → (∀ (x1p2' : Int32) (f_a1p2' : Nat → Int32), r = (x1p2', f_a1p2') → ∀ (H : Heap) (locs : List Loc) (ls : Array Slot), va_P D kCl (kWX2_clear cB cI cL cBB cII cSh h_a1 n_a1 f_a1p2') H → va_D A (kWX2_clear cB cI cL cBB cII cSh h_a1 n_a1 f_a1p2') → va_S A s.heap H locs → lv_has ls 2 [(0, .ref h_a1), (1, .int x1p2')] → W p l e krX2_clear s m args below meth c H locs cells slots Q (F0 m 19 ls [])) → W p l e krX2_clear s m args below meth c H locs cells slots Q (F0 m 2 ls []) := by
  obtain ⟨hx, hb, hml, hown, hts⟩ := id C0
  intro fuel
  induction fuel with
  | zero =>
    intro x1p2 f_a1p2 r h
    exact absurd h (kb_w_z _ _ _)
  | succ fuel ih =>
    intro x1p2 f_a1p2 r h H locs ls hP hD hS hl hk0
    obtain ⟨o, h, ho⟩ := kb_w_s h
    have h : kSX2_clear_2 n_a1 x1p2 f_a1p2 = some o := h
    unfold kSX2_clear_2 at h
    refine lv_iload_n hx hb kdX2_clear_2 rfl (lv_at hl 1 rfl) ?_
    refine lv_sipush (v := 256) hx hb kdX2_clear_3 (by decide) ?_
    refine lv_icmp_ge (tgt := 19) hx hb kdX2_clear_6 (by decide) (fun c_1 => ?_) (fun c_1 => ?_)
    · have h := kb_b_t c_1 h
      obtain rfl := Option.some.inj h
      exact hk0 x1p2 f_a1p2 ho.symm _ _ _ hP hD hS (lv_sub hl [0, 1] rfl)
    · have h := kb_b_f c_1 h
      refine lv_aload_n hx hb kdX2_clear_9 rfl (lv_at hl 0 rfl) ?_
      refine lv_iload_n hx hb kdX2_clear_10 rfl (lv_at hl 1 rfl) ?_
      refine lv_iconst (v := 0) hx hb kdX2_clear_11 (by decide) ?_
      obtain ⟨g_2, h⟩ := kb_g_s h
      refine va_iast hx hb hK hP hD hS 0 1 rfl rfl (kb_in_v g_2) kdX2_clear_12 (fun H locs hP hD hS => ?_)
      obtain ⟨f_3, ef_3⟩ : ∃ y, y = upd f_a1p2 x1p2.toNatClampNeg (0 : Int32) := ⟨_, rfl⟩
      have h := kb_n_s ef_3 h
      have hP : va_P D kCl (kWX2_clear cB cI cL cBB cII cSh h_a1 n_a1 f_3) H := by rw [ef_3]; exact hP
      have hD : va_D A (kWX2_clear cB cI cL cBB cII cSh h_a1 n_a1 f_3) := by rw [ef_3]; exact hD
      obtain ⟨x1_4, ex1_4⟩ : ∃ y : Int32, y = x1p2 + Int32.ofInt 1 := ⟨_, rfl⟩
      have h := kb_n_s ex1_4 h
      refine lv_iinc (v := x1_4) (lv' := [(1, .int x1_4), (0, .ref h_a1)]) hx hb kdX2_clear_13 hl (k := 1) rfl ex1_4.symm (by decide) rfl (fun ls hl => ?_)
      refine lv_goto (tgt := 2) hx hb kdX2_clear_16 (by decide) ?_
      obtain rfl := Option.some.inj h
      exact ih x1_4 f_3 r ho _ _ _ hP hD hS (lv_sub hl [1, 0] rfl) hk0
set_option maxHeartbeats 4000000 in
set_option maxRecDepth 100000 in
theorem kcX2_clear (l : Launch) (D : va_G) (cB cI cL cBB cII cSh : ClassId) (h_a1 : Nat) (sz : Nat) (n_a1 : Nat) (f_a1 : Nat → Int32) (out : (Nat → Int32)) (h : kFX2_clear n_a1 f_a1 = some out) : Met l kyX2_clear kwX2_clear krX2_clear (kb_P D kCl (kb_T cB cI cL cBB cII cSh) [.ref h_a1] (kWX2_clear cB cI cL cBB cII cSh h_a1 n_a1 f_a1) sz) (kb_Q D kCl (kb_T cB cI cL cBB cII cSh) (va_A (kWX2_clear cB cI cL cBB cII cSh h_a1 n_a1 f_a1) sz) none (kWX2_clear cB cI cL cBB cII cSh h_a1 n_a1 out)) 0 0 (va_A (kWX2_clear cB cI cL cBB cII cSh h_a1 n_a1 f_a1) sz) := by
  refine Met.ofW (cc := prog_4_method_8_code) (maxL := 2) (ret := none) (by decide) rfl ?_
  intro p e s m args below meth c s₁ B hml hv
  obtain ⟨rfl, hsz, hP, hK, hN, hD0⟩ := hv
  have hx := B.exec
  have hb := B.bytes
  have hr := B.returns
  have hts0 := atoms_spec (ws := kwX2_clear) B.pre
  have hts : ∀ w ∈ kwA, w.before _ s = true := fun w h => hts0 w (List.mem_cons_of_mem _ h)
  have hown : s.vm.findClass kRX2 = some m.cls := findClass_of_methodNamed B.named
  have hlocks := B.notSynchronized
  subst hsz
  have hD := hD0.self (sz := s.heap.size)
  generalize hAe : va_A (kWX2_clear cB cI cL cBB cII cSh h_a1 n_a1 f_a1) s.heap.size = A at hD ⊢
  have hA : ∀ q : Nat, s.heap.size ≤ q → A q := fun q h => by rw [← hAe]; exact Or.inr h
  have hS : va_S A s.heap s.heap [] := va_S.rf
  have C0 : CallFix p m c prog_4_method_8_code 2 s _ kwA kRX2 := ⟨hx, hb, hml, hown, hts⟩
  have hl := lv_entry ([.ref h_a1]) (n := 2) (Nat.le_of_ble_eq_true rfl)
  rw [lg_entry_eq]
  generalize (lg_sl ([.ref h_a1]) ++ List.replicate (2 - (lg_sl ([.ref h_a1])).length) Slot.unset).toArray = ls at hl ⊢
  have hl : lv_has ls 2 [(0, .ref h_a1)] := hl
  unfold kFX2_clear at h
  refine lv_iconst (v := 0) hx hb kdX2_clear_0 (by decide) ?_
  refine lv_istore_n (lv' := [(1, .int (0 : Int32)), (0, .ref h_a1)]) hx hb kdX2_clear_1 rfl hl (by decide) rfl (fun ls hl => ?_)
  obtain ⟨r_7, hr_7, h⟩ := kb_o_s h
  refine klX2_clear_2 C0 hlocks hK hN hA (by decide) (by decide) h_a1 n_a1 100000 (0 : Int32) f_a1 r_7 hr_7 _ _ _ hP hD hS (lv_sub hl [1, 0] rfl) (fun x1p2_5 f_a1p2_6 er_7 H locs ls hP hD hS hl => ?_)
  subst er_7
  obtain rfl := Option.some.inj h
  exact W.vret hx hb hr (fun t ht hW => ⟨⟨rfl, by rw [ht]; exact hP, va_K.moved hW.alike hK, hD⟩, hS.F ht⟩) hS.2.2 kdX2_clear_19

-- 458.ModuleKem.Ring.subtractFrom.lean.txt
abbrev kWX2_subtractFrom (cB cI cL cBB cII cSh : ClassId) (h_a1 : Nat) (n_a1 : Nat) (h_a2 : Nat) (n_a2 : Nat) (f_a1 : Nat → Int32) (f_a2 : Nat → Int32) : va_W := [(h_a1, .inl (cI, n_a1, .inl f_a1)), (h_a2, .inl (cI, n_a2, .inl f_a2))]
def krX2_subtractFrom : Room := { frames := 0, cells := 0, slots := 0, locals := 0 }
set_option maxHeartbeats 4000000 in
set_option maxRecDepth 100000 in
theorem klX2_subtractFrom_2 {p : Program} {l : Launch} {e : Env} {s : State} {m : MethodId} {args : Array Value} {below : List Frame} {meth : Method} {c : Code} {cells slots : Nat} {Q : State → Prop} {D : va_G} {cB cI cL cBB cII cSh : ClassId} {A : Nat → Prop} (C0 : CallFix p m c prog_4_method_9_code 3 s args kwA kRX2) (hlocks : meth.locks = false) (hK : va_K D kCl (kb_T cB cI cL cBB cII cSh) s) (hN : kb_N s) (hA : ∀ q, s.heap.size ≤ q → A q) (hcR : cells ≤ krX2_subtractFrom.cells) (hsR : slots ≤ krX2_subtractFrom.slots) (h_a1 h_a2 : Nat) (n_a1 : Nat) (n_a2 : Nat) (f_a1 : Nat → Int32) :
    ∀ (fuel : Nat) (x2p2 : Int32) (f_a2p2 : Nat → Int32) (r : Int32 × (Nat → Int32)), kb_w (fun u : Int32 × (Nat → Int32) => kSX2_subtractFrom_2 n_a1 n_a2 f_a1 u.1 u.2) fuel (x2p2, f_a2p2) = some r → ∀ (H : Heap) (locs : List Loc) (ls : Array Slot), va_P D kCl (kWX2_subtractFrom cB cI cL cBB cII cSh h_a1 n_a1 h_a2 n_a2 f_a1 f_a2p2) H → va_D A (kWX2_subtractFrom cB cI cL cBB cII cSh h_a1 n_a1 h_a2 n_a2 f_a1 f_a2p2) → va_S A s.heap H locs → lv_has ls 3 [(0, .ref h_a1), (1, .ref h_a2), (2, .int x2p2)] → (∀ (x2p2' : Int32) (f_a2p2' : Nat → Int32), r = (x2p2', f_a2p2') → ∀ (H : Heap) (locs : List Loc) (ls : Array Slot), va_P D kCl (kWX2_subtractFrom cB cI cL cBB cII cSh h_a1 n_a1 h_a2 n_a2 f_a1 f_a2p2') H → va_D A (kWX2_subtractFrom cB cI cL cBB cII cSh h_a1 n_a1 h_a2 n_a2 f_a1 f_a2p2') → va_S A s.heap H locs → lv_has ls 3 [(0, .ref h_a1), (1, .ref h_a2), (2, .int x2p2')] → W p l e krX2_subtractFrom s m args below meth c H locs cells slots Q (F0 m 33 ls [])) → W p l e krX2_subtractFrom s m args below meth c H locs cells slots Q (F0 m 2 ls []) := by
  obtain ⟨hx, hb, hml, hown, hts⟩ := id C0
  intro fuel
  induction fuel with
  | zero =>
    intro x2p2 f_a2p2 r h
    exact absurd h (kb_w_z _ _ _)
  | succ fuel ih =>
    intro x2p2 f_a2p2 r h H locs ls hP hD hS hl hk0
    obtain ⟨o, h, ho⟩ := kb_w_s h
    have h : kSX2_subtractFrom_2 n_a1 n_a2 f_a1 x2p2 f_a2p2 = some o := h
    unfold kSX2_subtractFrom_2 at h
    refine lv_iload_n hx hb kdX2_subtractFrom_2 rfl (lv_at hl 2 rfl) ?_
    refine lv_sipush (v := 256) hx hb kdX2_subtractFrom_3 (by decide) ?_
    refine lv_icmp_ge (tgt := 33) hx hb kdX2_subtractFrom_6 (by decide) (fun c_1 => ?_) (fun c_1 => ?_)
    · have h := kb_b_t c_1 h
      obtain rfl := Option.some.inj h
      exact hk0 x2p2 f_a2p2 ho.symm _ _ _ hP hD hS (lv_sub hl [0, 1, 2] rfl)
    · have h := kb_b_f c_1 h
      refine lv_aload_n hx hb kdX2_subtractFrom_9 rfl (lv_at hl 1 rfl) ?_
      refine lv_iload_n hx hb kdX2_subtractFrom_10 rfl (lv_at hl 2 rfl) ?_
      refine lv_aload_n hx hb kdX2_subtractFrom_11 rfl (lv_at hl 0 rfl) ?_
      refine lv_iload_n hx hb kdX2_subtractFrom_12 rfl (lv_at hl 2 rfl) ?_
      obtain ⟨g_2, h⟩ := kb_g_s h
      refine va_iald hx hb hK hP 0 1 rfl rfl (kb_in_v g_2) kdX2_subtractFrom_13 ?_
      refine lv_sipush (v := 3329) hx hb kdX2_subtractFrom_14 (by decide) ?_
      refine lv_iadd hx hb kdX2_subtractFrom_17 ?_
      refine lv_aload_n hx hb kdX2_subtractFrom_18 rfl (lv_at hl 1 rfl) ?_
      refine lv_iload_n hx hb kdX2_subtractFrom_19 rfl (lv_at hl 2 rfl) ?_
      obtain ⟨g_3, h⟩ := kb_g_s h
      refine va_iald hx hb hK hP 1 1 rfl rfl (kb_in_v g_3) kdX2_subtractFrom_20 ?_
      refine lv_isub hx hb kdX2_subtractFrom_21 ?_
      refine lv_sipush (v := 3329) hx hb kdX2_subtractFrom_22 (by decide) ?_
      refine lv_irem hx hb kdX2_subtractFrom_25 (by decide) ?_
      refine lv_topi (fun q_4 eq_4 => ?_)
      have h := kb_n_s eq_4 h
      obtain ⟨g_5, h⟩ := kb_g_s h
      refine va_iast hx hb hK hP hD hS 1 1 rfl rfl (kb_in_v g_5) kdX2_subtractFrom_26 (fun H locs hP hD hS => ?_)
      obtain ⟨f_6, ef_6⟩ : ∃ y, y = upd f_a2p2 x2p2.toNatClampNeg q_4 := ⟨_, rfl⟩
      have h := kb_n_s ef_6 h
      have hP : va_P D kCl (kWX2_subtractFrom cB cI cL cBB cII cSh h_a1 n_a1 h_a2 n_a2 f_a1 f_6) H := by rw [ef_6]; exact hP
      have hD : va_D A (kWX2_subtractFrom cB cI cL cBB cII cSh h_a1 n_a1 h_a2 n_a2 f_a1 f_6) := by rw [ef_6]; exact hD
      obtain ⟨x2_7, ex2_7⟩ : ∃ y : Int32, y = x2p2 + Int32.ofInt 1 := ⟨_, rfl⟩
      have h := kb_n_s ex2_7 h
      refine lv_iinc (v := x2_7) (lv' := [(2, .int x2_7), (0, .ref h_a1), (1, .ref h_a2)]) hx hb kdX2_subtractFrom_27 hl (k := 2) rfl ex2_7.symm (by decide) rfl (fun ls hl => ?_)
      refine lv_goto (tgt := 2) hx hb kdX2_subtractFrom_30 (by decide) ?_
      obtain rfl := Option.some.inj h
      exact ih x2_7 f_6 r ho _ _ _ hP hD hS (lv_sub hl [1, 2, 0] rfl) hk0
set_option maxHeartbeats 4000000 in
set_option maxRecDepth 100000 in
theorem kcX2_subtractFrom (l : Launch) (D : va_G) (cB cI cL cBB cII cSh : ClassId) (h_a1 h_a2 : Nat) (sz : Nat) (n_a1 : Nat) (n_a2 : Nat) (f_a1 : Nat → Int32) (f_a2 : Nat → Int32) (out : (Nat → Int32)) (h : kFX2_subtractFrom n_a1 n_a2 f_a1 f_a2 = some out) : Met l kyX2_subtractFrom kwX2_subtractFrom krX2_subtractFrom (kb_P D kCl (kb_T cB cI cL cBB cII cSh) [.ref h_a1, .ref h_a2] (kWX2_subtractFrom cB cI cL cBB cII cSh h_a1 n_a1 h_a2 n_a2 f_a1 f_a2) sz) (kb_Q D kCl (kb_T cB cI cL cBB cII cSh) (va_A (kWX2_subtractFrom cB cI cL cBB cII cSh h_a1 n_a1 h_a2 n_a2 f_a1 f_a2) sz) none (kWX2_subtractFrom cB cI cL cBB cII cSh h_a1 n_a1 h_a2 n_a2 f_a1 out)) 0 0 (va_A (kWX2_subtractFrom cB cI cL cBB cII cSh h_a1 n_a1 h_a2 n_a2 f_a1 f_a2) sz) := by
  refine Met.ofW (cc := prog_4_method_9_code) (maxL := 3) (ret := none) (by decide) rfl ?_
  intro p e s m args below meth c s₁ B hml hv
  obtain ⟨rfl, hsz, hP, hK, hN, hD0⟩ := hv
  have hx := B.exec
  have hb := B.bytes
  have hr := B.returns
  have hts0 := atoms_spec (ws := kwX2_subtractFrom) B.pre
  have hts : ∀ w ∈ kwA, w.before _ s = true := fun w h => hts0 w (List.mem_cons_of_mem _ h)
  have hown : s.vm.findClass kRX2 = some m.cls := findClass_of_methodNamed B.named
  have hlocks := B.notSynchronized
  subst hsz
  have hD := hD0.self (sz := s.heap.size)
  generalize hAe : va_A (kWX2_subtractFrom cB cI cL cBB cII cSh h_a1 n_a1 h_a2 n_a2 f_a1 f_a2) s.heap.size = A at hD ⊢
  have hA : ∀ q : Nat, s.heap.size ≤ q → A q := fun q h => by rw [← hAe]; exact Or.inr h
  have hS : va_S A s.heap s.heap [] := va_S.rf
  have C0 : CallFix p m c prog_4_method_9_code 3 s _ kwA kRX2 := ⟨hx, hb, hml, hown, hts⟩
  have hl := lv_entry ([.ref h_a1, .ref h_a2]) (n := 3) (Nat.le_of_ble_eq_true rfl)
  rw [lg_entry_eq]
  generalize (lg_sl ([.ref h_a1, .ref h_a2]) ++ List.replicate (3 - (lg_sl ([.ref h_a1, .ref h_a2])).length) Slot.unset).toArray = ls at hl ⊢
  have hl : lv_has ls 3 [(0, .ref h_a1), (1, .ref h_a2)] := hl
  unfold kFX2_subtractFrom at h
  refine lv_iconst (v := 0) hx hb kdX2_subtractFrom_0 (by decide) ?_
  refine lv_istore_n (lv' := [(2, .int (0 : Int32)), (0, .ref h_a1), (1, .ref h_a2)]) hx hb kdX2_subtractFrom_1 rfl hl (by decide) rfl (fun ls hl => ?_)
  obtain ⟨r_10, hr_10, h⟩ := kb_o_s h
  refine klX2_subtractFrom_2 C0 hlocks hK hN hA (by decide) (by decide) h_a1 h_a2 n_a1 n_a2 f_a1 100000 (0 : Int32) f_a2 r_10 hr_10 _ _ _ hP hD hS (lv_sub hl [1, 2, 0] rfl) (fun x2p2_8 f_a2p2_9 er_10 H locs ls hP hD hS hl => ?_)
  subst er_10
  obtain rfl := Option.some.inj h
  exact W.vret hx hb hr (fun t ht hW => ⟨⟨rfl, by rw [ht]; exact hP, va_K.moved hW.alike hK, hD⟩, hS.F ht⟩) hS.2.2 kdX2_subtractFrom_33

-- 459.ModuleKem.Shape.numbersSize.lean.txt
abbrev kWX3_numbersSize (cB cI cL cBB cII cSh : ClassId) (h_this : Nat) (this_rank : Int32) (this_keyNoise : Int32) (this_vectorBits : Int32) (this_scalarBits : Int32) : va_W := [(h_this, koX3  this_rank this_keyNoise this_vectorBits this_scalarBits)]
def krX3_numbersSize : Room := { frames := 0, cells := 0, slots := 0, locals := 0 }
set_option maxHeartbeats 4000000 in
set_option maxRecDepth 100000 in
theorem kcX3_numbersSize (l : Launch) (D : va_G) (cB cI cL cBB cII cSh : ClassId) (h_this : Nat) (sz : Nat) (this_rank : Int32) (this_keyNoise : Int32) (this_vectorBits : Int32) (this_scalarBits : Int32) (out : Int32) (h : kFX3_numbersSize this_rank = some out) : Met l kyX3_numbersSize kwX3_numbersSize krX3_numbersSize (kb_P D kCl (kb_T cB cI cL cBB cII cSh) [.ref h_this] (kWX3_numbersSize cB cI cL cBB cII cSh h_this this_rank this_keyNoise this_vectorBits this_scalarBits) sz) (kb_Q D kCl (kb_T cB cI cL cBB cII cSh) (va_A (kWX3_numbersSize cB cI cL cBB cII cSh h_this this_rank this_keyNoise this_vectorBits this_scalarBits) sz) (some (.int out)) (kWX3_numbersSize cB cI cL cBB cII cSh h_this this_rank this_keyNoise this_vectorBits this_scalarBits)) 0 0 (va_A (kWX3_numbersSize cB cI cL cBB cII cSh h_this this_rank this_keyNoise this_vectorBits this_scalarBits) sz) := by
  refine Met.ofW (cc := prog_5_method_2_code) (maxL := 1) (ret := (some .int)) (by decide) rfl ?_
  intro p e s m args below meth c s₁ B hml hv
  obtain ⟨rfl, hsz, hP, hK, hN, hD0⟩ := hv
  have hx := B.exec
  have hb := B.bytes
  have hr := B.returns
  have hts0 := atoms_spec (ws := kwX3_numbersSize) B.pre
  have hts : ∀ w ∈ kwA, w.before _ s = true := fun w h => hts0 w (List.mem_cons_of_mem _ h)
  have hown : s.vm.findClass kRX3 = some m.cls := findClass_of_methodNamed B.named
  have hlocks := B.notSynchronized
  subst hsz
  have hD := hD0.self (sz := s.heap.size)
  generalize hAe : va_A (kWX3_numbersSize cB cI cL cBB cII cSh h_this this_rank this_keyNoise this_vectorBits this_scalarBits) s.heap.size = A at hD ⊢
  have hA : ∀ q : Nat, s.heap.size ≤ q → A q := fun q h => by rw [← hAe]; exact Or.inr h
  have hS : va_S A s.heap s.heap [] := va_S.rf
  have C0 : CallFix p m c prog_5_method_2_code 1 s _ kwA kRX3 := ⟨hx, hb, hml, hown, hts⟩
  have hl := lv_entry ([.ref h_this]) (n := 1) (Nat.le_of_ble_eq_true rfl)
  rw [lg_entry_eq]
  generalize (lg_sl ([.ref h_this]) ++ List.replicate (1 - (lg_sl ([.ref h_this])).length) Slot.unset).toArray = ls at hl ⊢
  have hl : lv_has ls 1 [(0, .ref h_this)] := hl
  unfold kFX3_numbersSize at h
  refine lv_sipush (v := 384) hx hb kdX3_numbersSize_0 (by decide) ?_
  refine lv_aload_n hx hb kdX3_numbersSize_3 rfl (lv_at hl 0 rfl) ?_
  refine va_get (ci := 3) (v := .int this_rank) (C := kRX3) (T := kTX3) (N := 4) hx hb hts kinX3 hown hK hP 0 rfl rfl 0 (by decide) (hts _ km_35) (fun _ h9 => h9) rfl kdX3_numbersSize_4 ?_
  refine lv_imul hx hb kdX3_numbersSize_7 ?_
  obtain rfl := Option.some.inj h
  exact W.iret (v := ((384 : Int32) * this_rank)) hx hb hr (fun t ht hW => ⟨⟨rfl, by rw [ht]; exact hP, va_K.moved hW.alike hK, hD⟩, hS.F ht⟩) hS.2.2 kdX3_numbersSize_8

-- 460.ModuleKem.Shape.publicSize.lean.txt
abbrev kWX3_publicSize (cB cI cL cBB cII cSh : ClassId) (h_this : Nat) (this_rank : Int32) (this_keyNoise : Int32) (this_vectorBits : Int32) (this_scalarBits : Int32) : va_W := [(h_this, koX3  this_rank this_keyNoise this_vectorBits this_scalarBits)]
def krX3_publicSize : Room := { frames := 1, cells := 0, slots := 0, locals := 20 }
set_option maxHeartbeats 4000000 in
set_option maxRecDepth 100000 in
theorem kcX3_publicSize (l : Launch) (D : va_G) (cB cI cL cBB cII cSh : ClassId) (h_this : Nat) (sz : Nat) (this_rank : Int32) (this_keyNoise : Int32) (this_vectorBits : Int32) (this_scalarBits : Int32) (out : Int32) (h : kFX3_publicSize this_rank = some out) : Met l kyX3_publicSize kwX3_publicSize krX3_publicSize (kb_P D kCl (kb_T cB cI cL cBB cII cSh) [.ref h_this] (kWX3_publicSize cB cI cL cBB cII cSh h_this this_rank this_keyNoise this_vectorBits this_scalarBits) sz) (kb_Q D kCl (kb_T cB cI cL cBB cII cSh) (va_A (kWX3_publicSize cB cI cL cBB cII cSh h_this this_rank this_keyNoise this_vectorBits this_scalarBits) sz) (some (.int out)) (kWX3_publicSize cB cI cL cBB cII cSh h_this this_rank this_keyNoise this_vectorBits this_scalarBits)) 0 0 (va_A (kWX3_publicSize cB cI cL cBB cII cSh h_this this_rank this_keyNoise this_vectorBits this_scalarBits) sz) := by
  refine Met.ofW (cc := prog_5_method_3_code) (maxL := 1) (ret := (some .int)) (by decide) rfl ?_
  intro p e s m args below meth c s₁ B hml hv
  obtain ⟨rfl, hsz, hP, hK, hN, hD0⟩ := hv
  have hx := B.exec
  have hb := B.bytes
  have hr := B.returns
  have hts0 := atoms_spec (ws := kwX3_publicSize) B.pre
  have hts : ∀ w ∈ kwA, w.before _ s = true := fun w h => hts0 w (List.mem_cons_of_mem _ h)
  have hown : s.vm.findClass kRX3 = some m.cls := findClass_of_methodNamed B.named
  have hlocks := B.notSynchronized
  subst hsz
  have hD := hD0.self (sz := s.heap.size)
  generalize hAe : va_A (kWX3_publicSize cB cI cL cBB cII cSh h_this this_rank this_keyNoise this_vectorBits this_scalarBits) s.heap.size = A at hD ⊢
  have hA : ∀ q : Nat, s.heap.size ≤ q → A q := fun q h => by rw [← hAe]; exact Or.inr h
  have hS : va_S A s.heap s.heap [] := va_S.rf
  have C0 : CallFix p m c prog_5_method_3_code 1 s _ kwA kRX3 := ⟨hx, hb, hml, hown, hts⟩
  have hl := lv_entry ([.ref h_this]) (n := 1) (Nat.le_of_ble_eq_true rfl)
  rw [lg_entry_eq]
  generalize (lg_sl ([.ref h_this]) ++ List.replicate (1 - (lg_sl ([.ref h_this])).length) Slot.unset).toArray = ls at hl ⊢
  have hl : lv_has ls 1 [(0, .ref h_this)] := hl
  unfold kFX3_publicSize at h
  refine lv_aload_n hx hb kdX3_publicSize_0 rfl (lv_at hl 0 rfl) ?_
  obtain ⟨u_2, hu_2, h⟩ := kb_o_s h
  obtain ⟨r_1, rfl⟩ : ∃ z, z = u_2 := ⟨_, rfl⟩
  have hC := (show ([0] : List Nat).map (fun i : Nat => (kWX3_publicSize cB cI cL cBB cII cSh h_this this_rank this_keyNoise this_vectorBits this_scalarBits)[i]?) = List.map some (kWX3_numbersSize cB cI cL cBB cII cSh h_this this_rank this_keyNoise this_vectorBits this_scalarBits) from rfl)
  have hPc := kb_Psub hP ([0] : List Nat) hC
  have hDc := kb_Dsub hD ([0] : List Nat) hC (by simp [kb_nd])
  refine kb_call0 (va_runV (As := []) (rest := []) C0 (kcX3_numbersSize l D cB cI cL cBB cII cSh h_this _ this_rank this_keyNoise this_vectorBits this_scalarBits r_1 hu_2) (cwV 0 hts (kb_gV km_473 km_465 km_466 km_2 km_467) rfl rfl rfl (by decide +kernel) ⟨Nat.le_of_ble_eq_true rfl, Nat.le_of_ble_eq_true rfl⟩) ⟨kb_P_bl, va_recv hK hP (ci := 3) (q0 := 0) rfl rfl, (fun U hU hW => ⟨rfl, by rw [hU], by rw [hU]; exact hPc, va_K.moved hW.alike hK, kb_N_to hW hN, hDc.weaken (fun _ _ _ _ => trivial)⟩)⟩ rfl rfl hl.1 rfl (lv_room (Nat.le_of_ble_eq_true rfl)) kdX3_publicSize_1 ⟨Nat.le_of_ble_eq_true rfl, Nat.le_of_ble_eq_true rfl⟩) hP hD hS hA ([0] : List Nat) hC rfl (fun H locs hP hD hS => ?_)
  have hP : va_P D kCl (kWX3_publicSize cB cI cL cBB cII cSh h_this this_rank this_keyNoise this_vectorBits this_scalarBits) H := hP
  have hD : va_D A (kWX3_publicSize cB cI cL cBB cII cSh h_this this_rank this_keyNoise this_vectorBits this_scalarBits) := hD
  refine lv_bipush (v := 32) hx hb kdX3_publicSize_4 (by decide) ?_
  refine lv_iadd hx hb kdX3_publicSize_6 ?_
  obtain rfl := Option.some.inj h
  exact W.iret (v := (r_1 + (32 : Int32))) hx hb hr (fun t ht hW => ⟨⟨rfl, by rw [ht]; exact hP, va_K.moved hW.alike hK, hD⟩, hS.F ht⟩) hS.2.2 kdX3_publicSize_7

-- 461.ModuleKem.Shape.hashPlace.lean.txt
abbrev kWX3_hashPlace (cB cI cL cBB cII cSh : ClassId) (h_this : Nat) (this_rank : Int32) (this_keyNoise : Int32) (this_vectorBits : Int32) (this_scalarBits : Int32) : va_W := [(h_this, koX3  this_rank this_keyNoise this_vectorBits this_scalarBits)]
def krX3_hashPlace : Room := { frames := 2, cells := 0, slots := 0, locals := 40 }
set_option maxHeartbeats 4000000 in
set_option maxRecDepth 100000 in
theorem kcX3_hashPlace (l : Launch) (D : va_G) (cB cI cL cBB cII cSh : ClassId) (h_this : Nat) (sz : Nat) (this_rank : Int32) (this_keyNoise : Int32) (this_vectorBits : Int32) (this_scalarBits : Int32) (out : Int32) (h : kFX3_hashPlace this_rank = some out) : Met l kyX3_hashPlace kwX3_hashPlace krX3_hashPlace (kb_P D kCl (kb_T cB cI cL cBB cII cSh) [.ref h_this] (kWX3_hashPlace cB cI cL cBB cII cSh h_this this_rank this_keyNoise this_vectorBits this_scalarBits) sz) (kb_Q D kCl (kb_T cB cI cL cBB cII cSh) (va_A (kWX3_hashPlace cB cI cL cBB cII cSh h_this this_rank this_keyNoise this_vectorBits this_scalarBits) sz) (some (.int out)) (kWX3_hashPlace cB cI cL cBB cII cSh h_this this_rank this_keyNoise this_vectorBits this_scalarBits)) 0 0 (va_A (kWX3_hashPlace cB cI cL cBB cII cSh h_this this_rank this_keyNoise this_vectorBits this_scalarBits) sz) := by
  refine Met.ofW (cc := prog_5_method_4_code) (maxL := 1) (ret := (some .int)) (by decide) rfl ?_
  intro p e s m args below meth c s₁ B hml hv
  obtain ⟨rfl, hsz, hP, hK, hN, hD0⟩ := hv
  have hx := B.exec
  have hb := B.bytes
  have hr := B.returns
  have hts0 := atoms_spec (ws := kwX3_hashPlace) B.pre
  have hts : ∀ w ∈ kwA, w.before _ s = true := fun w h => hts0 w (List.mem_cons_of_mem _ h)
  have hown : s.vm.findClass kRX3 = some m.cls := findClass_of_methodNamed B.named
  have hlocks := B.notSynchronized
  subst hsz
  have hD := hD0.self (sz := s.heap.size)
  generalize hAe : va_A (kWX3_hashPlace cB cI cL cBB cII cSh h_this this_rank this_keyNoise this_vectorBits this_scalarBits) s.heap.size = A at hD ⊢
  have hA : ∀ q : Nat, s.heap.size ≤ q → A q := fun q h => by rw [← hAe]; exact Or.inr h
  have hS : va_S A s.heap s.heap [] := va_S.rf
  have C0 : CallFix p m c prog_5_method_4_code 1 s _ kwA kRX3 := ⟨hx, hb, hml, hown, hts⟩
  have hl := lv_entry ([.ref h_this]) (n := 1) (Nat.le_of_ble_eq_true rfl)
  rw [lg_entry_eq]
  generalize (lg_sl ([.ref h_this]) ++ List.replicate (1 - (lg_sl ([.ref h_this])).length) Slot.unset).toArray = ls at hl ⊢
  have hl : lv_has ls 1 [(0, .ref h_this)] := hl
  unfold kFX3_hashPlace at h
  refine lv_aload_n hx hb kdX3_hashPlace_0 rfl (lv_at hl 0 rfl) ?_
  obtain ⟨u_2, hu_2, h⟩ := kb_o_s h
  obtain ⟨r_1, rfl⟩ : ∃ z, z = u_2 := ⟨_, rfl⟩
  have hC := (show ([0] : List Nat).map (fun i : Nat => (kWX3_hashPlace cB cI cL cBB cII cSh h_this this_rank this_keyNoise this_vectorBits this_scalarBits)[i]?) = List.map some (kWX3_numbersSize cB cI cL cBB cII cSh h_this this_rank this_keyNoise this_vectorBits this_scalarBits) from rfl)
  have hPc := kb_Psub hP ([0] : List Nat) hC
  have hDc := kb_Dsub hD ([0] : List Nat) hC (by simp [kb_nd])
  refine kb_call0 (va_runV (As := []) (rest := []) C0 (kcX3_numbersSize l D cB cI cL cBB cII cSh h_this _ this_rank this_keyNoise this_vectorBits this_scalarBits r_1 hu_2) (cwV 0 hts (kb_gV km_473 km_465 km_466 km_2 km_467) rfl rfl rfl (by decide +kernel) ⟨Nat.le_of_ble_eq_true rfl, Nat.le_of_ble_eq_true rfl⟩) ⟨kb_P_bl, va_recv hK hP (ci := 3) (q0 := 0) rfl rfl, (fun U hU hW => ⟨rfl, by rw [hU], by rw [hU]; exact hPc, va_K.moved hW.alike hK, kb_N_to hW hN, hDc.weaken (fun _ _ _ _ => trivial)⟩)⟩ rfl rfl hl.1 rfl (lv_room (Nat.le_of_ble_eq_true rfl)) kdX3_hashPlace_1 ⟨Nat.le_of_ble_eq_true rfl, Nat.le_of_ble_eq_true rfl⟩) hP hD hS hA ([0] : List Nat) hC rfl (fun H locs hP hD hS => ?_)
  have hP : va_P D kCl (kWX3_hashPlace cB cI cL cBB cII cSh h_this this_rank this_keyNoise this_vectorBits this_scalarBits) H := hP
  have hD : va_D A (kWX3_hashPlace cB cI cL cBB cII cSh h_this this_rank this_keyNoise this_vectorBits this_scalarBits) := hD
  refine lv_aload_n hx hb kdX3_hashPlace_4 rfl (lv_at hl 0 rfl) ?_
  obtain ⟨u_4, hu_4, h⟩ := kb_o_s h
  obtain ⟨r_3, rfl⟩ : ∃ z, z = u_4 := ⟨_, rfl⟩
  have hC := (show ([0] : List Nat).map (fun i : Nat => (kWX3_hashPlace cB cI cL cBB cII cSh h_this this_rank this_keyNoise this_vectorBits this_scalarBits)[i]?) = List.map some (kWX3_publicSize cB cI cL cBB cII cSh h_this this_rank this_keyNoise this_vectorBits this_scalarBits) from rfl)
  have hPc := kb_Psub hP ([0] : List Nat) hC
  have hDc := kb_Dsub hD ([0] : List Nat) hC (by simp [kb_nd])
  refine kb_call0 (va_runV (As := []) (rest := [.int r_1]) C0 (kcX3_publicSize l D cB cI cL cBB cII cSh h_this _ this_rank this_keyNoise this_vectorBits this_scalarBits r_3 hu_4) (cwV 0 hts (kb_gV km_482 km_470 km_471 km_2 km_472) rfl rfl rfl (by decide +kernel) ⟨Nat.le_of_ble_eq_true rfl, Nat.le_of_ble_eq_true rfl⟩) ⟨kb_P_bl, va_recv hK hP (ci := 3) (q0 := 0) rfl rfl, (fun U hU hW => ⟨rfl, by rw [hU], by rw [hU]; exact hPc, va_K.moved hW.alike hK, kb_N_to hW hN, hDc.weaken (fun _ _ _ _ => trivial)⟩)⟩ rfl rfl hl.1 rfl (lv_room (Nat.le_of_ble_eq_true rfl)) kdX3_hashPlace_5 ⟨Nat.le_of_ble_eq_true rfl, Nat.le_of_ble_eq_true rfl⟩) hP hD hS hA ([0] : List Nat) hC rfl (fun H locs hP hD hS => ?_)
  have hP : va_P D kCl (kWX3_hashPlace cB cI cL cBB cII cSh h_this this_rank this_keyNoise this_vectorBits this_scalarBits) H := hP
  have hD : va_D A (kWX3_hashPlace cB cI cL cBB cII cSh h_this this_rank this_keyNoise this_vectorBits this_scalarBits) := hD
  refine lv_iadd hx hb kdX3_hashPlace_8 ?_
  obtain rfl := Option.some.inj h
  exact W.iret (v := (r_1 + r_3)) hx hb hr (fun t ht hW => ⟨⟨rfl, by rw [ht]; exact hP, va_K.moved hW.alike hK, hD⟩, hS.F ht⟩) hS.2.2 kdX3_hashPlace_9

-- 462.ModuleKem.Shape.secretSize.lean.txt
abbrev kWX3_secretSize (cB cI cL cBB cII cSh : ClassId) (h_this : Nat) (this_rank : Int32) (this_keyNoise : Int32) (this_vectorBits : Int32) (this_scalarBits : Int32) : va_W := [(h_this, koX3  this_rank this_keyNoise this_vectorBits this_scalarBits)]
def krX3_secretSize : Room := { frames := 3, cells := 0, slots := 0, locals := 60 }
set_option maxHeartbeats 4000000 in
set_option maxRecDepth 100000 in
theorem kcX3_secretSize (l : Launch) (D : va_G) (cB cI cL cBB cII cSh : ClassId) (h_this : Nat) (sz : Nat) (this_rank : Int32) (this_keyNoise : Int32) (this_vectorBits : Int32) (this_scalarBits : Int32) (out : Int32) (h : kFX3_secretSize this_rank = some out) : Met l kyX3_secretSize kwX3_secretSize krX3_secretSize (kb_P D kCl (kb_T cB cI cL cBB cII cSh) [.ref h_this] (kWX3_secretSize cB cI cL cBB cII cSh h_this this_rank this_keyNoise this_vectorBits this_scalarBits) sz) (kb_Q D kCl (kb_T cB cI cL cBB cII cSh) (va_A (kWX3_secretSize cB cI cL cBB cII cSh h_this this_rank this_keyNoise this_vectorBits this_scalarBits) sz) (some (.int out)) (kWX3_secretSize cB cI cL cBB cII cSh h_this this_rank this_keyNoise this_vectorBits this_scalarBits)) 0 0 (va_A (kWX3_secretSize cB cI cL cBB cII cSh h_this this_rank this_keyNoise this_vectorBits this_scalarBits) sz) := by
  refine Met.ofW (cc := prog_5_method_5_code) (maxL := 1) (ret := (some .int)) (by decide) rfl ?_
  intro p e s m args below meth c s₁ B hml hv
  obtain ⟨rfl, hsz, hP, hK, hN, hD0⟩ := hv
  have hx := B.exec
  have hb := B.bytes
  have hr := B.returns
  have hts0 := atoms_spec (ws := kwX3_secretSize) B.pre
  have hts : ∀ w ∈ kwA, w.before _ s = true := fun w h => hts0 w (List.mem_cons_of_mem _ h)
  have hown : s.vm.findClass kRX3 = some m.cls := findClass_of_methodNamed B.named
  have hlocks := B.notSynchronized
  subst hsz
  have hD := hD0.self (sz := s.heap.size)
  generalize hAe : va_A (kWX3_secretSize cB cI cL cBB cII cSh h_this this_rank this_keyNoise this_vectorBits this_scalarBits) s.heap.size = A at hD ⊢
  have hA : ∀ q : Nat, s.heap.size ≤ q → A q := fun q h => by rw [← hAe]; exact Or.inr h
  have hS : va_S A s.heap s.heap [] := va_S.rf
  have C0 : CallFix p m c prog_5_method_5_code 1 s _ kwA kRX3 := ⟨hx, hb, hml, hown, hts⟩
  have hl := lv_entry ([.ref h_this]) (n := 1) (Nat.le_of_ble_eq_true rfl)
  rw [lg_entry_eq]
  generalize (lg_sl ([.ref h_this]) ++ List.replicate (1 - (lg_sl ([.ref h_this])).length) Slot.unset).toArray = ls at hl ⊢
  have hl : lv_has ls 1 [(0, .ref h_this)] := hl
  unfold kFX3_secretSize at h
  refine lv_aload_n hx hb kdX3_secretSize_0 rfl (lv_at hl 0 rfl) ?_
  obtain ⟨u_2, hu_2, h⟩ := kb_o_s h
  obtain ⟨r_1, rfl⟩ : ∃ z, z = u_2 := ⟨_, rfl⟩
  have hC := (show ([0] : List Nat).map (fun i : Nat => (kWX3_secretSize cB cI cL cBB cII cSh h_this this_rank this_keyNoise this_vectorBits this_scalarBits)[i]?) = List.map some (kWX3_hashPlace cB cI cL cBB cII cSh h_this this_rank this_keyNoise this_vectorBits this_scalarBits) from rfl)
  have hPc := kb_Psub hP ([0] : List Nat) hC
  have hDc := kb_Dsub hD ([0] : List Nat) hC (by simp [kb_nd])
  refine kb_call0 (va_runV (As := []) (rest := []) C0 (kcX3_hashPlace l D cB cI cL cBB cII cSh h_this _ this_rank this_keyNoise this_vectorBits this_scalarBits r_1 hu_2) (cwV 0 hts (kb_gV km_488 km_479 km_480 km_2 km_481) rfl rfl rfl (by decide +kernel) ⟨Nat.le_of_ble_eq_true rfl, Nat.le_of_ble_eq_true rfl⟩) ⟨kb_P_bl, va_recv hK hP (ci := 3) (q0 := 0) rfl rfl, (fun U hU hW => ⟨rfl, by rw [hU], by rw [hU]; exact hPc, va_K.moved hW.alike hK, kb_N_to hW hN, hDc.weaken (fun _ _ _ _ => trivial)⟩)⟩ rfl rfl hl.1 rfl (lv_room (Nat.le_of_ble_eq_true rfl)) kdX3_secretSize_1 ⟨Nat.le_of_ble_eq_true rfl, Nat.le_of_ble_eq_true rfl⟩) hP hD hS hA ([0] : List Nat) hC rfl (fun H locs hP hD hS => ?_)
  have hP : va_P D kCl (kWX3_secretSize cB cI cL cBB cII cSh h_this this_rank this_keyNoise this_vectorBits this_scalarBits) H := hP
  have hD : va_D A (kWX3_secretSize cB cI cL cBB cII cSh h_this this_rank this_keyNoise this_vectorBits this_scalarBits) := hD
  refine lv_bipush (v := 64) hx hb kdX3_secretSize_4 (by decide) ?_
  refine lv_iadd hx hb kdX3_secretSize_6 ?_
  obtain rfl := Option.some.inj h
  exact W.iret (v := (r_1 + (64 : Int32))) hx hb hr (fun t ht hW => ⟨⟨rfl, by rw [ht]; exact hP, va_K.moved hW.alike hK, hD⟩, hS.F ht⟩) hS.2.2 kdX3_secretSize_7

-- 463.ModuleKem.Shape.vectorPartSize.lean.txt
abbrev kWX3_vectorPartSize (cB cI cL cBB cII cSh : ClassId) (h_this : Nat) (this_rank : Int32) (this_keyNoise : Int32) (this_vectorBits : Int32) (this_scalarBits : Int32) : va_W := [(h_this, koX3  this_rank this_keyNoise this_vectorBits this_scalarBits)]
def krX3_vectorPartSize : Room := { frames := 0, cells := 0, slots := 0, locals := 0 }
set_option maxHeartbeats 4000000 in
set_option maxRecDepth 100000 in
theorem kcX3_vectorPartSize (l : Launch) (D : va_G) (cB cI cL cBB cII cSh : ClassId) (h_this : Nat) (sz : Nat) (this_rank : Int32) (this_keyNoise : Int32) (this_vectorBits : Int32) (this_scalarBits : Int32) (out : Int32) (h : kFX3_vectorPartSize this_vectorBits = some out) : Met l kyX3_vectorPartSize kwX3_vectorPartSize krX3_vectorPartSize (kb_P D kCl (kb_T cB cI cL cBB cII cSh) [.ref h_this] (kWX3_vectorPartSize cB cI cL cBB cII cSh h_this this_rank this_keyNoise this_vectorBits this_scalarBits) sz) (kb_Q D kCl (kb_T cB cI cL cBB cII cSh) (va_A (kWX3_vectorPartSize cB cI cL cBB cII cSh h_this this_rank this_keyNoise this_vectorBits this_scalarBits) sz) (some (.int out)) (kWX3_vectorPartSize cB cI cL cBB cII cSh h_this this_rank this_keyNoise this_vectorBits this_scalarBits)) 0 0 (va_A (kWX3_vectorPartSize cB cI cL cBB cII cSh h_this this_rank this_keyNoise this_vectorBits this_scalarBits) sz) := by
  refine Met.ofW (cc := prog_5_method_6_code) (maxL := 1) (ret := (some .int)) (by decide) rfl ?_
  intro p e s m args below meth c s₁ B hml hv
  obtain ⟨rfl, hsz, hP, hK, hN, hD0⟩ := hv
  have hx := B.exec
  have hb := B.bytes
  have hr := B.returns
  have hts0 := atoms_spec (ws := kwX3_vectorPartSize) B.pre
  have hts : ∀ w ∈ kwA, w.before _ s = true := fun w h => hts0 w (List.mem_cons_of_mem _ h)
  have hown : s.vm.findClass kRX3 = some m.cls := findClass_of_methodNamed B.named
  have hlocks := B.notSynchronized
  subst hsz
  have hD := hD0.self (sz := s.heap.size)
  generalize hAe : va_A (kWX3_vectorPartSize cB cI cL cBB cII cSh h_this this_rank this_keyNoise this_vectorBits this_scalarBits) s.heap.size = A at hD ⊢
  have hA : ∀ q : Nat, s.heap.size ≤ q → A q := fun q h => by rw [← hAe]; exact Or.inr h
  have hS : va_S A s.heap s.heap [] := va_S.rf
  have C0 : CallFix p m c prog_5_method_6_code 1 s _ kwA kRX3 := ⟨hx, hb, hml, hown, hts⟩
  have hl := lv_entry ([.ref h_this]) (n := 1) (Nat.le_of_ble_eq_true rfl)
  rw [lg_entry_eq]
  generalize (lg_sl ([.ref h_this]) ++ List.replicate (1 - (lg_sl ([.ref h_this])).length) Slot.unset).toArray = ls at hl ⊢
  have hl : lv_has ls 1 [(0, .ref h_this)] := hl
  unfold kFX3_vectorPartSize at h
  refine lv_bipush (v := 32) hx hb kdX3_vectorPartSize_0 (by decide) ?_
  refine lv_aload_n hx hb kdX3_vectorPartSize_2 rfl (lv_at hl 0 rfl) ?_
  refine va_get (ci := 3) (v := .int this_vectorBits) (C := kRX3) (T := kTX3) (N := 4) hx hb hts kinX3 hown hK hP 0 rfl rfl 2 (by decide) (hts _ km_39) (fun _ h9 => h9) rfl kdX3_vectorPartSize_3 ?_
  refine lv_imul hx hb kdX3_vectorPartSize_6 ?_
  obtain rfl := Option.some.inj h
  exact W.iret (v := ((32 : Int32) * this_vectorBits)) hx hb hr (fun t ht hW => ⟨⟨rfl, by rw [ht]; exact hP, va_K.moved hW.alike hK, hD⟩, hS.F ht⟩) hS.2.2 kdX3_vectorPartSize_7

-- 464.ModuleKem.Shape.scalarPlace.lean.txt
abbrev kWX3_scalarPlace (cB cI cL cBB cII cSh : ClassId) (h_this : Nat) (this_rank : Int32) (this_keyNoise : Int32) (this_vectorBits : Int32) (this_scalarBits : Int32) : va_W := [(h_this, koX3  this_rank this_keyNoise this_vectorBits this_scalarBits)]
def krX3_scalarPlace : Room := { frames := 1, cells := 0, slots := 0, locals := 20 }
set_option maxHeartbeats 4000000 in
set_option maxRecDepth 100000 in
theorem kcX3_scalarPlace (l : Launch) (D : va_G) (cB cI cL cBB cII cSh : ClassId) (h_this : Nat) (sz : Nat) (this_rank : Int32) (this_keyNoise : Int32) (this_vectorBits : Int32) (this_scalarBits : Int32) (out : Int32) (h : kFX3_scalarPlace this_rank this_vectorBits = some out) : Met l kyX3_scalarPlace kwX3_scalarPlace krX3_scalarPlace (kb_P D kCl (kb_T cB cI cL cBB cII cSh) [.ref h_this] (kWX3_scalarPlace cB cI cL cBB cII cSh h_this this_rank this_keyNoise this_vectorBits this_scalarBits) sz) (kb_Q D kCl (kb_T cB cI cL cBB cII cSh) (va_A (kWX3_scalarPlace cB cI cL cBB cII cSh h_this this_rank this_keyNoise this_vectorBits this_scalarBits) sz) (some (.int out)) (kWX3_scalarPlace cB cI cL cBB cII cSh h_this this_rank this_keyNoise this_vectorBits this_scalarBits)) 0 0 (va_A (kWX3_scalarPlace cB cI cL cBB cII cSh h_this this_rank this_keyNoise this_vectorBits this_scalarBits) sz) := by
  refine Met.ofW (cc := prog_5_method_7_code) (maxL := 1) (ret := (some .int)) (by decide) rfl ?_
  intro p e s m args below meth c s₁ B hml hv
  obtain ⟨rfl, hsz, hP, hK, hN, hD0⟩ := hv
  have hx := B.exec
  have hb := B.bytes
  have hr := B.returns
  have hts0 := atoms_spec (ws := kwX3_scalarPlace) B.pre
  have hts : ∀ w ∈ kwA, w.before _ s = true := fun w h => hts0 w (List.mem_cons_of_mem _ h)
  have hown : s.vm.findClass kRX3 = some m.cls := findClass_of_methodNamed B.named
  have hlocks := B.notSynchronized
  subst hsz
  have hD := hD0.self (sz := s.heap.size)
  generalize hAe : va_A (kWX3_scalarPlace cB cI cL cBB cII cSh h_this this_rank this_keyNoise this_vectorBits this_scalarBits) s.heap.size = A at hD ⊢
  have hA : ∀ q : Nat, s.heap.size ≤ q → A q := fun q h => by rw [← hAe]; exact Or.inr h
  have hS : va_S A s.heap s.heap [] := va_S.rf
  have C0 : CallFix p m c prog_5_method_7_code 1 s _ kwA kRX3 := ⟨hx, hb, hml, hown, hts⟩
  have hl := lv_entry ([.ref h_this]) (n := 1) (Nat.le_of_ble_eq_true rfl)
  rw [lg_entry_eq]
  generalize (lg_sl ([.ref h_this]) ++ List.replicate (1 - (lg_sl ([.ref h_this])).length) Slot.unset).toArray = ls at hl ⊢
  have hl : lv_has ls 1 [(0, .ref h_this)] := hl
  unfold kFX3_scalarPlace at h
  refine lv_aload_n hx hb kdX3_scalarPlace_0 rfl (lv_at hl 0 rfl) ?_
  obtain ⟨u_2, hu_2, h⟩ := kb_o_s h
  obtain ⟨r_1, rfl⟩ : ∃ z, z = u_2 := ⟨_, rfl⟩
  have hC := (show ([0] : List Nat).map (fun i : Nat => (kWX3_scalarPlace cB cI cL cBB cII cSh h_this this_rank this_keyNoise this_vectorBits this_scalarBits)[i]?) = List.map some (kWX3_vectorPartSize cB cI cL cBB cII cSh h_this this_rank this_keyNoise this_vectorBits this_scalarBits) from rfl)
  have hPc := kb_Psub hP ([0] : List Nat) hC
  have hDc := kb_Dsub hD ([0] : List Nat) hC (by simp [kb_nd])
  refine kb_call0 (va_runV (As := []) (rest := []) C0 (kcX3_vectorPartSize l D cB cI cL cBB cII cSh h_this _ this_rank this_keyNoise this_vectorBits this_scalarBits r_1 hu_2) (cwV 0 hts (kb_gV km_566 km_544 km_545 km_2 km_546) rfl rfl rfl (by decide +kernel) ⟨Nat.le_of_ble_eq_true rfl, Nat.le_of_ble_eq_true rfl⟩) ⟨kb_P_bl, va_recv hK hP (ci := 3) (q0 := 0) rfl rfl, (fun U hU hW => ⟨rfl, by rw [hU], by rw [hU]; exact hPc, va_K.moved hW.alike hK, kb_N_to hW hN, hDc.weaken (fun _ _ _ _ => trivial)⟩)⟩ rfl rfl hl.1 rfl (lv_room (Nat.le_of_ble_eq_true rfl)) kdX3_scalarPlace_1 ⟨Nat.le_of_ble_eq_true rfl, Nat.le_of_ble_eq_true rfl⟩) hP hD hS hA ([0] : List Nat) hC rfl (fun H locs hP hD hS => ?_)
  have hP : va_P D kCl (kWX3_scalarPlace cB cI cL cBB cII cSh h_this this_rank this_keyNoise this_vectorBits this_scalarBits) H := hP
  have hD : va_D A (kWX3_scalarPlace cB cI cL cBB cII cSh h_this this_rank this_keyNoise this_vectorBits this_scalarBits) := hD
  refine lv_aload_n hx hb kdX3_scalarPlace_4 rfl (lv_at hl 0 rfl) ?_
  refine va_get (ci := 3) (v := .int this_rank) (C := kRX3) (T := kTX3) (N := 4) hx hb hts kinX3 hown hK hP 0 rfl rfl 0 (by decide) (hts _ km_35) (fun _ h9 => h9) rfl kdX3_scalarPlace_5 ?_
  refine lv_imul hx hb kdX3_scalarPlace_8 ?_
  obtain rfl := Option.some.inj h
  exact W.iret (v := (r_1 * this_rank)) hx hb hr (fun t ht hW => ⟨⟨rfl, by rw [ht]; exact hP, va_K.moved hW.alike hK, hD⟩, hS.F ht⟩) hS.2.2 kdX3_scalarPlace_9

-- 465.ModuleKem.Shape.packetSize.lean.txt
abbrev kWX3_packetSize (cB cI cL cBB cII cSh : ClassId) (h_this : Nat) (this_rank : Int32) (this_keyNoise : Int32) (this_vectorBits : Int32) (this_scalarBits : Int32) : va_W := [(h_this, koX3  this_rank this_keyNoise this_vectorBits this_scalarBits)]
def krX3_packetSize : Room := { frames := 2, cells := 0, slots := 0, locals := 40 }
set_option maxHeartbeats 4000000 in
set_option maxRecDepth 100000 in
theorem kcX3_packetSize (l : Launch) (D : va_G) (cB cI cL cBB cII cSh : ClassId) (h_this : Nat) (sz : Nat) (this_rank : Int32) (this_keyNoise : Int32) (this_vectorBits : Int32) (this_scalarBits : Int32) (out : Int32) (h : kFX3_packetSize this_rank this_vectorBits this_scalarBits = some out) : Met l kyX3_packetSize kwX3_packetSize krX3_packetSize (kb_P D kCl (kb_T cB cI cL cBB cII cSh) [.ref h_this] (kWX3_packetSize cB cI cL cBB cII cSh h_this this_rank this_keyNoise this_vectorBits this_scalarBits) sz) (kb_Q D kCl (kb_T cB cI cL cBB cII cSh) (va_A (kWX3_packetSize cB cI cL cBB cII cSh h_this this_rank this_keyNoise this_vectorBits this_scalarBits) sz) (some (.int out)) (kWX3_packetSize cB cI cL cBB cII cSh h_this this_rank this_keyNoise this_vectorBits this_scalarBits)) 0 0 (va_A (kWX3_packetSize cB cI cL cBB cII cSh h_this this_rank this_keyNoise this_vectorBits this_scalarBits) sz) := by
  refine Met.ofW (cc := prog_5_method_8_code) (maxL := 1) (ret := (some .int)) (by decide) rfl ?_
  intro p e s m args below meth c s₁ B hml hv
  obtain ⟨rfl, hsz, hP, hK, hN, hD0⟩ := hv
  have hx := B.exec
  have hb := B.bytes
  have hr := B.returns
  have hts0 := atoms_spec (ws := kwX3_packetSize) B.pre
  have hts : ∀ w ∈ kwA, w.before _ s = true := fun w h => hts0 w (List.mem_cons_of_mem _ h)
  have hown : s.vm.findClass kRX3 = some m.cls := findClass_of_methodNamed B.named
  have hlocks := B.notSynchronized
  subst hsz
  have hD := hD0.self (sz := s.heap.size)
  generalize hAe : va_A (kWX3_packetSize cB cI cL cBB cII cSh h_this this_rank this_keyNoise this_vectorBits this_scalarBits) s.heap.size = A at hD ⊢
  have hA : ∀ q : Nat, s.heap.size ≤ q → A q := fun q h => by rw [← hAe]; exact Or.inr h
  have hS : va_S A s.heap s.heap [] := va_S.rf
  have C0 : CallFix p m c prog_5_method_8_code 1 s _ kwA kRX3 := ⟨hx, hb, hml, hown, hts⟩
  have hl := lv_entry ([.ref h_this]) (n := 1) (Nat.le_of_ble_eq_true rfl)
  rw [lg_entry_eq]
  generalize (lg_sl ([.ref h_this]) ++ List.replicate (1 - (lg_sl ([.ref h_this])).length) Slot.unset).toArray = ls at hl ⊢
  have hl : lv_has ls 1 [(0, .ref h_this)] := hl
  unfold kFX3_packetSize at h
  refine lv_aload_n hx hb kdX3_packetSize_0 rfl (lv_at hl 0 rfl) ?_
  obtain ⟨u_2, hu_2, h⟩ := kb_o_s h
  obtain ⟨r_1, rfl⟩ : ∃ z, z = u_2 := ⟨_, rfl⟩
  have hC := (show ([0] : List Nat).map (fun i : Nat => (kWX3_packetSize cB cI cL cBB cII cSh h_this this_rank this_keyNoise this_vectorBits this_scalarBits)[i]?) = List.map some (kWX3_scalarPlace cB cI cL cBB cII cSh h_this this_rank this_keyNoise this_vectorBits this_scalarBits) from rfl)
  have hPc := kb_Psub hP ([0] : List Nat) hC
  have hDc := kb_Dsub hD ([0] : List Nat) hC (by simp [kb_nd])
  refine kb_call0 (va_runV (As := []) (rest := []) C0 (kcX3_scalarPlace l D cB cI cL cBB cII cSh h_this _ this_rank this_keyNoise this_vectorBits this_scalarBits r_1 hu_2) (cwV 0 hts (kb_gV km_571 km_563 km_564 km_2 km_565) rfl rfl rfl (by decide +kernel) ⟨Nat.le_of_ble_eq_true rfl, Nat.le_of_ble_eq_true rfl⟩) ⟨kb_P_bl, va_recv hK hP (ci := 3) (q0 := 0) rfl rfl, (fun U hU hW => ⟨rfl, by rw [hU], by rw [hU]; exact hPc, va_K.moved hW.alike hK, kb_N_to hW hN, hDc.weaken (fun _ _ _ _ => trivial)⟩)⟩ rfl rfl hl.1 rfl (lv_room (Nat.le_of_ble_eq_true rfl)) kdX3_packetSize_1 ⟨Nat.le_of_ble_eq_true rfl, Nat.le_of_ble_eq_true rfl⟩) hP hD hS hA ([0] : List Nat) hC rfl (fun H locs hP hD hS => ?_)
  have hP : va_P D kCl (kWX3_packetSize cB cI cL cBB cII cSh h_this this_rank this_keyNoise this_vectorBits this_scalarBits) H := hP
  have hD : va_D A (kWX3_packetSize cB cI cL cBB cII cSh h_this this_rank this_keyNoise this_vectorBits this_scalarBits) := hD
  refine lv_bipush (v := 32) hx hb kdX3_packetSize_4 (by decide) ?_
  refine lv_aload_n hx hb kdX3_packetSize_6 rfl (lv_at hl 0 rfl) ?_
  refine va_get (ci := 3) (v := .int this_scalarBits) (C := kRX3) (T := kTX3) (N := 4) hx hb hts kinX3 hown hK hP 0 rfl rfl 3 (by decide) (hts _ km_41) (fun _ h9 => h9) rfl kdX3_packetSize_7 ?_
  refine lv_imul hx hb kdX3_packetSize_10 ?_
  refine lv_iadd hx hb kdX3_packetSize_11 ?_
  obtain rfl := Option.some.inj h
  exact W.iret (v := (r_1 + ((32 : Int32) * this_scalarBits))) hx hb hr (fun t ht hW => ⟨⟨rfl, by rw [ht]; exact hP, va_K.moved hW.alike hK, hD⟩, hS.F ht⟩) hS.2.2 kdX3_packetSize_12

-- 466.ModuleKem.Sponge.target.lean.txt
abbrev kWX4_target (cB cI cL cBB cII cSh : ClassId)   : va_W := []
def krX4_target : Room := { frames := 0, cells := 0, slots := 0, locals := 0 }
set_option maxHeartbeats 4000000 in
set_option maxRecDepth 100000 in
theorem kcX4_target (l : Launch) (D : va_G) (cB cI cL cBB cII cSh : ClassId)  (sz : Nat) (p1 : Int32) (p2 : Int32) (out : Int32) (h : kFX4_target p1 p2 = some out) : Met l kyX4_target kwX4_target krX4_target (kb_P D kCl (kb_T cB cI cL cBB cII cSh) [.int p1, .int p2] (kWX4_target cB cI cL cBB cII cSh) sz) (kb_Q D kCl (kb_T cB cI cL cBB cII cSh) (va_A (kWX4_target cB cI cL cBB cII cSh) sz) (some (.int out)) (kWX4_target cB cI cL cBB cII cSh)) 0 0 (va_A (kWX4_target cB cI cL cBB cII cSh) sz) := by
  refine Met.ofW (cc := prog_6_method_2_code) (maxL := 2) (ret := (some .int)) (by decide) rfl ?_
  intro p e s m args below meth c s₁ B hml hv
  obtain ⟨rfl, hsz, hP, hK, hN, hD0⟩ := hv
  have hx := B.exec
  have hb := B.bytes
  have hr := B.returns
  have hts0 := atoms_spec (ws := kwX4_target) B.pre
  have hts : ∀ w ∈ kwA, w.before _ s = true := fun w h => hts0 w (List.mem_cons_of_mem _ h)
  have hown : s.vm.findClass kRX4 = some m.cls := findClass_of_methodNamed B.named
  have hlocks := B.notSynchronized
  subst hsz
  have hD := hD0.self (sz := s.heap.size)
  generalize hAe : va_A (kWX4_target cB cI cL cBB cII cSh) s.heap.size = A at hD ⊢
  have hA : ∀ q : Nat, s.heap.size ≤ q → A q := fun q h => by rw [← hAe]; exact Or.inr h
  have hS : va_S A s.heap s.heap [] := va_S.rf
  have C0 : CallFix p m c prog_6_method_2_code 2 s _ kwA kRX4 := ⟨hx, hb, hml, hown, hts⟩
  have hl := lv_entry ([.int p1, .int p2]) (n := 2) (Nat.le_of_ble_eq_true rfl)
  rw [lg_entry_eq]
  generalize (lg_sl ([.int p1, .int p2]) ++ List.replicate (2 - (lg_sl ([.int p1, .int p2])).length) Slot.unset).toArray = ls at hl ⊢
  have hl : lv_has ls 2 [(0, .int p1), (1, .int p2)] := hl
  unfold kFX4_target at h
  refine lv_iload_n hx hb kdX4_target_0 rfl (lv_at hl 1 rfl) ?_
  refine lv_iconst (v := 5) hx hb kdX4_target_1 (by decide) ?_
  refine lv_iconst (v := 2) hx hb kdX4_target_2 (by decide) ?_
  refine lv_iload_n hx hb kdX4_target_3 rfl (lv_at hl 0 rfl) ?_
  refine lv_imul hx hb kdX4_target_4 ?_
  refine lv_iconst (v := 3) hx hb kdX4_target_5 (by decide) ?_
  refine lv_iload_n hx hb kdX4_target_6 rfl (lv_at hl 1 rfl) ?_
  refine lv_imul hx hb kdX4_target_7 ?_
  refine lv_iadd hx hb kdX4_target_8 ?_
  refine lv_iconst (v := 5) hx hb kdX4_target_9 (by decide) ?_
  refine lv_irem hx hb kdX4_target_10 (by decide) ?_
  refine lv_topi (fun q_1 eq_1 => ?_)
  have h := kb_n_s eq_1 h
  refine lv_imul hx hb kdX4_target_11 ?_
  refine lv_iadd hx hb kdX4_target_12 ?_
  obtain rfl := Option.some.inj h
  exact W.iret (v := (p2 + ((5 : Int32) * q_1))) hx hb hr (fun t ht hW => ⟨⟨rfl, by rw [ht]; exact hP, va_K.moved hW.alike hK, hD⟩, hS.F ht⟩) hS.2.2 kdX4_target_13

-- 467.ModuleKem.Sponge.start.lean.txt
abbrev kWX4_start (cB cI cL cBB cII cSh : ClassId) (h_this : Nat) (a_this : Nat → Nat) (this_rate : Int32) (this_place : Int32) (f_this_lanes : Nat → Int64) : va_W := [(h_this, koX4 a_this this_rate this_place), ((a_this 0), .inl (cL, 25, .inr (.inl f_this_lanes)))]
def krX4_start : Room := { frames := 0, cells := 0, slots := 0, locals := 0 }
set_option maxHeartbeats 4000000 in
set_option maxRecDepth 100000 in
theorem klX4_start_2 {p : Program} {l : Launch} {e : Env} {s : State} {m : MethodId} {args : Array Value} {below : List Frame} {meth : Method} {c : Code} {cells slots : Nat} {Q : State → Prop} {D : va_G} {cB cI cL cBB cII cSh : ClassId} {A : Nat → Prop} (C0 : CallFix p m c prog_6_method_6_code 3 s args kwA kRX4) (hlocks : meth.locks = false) (hK : va_K D kCl (kb_T cB cI cL cBB cII cSh) s) (hN : kb_N s) (hA : ∀ q, s.heap.size ≤ q → A q) (hcR : cells ≤ krX4_start.cells) (hsR : slots ≤ krX4_start.slots) (h_this : Nat) (a_this : Nat → Nat) (p1 : Int32) (this_rate : Int32) (this_place : Int32) :
    ∀ (fuel : Nat) (x2p2 : Int32) (f_this_lanesp2 : Nat → Int64) (r : Int32 × (Nat → Int64)), kb_w (fun u : Int32 × (Nat → Int64) => kSX4_start_2 u.1 u.2) fuel (x2p2, f_this_lanesp2) = some r → ∀ (H : Heap) (locs : List Loc) (ls : Array Slot), va_P D kCl (kWX4_start cB cI cL cBB cII cSh h_this a_this this_rate this_place f_this_lanesp2) H → va_D A (kWX4_start cB cI cL cBB cII cSh h_this a_this this_rate this_place f_this_lanesp2) → va_S A s.heap H locs → lv_has ls 3 [(0, .ref h_this), (1, .int p1), (2, .int x2p2)] → (∀ (x2p2' : Int32) (f_this_lanesp2' : Nat → Int64), r = (x2p2', f_this_lanesp2') → ∀ (H : Heap) (locs : List Loc) (ls : Array Slot), va_P D kCl (kWX4_start cB cI cL cBB cII cSh h_this a_this this_rate this_place f_this_lanesp2') H → va_D A (kWX4_start cB cI cL cBB cII cSh h_this a_this this_rate this_place f_this_lanesp2') → va_S A s.heap H locs → lv_has ls 3 [(0, .ref h_this), (1, .int p1), (2, .int x2p2')] → W p l e krX4_start s m args below meth c H locs cells slots Q (F0 m 21 ls [])) → W p l e krX4_start s m args below meth c H locs cells slots Q (F0 m 2 ls []) := by
  obtain ⟨hx, hb, hml, hown, hts⟩ := id C0
  intro fuel
  induction fuel with
  | zero =>
    intro x2p2 f_this_lanesp2 r h
    exact absurd h (kb_w_z _ _ _)
  | succ fuel ih =>
    intro x2p2 f_this_lanesp2 r h H locs ls hP hD hS hl hk0
    obtain ⟨o, h, ho⟩ := kb_w_s h
    have h : kSX4_start_2 x2p2 f_this_lanesp2 = some o := h
    unfold kSX4_start_2 at h
    refine lv_iload_n hx hb kdX4_start_2 rfl (lv_at hl 2 rfl) ?_
    refine lv_bipush (v := 25) hx hb kdX4_start_3 (by decide) ?_
    refine lv_icmp_ge (tgt := 21) hx hb kdX4_start_5 (by decide) (fun c_1 => ?_) (fun c_1 => ?_)
    · have h := kb_b_t c_1 h
      obtain rfl := Option.some.inj h
      exact hk0 x2p2 f_this_lanesp2 ho.symm _ _ _ hP hD hS (lv_sub hl [0, 1, 2] rfl)
    · have h := kb_b_f c_1 h
      refine lv_aload_n hx hb kdX4_start_8 rfl (lv_at hl 0 rfl) ?_
      refine va_get (ci := 4) (v := .ref (a_this 0)) (C := kRX4) (T := kTX4) (N := 8) hx hb hts kinX4 hown hK hP 0 rfl rfl 0 (by decide) (hts _ km_78) (fun _ h9 => h9) rfl kdX4_start_9 ?_
      refine lv_iload_n hx hb kdX4_start_12 rfl (lv_at hl 2 rfl) ?_
      refine lv_lconst (v := 0) hx hb kdX4_start_13 (by decide) ?_
      obtain ⟨g_2, h⟩ := kb_g_s h
      refine va_last hx hb hK hP hD hS 1 2 rfl rfl (kb_in_v g_2) kdX4_start_14 (fun H locs hP hD hS => ?_)
      obtain ⟨f_3, ef_3⟩ : ∃ y, y = vp_updL f_this_lanesp2 x2p2.toNatClampNeg (0 : Int64) := ⟨_, rfl⟩
      have h := kb_n_s ef_3 h
      have hP : va_P D kCl (kWX4_start cB cI cL cBB cII cSh h_this a_this this_rate this_place f_3) H := by rw [ef_3]; exact hP
      have hD : va_D A (kWX4_start cB cI cL cBB cII cSh h_this a_this this_rate this_place f_3) := by rw [ef_3]; exact hD
      obtain ⟨x2_4, ex2_4⟩ : ∃ y : Int32, y = x2p2 + Int32.ofInt 1 := ⟨_, rfl⟩
      have h := kb_n_s ex2_4 h
      refine lv_iinc (v := x2_4) (lv' := [(2, .int x2_4), (0, .ref h_this), (1, .int p1)]) hx hb kdX4_start_15 hl (k := 2) rfl ex2_4.symm (by decide) rfl (fun ls hl => ?_)
      refine lv_goto (tgt := 2) hx hb kdX4_start_18 (by decide) ?_
      obtain rfl := Option.some.inj h
      exact ih x2_4 f_3 r ho _ _ _ hP hD hS (lv_sub hl [1, 2, 0] rfl) hk0
set_option maxHeartbeats 4000000 in
set_option maxRecDepth 100000 in
theorem kcX4_start (l : Launch) (D : va_G) (cB cI cL cBB cII cSh : ClassId) (h_this : Nat) (a_this : Nat → Nat) (sz : Nat) (p1 : Int32) (this_rate : Int32) (this_place : Int32) (f_this_lanes : Nat → Int64) (out : Int32 × Int32 × (Nat → Int64)) (h : kFX4_start p1 f_this_lanes = some out) : Met l kyX4_start kwX4_start krX4_start (kb_P D kCl (kb_T cB cI cL cBB cII cSh) [.ref h_this, .int p1] (kWX4_start cB cI cL cBB cII cSh h_this a_this this_rate this_place f_this_lanes) sz) (kb_Q D kCl (kb_T cB cI cL cBB cII cSh) (va_A (kWX4_start cB cI cL cBB cII cSh h_this a_this this_rate this_place f_this_lanes) sz) none (kWX4_start cB cI cL cBB cII cSh h_this a_this out.2.1 out.1 out.2.2)) 0 0 (va_A (kWX4_start cB cI cL cBB cII cSh h_this a_this this_rate this_place f_this_lanes) sz) := by
  refine Met.ofW (cc := prog_6_method_6_code) (maxL := 3) (ret := none) (by decide) rfl ?_
  intro p e s m args below meth c s₁ B hml hv
  obtain ⟨rfl, hsz, hP, hK, hN, hD0⟩ := hv
  have hx := B.exec
  have hb := B.bytes
  have hr := B.returns
  have hts0 := atoms_spec (ws := kwX4_start) B.pre
  have hts : ∀ w ∈ kwA, w.before _ s = true := fun w h => hts0 w (List.mem_cons_of_mem _ h)
  have hown : s.vm.findClass kRX4 = some m.cls := findClass_of_methodNamed B.named
  have hlocks := B.notSynchronized
  subst hsz
  have hD := hD0.self (sz := s.heap.size)
  generalize hAe : va_A (kWX4_start cB cI cL cBB cII cSh h_this a_this this_rate this_place f_this_lanes) s.heap.size = A at hD ⊢
  have hA : ∀ q : Nat, s.heap.size ≤ q → A q := fun q h => by rw [← hAe]; exact Or.inr h
  have hS : va_S A s.heap s.heap [] := va_S.rf
  have C0 : CallFix p m c prog_6_method_6_code 3 s _ kwA kRX4 := ⟨hx, hb, hml, hown, hts⟩
  have hl := lv_entry ([.ref h_this, .int p1]) (n := 3) (Nat.le_of_ble_eq_true rfl)
  rw [lg_entry_eq]
  generalize (lg_sl ([.ref h_this, .int p1]) ++ List.replicate (3 - (lg_sl ([.ref h_this, .int p1])).length) Slot.unset).toArray = ls at hl ⊢
  have hl : lv_has ls 3 [(0, .ref h_this), (1, .int p1)] := hl
  unfold kFX4_start at h
  refine lv_iconst (v := 0) hx hb kdX4_start_0 (by decide) ?_
  refine lv_istore_n (lv' := [(2, .int (0 : Int32)), (0, .ref h_this), (1, .int p1)]) hx hb kdX4_start_1 rfl hl (by decide) rfl (fun ls hl => ?_)
  obtain ⟨r_7, hr_7, h⟩ := kb_o_s h
  refine klX4_start_2 C0 hlocks hK hN hA (by decide) (by decide) h_this a_this p1 this_rate this_place 100000 (0 : Int32) f_this_lanes r_7 hr_7 _ _ _ hP hD hS (lv_sub hl [1, 2, 0] rfl) (fun x2p2_5 f_this_lanesp2_6 er_7 H locs ls hP hD hS hl => ?_)
  subst er_7
  refine lv_aload_n hx hb kdX4_start_21 rfl (lv_at hl 0 rfl) ?_
  refine lv_iload_n hx hb kdX4_start_22 rfl (lv_at hl 1 rfl) ?_
  refine va_put (ci := 4) (v := .int p1) (C := kRX4) (T := kTX4) (N := 8) hx hb hts kinX4 ktyX4 ktyX4_ok knX4 hown hK hP hD hS 0 rfl rfl 6 (by decide) (hts _ km_84) (fun _ h9 => h9) rfl (ktyX4_ok 6 (by decide)) rfl rfl (Nat.le_of_ble_eq_true rfl) kdX4_start_23 (fun H locs hP hD hS => ?_)
  have hP : va_P D kCl (kWX4_start cB cI cL cBB cII cSh h_this a_this p1 this_place f_this_lanesp2_6) H := hP
  have hD : va_D A (kWX4_start cB cI cL cBB cII cSh h_this a_this p1 this_place f_this_lanesp2_6) := hD
  refine lv_aload_n hx hb kdX4_start_26 rfl (lv_at hl 0 rfl) ?_
  refine lv_iconst (v := 0) hx hb kdX4_start_27 (by decide) ?_
  refine va_put (ci := 4) (v := .int (0 : Int32)) (C := kRX4) (T := kTX4) (N := 8) hx hb hts kinX4 ktyX4 ktyX4_ok knX4 hown hK hP hD hS 0 rfl rfl 7 (by decide) (hts _ km_85) (fun _ h9 => h9) rfl (ktyX4_ok 7 (by decide)) rfl rfl (Nat.le_of_ble_eq_true rfl) kdX4_start_28 (fun H locs hP hD hS => ?_)
  have hP : va_P D kCl (kWX4_start cB cI cL cBB cII cSh h_this a_this p1 (0 : Int32) f_this_lanesp2_6) H := hP
  have hD : va_D A (kWX4_start cB cI cL cBB cII cSh h_this a_this p1 (0 : Int32) f_this_lanesp2_6) := hD
  obtain rfl := Option.some.inj h
  exact W.vret hx hb hr (fun t ht hW => ⟨⟨rfl, by rw [ht]; exact hP, va_K.moved hW.alike hK, hD⟩, hS.F ht⟩) hS.2.2 kdX4_start_31

-- 468.ModuleKem.Sponge.mixIn.lean.txt
abbrev kWX4_mixIn (cB cI cL cBB cII cSh : ClassId) (h_this : Nat) (a_this : Nat → Nat) (this_rate : Int32) (this_place : Int32) (f_this_lanes : Nat → Int64) : va_W := [(h_this, koX4 a_this this_rate this_place), ((a_this 0), .inl (cL, 25, .inr (.inl f_this_lanes)))]
def krX4_mixIn : Room := { frames := 0, cells := 0, slots := 0, locals := 0 }
set_option maxHeartbeats 4000000 in
set_option maxRecDepth 100000 in
theorem kcX4_mixIn (l : Launch) (D : va_G) (cB cI cL cBB cII cSh : ClassId) (h_this : Nat) (a_this : Nat → Nat) (sz : Nat) (p1 : Int32) (p2 : Int32) (this_rate : Int32) (this_place : Int32) (f_this_lanes : Nat → Int64) (out : (Nat → Int64)) (h : kFX4_mixIn p1 p2 f_this_lanes = some out) : Met l kyX4_mixIn kwX4_mixIn krX4_mixIn (kb_P D kCl (kb_T cB cI cL cBB cII cSh) [.ref h_this, .int p1, .int p2] (kWX4_mixIn cB cI cL cBB cII cSh h_this a_this this_rate this_place f_this_lanes) sz) (kb_Q D kCl (kb_T cB cI cL cBB cII cSh) (va_A (kWX4_mixIn cB cI cL cBB cII cSh h_this a_this this_rate this_place f_this_lanes) sz) none (kWX4_mixIn cB cI cL cBB cII cSh h_this a_this this_rate this_place out)) 0 0 (va_A (kWX4_mixIn cB cI cL cBB cII cSh h_this a_this this_rate this_place f_this_lanes) sz) := by
  refine Met.ofW (cc := prog_6_method_10_code) (maxL := 3) (ret := none) (by decide) rfl ?_
  intro p e s m args below meth c s₁ B hml hv
  obtain ⟨rfl, hsz, hP, hK, hN, hD0⟩ := hv
  have hx := B.exec
  have hb := B.bytes
  have hr := B.returns
  have hts0 := atoms_spec (ws := kwX4_mixIn) B.pre
  have hts : ∀ w ∈ kwA, w.before _ s = true := fun w h => hts0 w (List.mem_cons_of_mem _ h)
  have hown : s.vm.findClass kRX4 = some m.cls := findClass_of_methodNamed B.named
  have hlocks := B.notSynchronized
  subst hsz
  have hD := hD0.self (sz := s.heap.size)
  generalize hAe : va_A (kWX4_mixIn cB cI cL cBB cII cSh h_this a_this this_rate this_place f_this_lanes) s.heap.size = A at hD ⊢
  have hA : ∀ q : Nat, s.heap.size ≤ q → A q := fun q h => by rw [← hAe]; exact Or.inr h
  have hS : va_S A s.heap s.heap [] := va_S.rf
  have C0 : CallFix p m c prog_6_method_10_code 3 s _ kwA kRX4 := ⟨hx, hb, hml, hown, hts⟩
  have hl := lv_entry ([.ref h_this, .int p1, .int p2]) (n := 3) (Nat.le_of_ble_eq_true rfl)
  rw [lg_entry_eq]
  generalize (lg_sl ([.ref h_this, .int p1, .int p2]) ++ List.replicate (3 - (lg_sl ([.ref h_this, .int p1, .int p2])).length) Slot.unset).toArray = ls at hl ⊢
  have hl : lv_has ls 3 [(0, .ref h_this), (1, .int p1), (2, .int p2)] := hl
  unfold kFX4_mixIn at h
  refine lv_aload_n hx hb kdX4_mixIn_0 rfl (lv_at hl 0 rfl) ?_
  refine va_get (ci := 4) (v := .ref (a_this 0)) (C := kRX4) (T := kTX4) (N := 8) hx hb hts kinX4 hown hK hP 0 rfl rfl 0 (by decide) (hts _ km_78) (fun _ h9 => h9) rfl kdX4_mixIn_1 ?_
  refine lv_iload_n hx hb kdX4_mixIn_4 rfl (lv_at hl 1 rfl) ?_
  refine lv_iconst (v := 3) hx hb kdX4_mixIn_5 (by decide) ?_
  refine lv_ishr hx hb kdX4_mixIn_6 ?_
  refine lv_dup2_11 hx hb kdX4_mixIn_7 rfl rfl ?_
  obtain ⟨g_1, h⟩ := kb_g_s h
  refine va_lald hx hb hK hP 1 2 rfl rfl (kb_in_v g_1) kdX4_mixIn_8 ?_
  refine lv_iload_n hx hb kdX4_mixIn_9 rfl (lv_at hl 2 rfl) ?_
  refine lv_i2l (v := (p2.toInt64)) hx hb kdX4_mixIn_10 rfl ?_
  refine lv_ldc2 (v := 255) hx hb hown (hts _ km_395) kdX4_mixIn_11 ?_
  refine lv_land hx hb kdX4_mixIn_14 ?_
  refine lv_bipush (v := 8) hx hb kdX4_mixIn_15 (by decide) ?_
  refine lv_iload_n hx hb kdX4_mixIn_17 rfl (lv_at hl 1 rfl) ?_
  refine lv_bipush (v := 7) hx hb kdX4_mixIn_18 (by decide) ?_
  refine lv_iand hx hb kdX4_mixIn_20 ?_
  refine lv_imul hx hb kdX4_mixIn_21 ?_
  refine lv_lshl (v := (((p2.toInt64) &&& (255 : Int64)) <<< (((8 : Int32) * (p1 &&& (7 : Int32))).toInt64 &&& 63))) hx hb kdX4_mixIn_22 rfl ?_
  refine lv_lxor hx hb kdX4_mixIn_23 ?_
  obtain ⟨g_2, h⟩ := kb_g_s h
  refine va_last hx hb hK hP hD hS 1 2 rfl rfl (kb_in_v g_2) kdX4_mixIn_24 (fun H locs hP hD hS => ?_)
  obtain ⟨f_3, ef_3⟩ : ∃ y, y = vp_updL f_this_lanes (p1 >>> ((3 : Int32) &&& 31)).toNatClampNeg ((f_this_lanes (p1 >>> ((3 : Int32) &&& 31)).toNatClampNeg) ^^^ (((p2.toInt64) &&& (255 : Int64)) <<< (((8 : Int32) * (p1 &&& (7 : Int32))).toInt64 &&& 63))) := ⟨_, rfl⟩
  have h := kb_n_s ef_3 h
  have hP : va_P D kCl (kWX4_mixIn cB cI cL cBB cII cSh h_this a_this this_rate this_place f_3) H := by rw [ef_3]; exact hP
  have hD : va_D A (kWX4_mixIn cB cI cL cBB cII cSh h_this a_this this_rate this_place f_3) := by rw [ef_3]; exact hD
  obtain rfl := Option.some.inj h
  exact W.vret hx hb hr (fun t ht hW => ⟨⟨rfl, by rw [ht]; exact hP, va_K.moved hW.alike hK, hD⟩, hS.F ht⟩) hS.2.2 kdX4_mixIn_25

-- 469.ModuleKem.Sponge.permute.lean.txt
abbrev kWX4_permute (cB cI cL cBB cII cSh : ClassId) (h_this : Nat) (a_this : Nat → Nat) (this_rate : Int32) (this_place : Int32) (f_this_lanes : Nat → Int64) (f_this_moved : Nat → Int64) (f_this_columns : Nat → Int64) (f_this_turns : Nat → Int32) (f_this_targets : Nat → Int32) (f_this_roundConstants : Nat → Int64) : va_W := [(h_this, koX4 a_this this_rate this_place), ((a_this 0), .inl (cL, 25, .inr (.inl f_this_lanes))), ((a_this 1), .inl (cL, 25, .inr (.inl f_this_moved))), ((a_this 2), .inl (cL, 5, .inr (.inl f_this_columns))), ((a_this 3), .inl (cI, 25, .inl f_this_turns)), ((a_this 4), .inl (cI, 25, .inl f_this_targets)), ((a_this 5), .inl (cL, 24, .inr (.inl f_this_roundConstants)))]
def krX4_permute : Room := { frames := 0, cells := 0, slots := 0, locals := 0 }
set_option maxHeartbeats 4000000 in
set_option maxRecDepth 100000 in
theorem klX4_permute_28 {p : Program} {l : Launch} {e : Env} {s : State} {m : MethodId} {args : Array Value} {below : List Frame} {meth : Method} {c : Code} {cells slots : Nat} {Q : State → Prop} {D : va_G} {cB cI cL cBB cII cSh : ClassId} {A : Nat → Prop} (C0 : CallFix p m c prog_6_method_11_code 13 s args kwA kRX4) (hlocks : meth.locks = false) (hK : va_K D kCl (kb_T cB cI cL cBB cII cSh) s) (hN : kb_N s) (hA : ∀ q, s.heap.size ≤ q → A q) (hcR : cells ≤ krX4_permute.cells) (hsR : slots ≤ krX4_permute.slots) (h_this : Nat) (a_this : Nat → Nat) (x4p18 : Int32) (this_rate : Int32) (this_place : Int32) (f_this_lanesp18 : Nat → Int64) (f_this_movedp18 : Nat → Int64) (f_this_turns : Nat → Int32) (f_this_targets : Nat → Int32) (f_this_roundConstants : Nat → Int64) :
    ∀ (fuel : Nat) (x5p28 : Int32) (f_this_columnsp28 : Nat → Int64) (r : Int32 × (Nat → Int64)), kb_w (fun u : Int32 × (Nat → Int64) => kSX4_permute_28 f_this_lanesp18 u.1 u.2) fuel (x5p28, f_this_columnsp28) = some r → ∀ (H : Heap) (locs : List Loc) (ls : Array Slot), va_P D kCl (kWX4_permute cB cI cL cBB cII cSh h_this a_this this_rate this_place f_this_lanesp18 f_this_movedp18 f_this_columnsp28 f_this_turns f_this_targets f_this_roundConstants) H → va_D A (kWX4_permute cB cI cL cBB cII cSh h_this a_this this_rate this_place f_this_lanesp18 f_this_movedp18 f_this_columnsp28 f_this_turns f_this_targets f_this_roundConstants) → va_S A s.heap H locs → lv_has ls 13 [(0, .ref h_this), (1, .ref (a_this 0)), (2, .ref (a_this 1)), (3, .ref (a_this 2)), (4, .int x4p18), (5, .int x5p28)] → (∀ (x5p28' : Int32) (f_this_columnsp28' : Nat → Int64), r = (x5p28', f_this_columnsp28') → ∀ (H : Heap) (locs : List Loc) (ls : Array Slot), va_P D kCl (kWX4_permute cB cI cL cBB cII cSh h_this a_this this_rate this_place f_this_lanesp18 f_this_movedp18 f_this_columnsp28' f_this_turns f_this_targets f_this_roundConstants) H → va_D A (kWX4_permute cB cI cL cBB cII cSh h_this a_this this_rate this_place f_this_lanesp18 f_this_movedp18 f_this_columnsp28' f_this_turns f_this_targets f_this_roundConstants) → va_S A s.heap H locs → lv_has ls 13 [(0, .ref h_this), (1, .ref (a_this 0)), (2, .ref (a_this 1)), (3, .ref (a_this 2)), (4, .int x4p18), (5, .int x5p28')] → W p l e krX4_permute s m args below meth c H locs cells slots Q (F0 m 79 ls [])) → W p l e krX4_permute s m args below meth c H locs cells slots Q (F0 m 28 ls []) := by
  obtain ⟨hx, hb, hml, hown, hts⟩ := id C0
  intro fuel
  induction fuel with
  | zero =>
    intro x5p28 f_this_columnsp28 r h
    exact absurd h (kb_w_z _ _ _)
  | succ fuel ih =>
    intro x5p28 f_this_columnsp28 r h H locs ls hP hD hS hl hk0
    obtain ⟨o, h, ho⟩ := kb_w_s h
    have h : kSX4_permute_28 f_this_lanesp18 x5p28 f_this_columnsp28 = some o := h
    unfold kSX4_permute_28 at h
    refine lv_iload hx hb kdX4_permute_28 (lv_at hl 5 rfl) ?_
    refine lv_iconst (v := 5) hx hb kdX4_permute_30 (by decide) ?_
    refine lv_icmp_ge (tgt := 79) hx hb kdX4_permute_31 (by decide) (fun c_2 => ?_) (fun c_2 => ?_)
    · have h := kb_b_t c_2 h
      obtain rfl := Option.some.inj h
      exact hk0 x5p28 f_this_columnsp28 ho.symm _ _ _ hP hD hS (lv_sub hl [0, 1, 2, 3, 4, 5] rfl)
    · have h := kb_b_f c_2 h
      refine lv_aload_n hx hb kdX4_permute_34 rfl (lv_at hl 3 rfl) ?_
      refine lv_iload hx hb kdX4_permute_35 (lv_at hl 5 rfl) ?_
      refine lv_aload_n hx hb kdX4_permute_37 rfl (lv_at hl 1 rfl) ?_
      refine lv_iload hx hb kdX4_permute_38 (lv_at hl 5 rfl) ?_
      obtain ⟨g_3, h⟩ := kb_g_s h
      refine va_lald hx hb hK hP 1 2 rfl rfl (kb_in_v g_3) kdX4_permute_40 ?_
      refine lv_aload_n hx hb kdX4_permute_41 rfl (lv_at hl 1 rfl) ?_
      refine lv_iload hx hb kdX4_permute_42 (lv_at hl 5 rfl) ?_
      refine lv_iconst (v := 5) hx hb kdX4_permute_44 (by decide) ?_
      refine lv_iadd hx hb kdX4_permute_45 ?_
      obtain ⟨g_4, h⟩ := kb_g_s h
      refine va_lald hx hb hK hP 1 2 rfl rfl (kb_in_v g_4) kdX4_permute_46 ?_
      refine lv_lxor hx hb kdX4_permute_47 ?_
      refine lv_aload_n hx hb kdX4_permute_48 rfl (lv_at hl 1 rfl) ?_
      refine lv_iload hx hb kdX4_permute_49 (lv_at hl 5 rfl) ?_
      refine lv_bipush (v := 10) hx hb kdX4_permute_51 (by decide) ?_
      refine lv_iadd hx hb kdX4_permute_53 ?_
      obtain ⟨g_5, h⟩ := kb_g_s h
      refine va_lald hx hb hK hP 1 2 rfl rfl (kb_in_v g_5) kdX4_permute_54 ?_
      refine lv_lxor hx hb kdX4_permute_55 ?_
      refine lv_aload_n hx hb kdX4_permute_56 rfl (lv_at hl 1 rfl) ?_
      refine lv_iload hx hb kdX4_permute_57 (lv_at hl 5 rfl) ?_
      refine lv_bipush (v := 15) hx hb kdX4_permute_59 (by decide) ?_
      refine lv_iadd hx hb kdX4_permute_61 ?_
      obtain ⟨g_6, h⟩ := kb_g_s h
      refine va_lald hx hb hK hP 1 2 rfl rfl (kb_in_v g_6) kdX4_permute_62 ?_
      refine lv_lxor hx hb kdX4_permute_63 ?_
      refine lv_aload_n hx hb kdX4_permute_64 rfl (lv_at hl 1 rfl) ?_
      refine lv_iload hx hb kdX4_permute_65 (lv_at hl 5 rfl) ?_
      refine lv_bipush (v := 20) hx hb kdX4_permute_67 (by decide) ?_
      refine lv_iadd hx hb kdX4_permute_69 ?_
      obtain ⟨g_7, h⟩ := kb_g_s h
      refine va_lald hx hb hK hP 1 2 rfl rfl (kb_in_v g_7) kdX4_permute_70 ?_
      refine lv_lxor hx hb kdX4_permute_71 ?_
      obtain ⟨g_8, h⟩ := kb_g_s h
      refine va_last hx hb hK hP hD hS 3 2 rfl rfl (kb_in_v g_8) kdX4_permute_72 (fun H locs hP hD hS => ?_)
      obtain ⟨f_9, ef_9⟩ : ∃ y, y = vp_updL f_this_columnsp28 x5p28.toNatClampNeg (((((f_this_lanesp18 x5p28.toNatClampNeg) ^^^ (f_this_lanesp18 (x5p28 + (5 : Int32)).toNatClampNeg)) ^^^ (f_this_lanesp18 (x5p28 + (10 : Int32)).toNatClampNeg)) ^^^ (f_this_lanesp18 (x5p28 + (15 : Int32)).toNatClampNeg)) ^^^ (f_this_lanesp18 (x5p28 + (20 : Int32)).toNatClampNeg)) := ⟨_, rfl⟩
      have h := kb_n_s ef_9 h
      have hP : va_P D kCl (kWX4_permute cB cI cL cBB cII cSh h_this a_this this_rate this_place f_this_lanesp18 f_this_movedp18 f_9 f_this_turns f_this_targets f_this_roundConstants) H := by rw [ef_9]; exact hP
      have hD : va_D A (kWX4_permute cB cI cL cBB cII cSh h_this a_this this_rate this_place f_this_lanesp18 f_this_movedp18 f_9 f_this_turns f_this_targets f_this_roundConstants) := by rw [ef_9]; exact hD
      obtain ⟨x5_10, ex5_10⟩ : ∃ y : Int32, y = x5p28 + Int32.ofInt 1 := ⟨_, rfl⟩
      have h := kb_n_s ex5_10 h
      refine lv_iinc (v := x5_10) (lv' := [(5, .int x5_10), (0, .ref h_this), (1, .ref (a_this 0)), (2, .ref (a_this 1)), (3, .ref (a_this 2)), (4, .int x4p18)]) hx hb kdX4_permute_73 hl (k := 5) rfl ex5_10.symm (by decide) rfl (fun ls hl => ?_)
      refine lv_goto (tgt := 28) hx hb kdX4_permute_76 (by decide) ?_
      obtain rfl := Option.some.inj h
      exact ih x5_10 f_9 r ho _ _ _ hP hD hS (lv_sub hl [1, 2, 3, 4, 5, 0] rfl) hk0
set_option maxHeartbeats 4000000 in
set_option maxRecDepth 100000 in
theorem klX4_permute_123 {p : Program} {l : Launch} {e : Env} {s : State} {m : MethodId} {args : Array Value} {below : List Frame} {meth : Method} {c : Code} {cells slots : Nat} {Q : State → Prop} {D : va_G} {cB cI cL cBB cII cSh : ClassId} {A : Nat → Prop} (C0 : CallFix p m c prog_6_method_11_code 13 s args kwA kRX4) (hlocks : meth.locks = false) (hK : va_K D kCl (kb_T cB cI cL cBB cII cSh) s) (hN : kb_N s) (hA : ∀ q, s.heap.size ≤ q → A q) (hcR : cells ≤ krX4_permute.cells) (hsR : slots ≤ krX4_permute.slots) (h_this : Nat) (a_this : Nat → Nat) (x4p18 : Int32) (x5p82 : Int32) (x8_19 : Int64) (this_rate : Int32) (this_place : Int32) (f_this_lanesp18 : Nat → Int64) (f_this_columnsp28_12 : Nat → Int64) (f_this_turns : Nat → Int32) (f_this_targets : Nat → Int32) (f_this_roundConstants : Nat → Int64) :
    ∀ (fuel : Nat) (x10p123 : Int32) (f_this_movedp123 : Nat → Int64) (r : Int32 × (Nat → Int64)), kb_w (fun u : Int32 × (Nat → Int64) => kSX4_permute_123 x8_19 f_this_lanesp18 f_this_turns f_this_targets u.1 u.2) fuel (x10p123, f_this_movedp123) = some r → ∀ (H : Heap) (locs : List Loc) (ls : Array Slot), va_P D kCl (kWX4_permute cB cI cL cBB cII cSh h_this a_this this_rate this_place f_this_lanesp18 f_this_movedp123 f_this_columnsp28_12 f_this_turns f_this_targets f_this_roundConstants) H → va_D A (kWX4_permute cB cI cL cBB cII cSh h_this a_this this_rate this_place f_this_lanesp18 f_this_movedp123 f_this_columnsp28_12 f_this_turns f_this_targets f_this_roundConstants) → va_S A s.heap H locs → lv_has ls 13 [(0, .ref h_this), (1, .ref (a_this 0)), (2, .ref (a_this 1)), (3, .ref (a_this 2)), (4, .int x4p18), (5, .int x5p82), (8, .long x8_19), (10, .int x10p123)] → (∀ (x10p123' : Int32) (f_this_movedp123' : Nat → Int64), r = (x10p123', f_this_movedp123') → ∀ (H : Heap) (locs : List Loc) (ls : Array Slot), va_P D kCl (kWX4_permute cB cI cL cBB cII cSh h_this a_this this_rate this_place f_this_lanesp18 f_this_movedp123' f_this_columnsp28_12 f_this_turns f_this_targets f_this_roundConstants) H → va_D A (kWX4_permute cB cI cL cBB cII cSh h_this a_this this_rate this_place f_this_lanesp18 f_this_movedp123' f_this_columnsp28_12 f_this_turns f_this_targets f_this_roundConstants) → va_S A s.heap H locs → lv_has ls 13 [(0, .ref h_this), (1, .ref (a_this 0)), (2, .ref (a_this 1)), (3, .ref (a_this 2)), (4, .int x4p18), (5, .int x5p82), (8, .long x8_19), (10, .int x10p123')] → W p l e krX4_permute s m args below meth c H locs cells slots Q (F0 m 178 ls [])) → W p l e krX4_permute s m args below meth c H locs cells slots Q (F0 m 123 ls []) := by
  obtain ⟨hx, hb, hml, hown, hts⟩ := id C0
  intro fuel
  induction fuel with
  | zero =>
    intro x10p123 f_this_movedp123 r h
    exact absurd h (kb_w_z _ _ _)
  | succ fuel ih =>
    intro x10p123 f_this_movedp123 r h H locs ls hP hD hS hl hk0
    obtain ⟨o, h, ho⟩ := kb_w_s h
    have h : kSX4_permute_123 x8_19 f_this_lanesp18 f_this_turns f_this_targets x10p123 f_this_movedp123 = some o := h
    unfold kSX4_permute_123 at h
    refine lv_iload hx hb kdX4_permute_123 (lv_at hl 7 rfl) ?_
    refine lv_bipush (v := 25) hx hb kdX4_permute_125 (by decide) ?_
    refine lv_icmp_ge (tgt := 178) hx hb kdX4_permute_127 (by decide) (fun c_20 => ?_) (fun c_20 => ?_)
    · have h := kb_b_t c_20 h
      obtain rfl := Option.some.inj h
      exact hk0 x10p123 f_this_movedp123 ho.symm _ _ _ hP hD hS (lv_sub hl [0, 1, 2, 3, 4, 5, 6, 7] rfl)
    · have h := kb_b_f c_20 h
      refine lv_aload_n hx hb kdX4_permute_130 rfl (lv_at hl 1 rfl) ?_
      refine lv_iload hx hb kdX4_permute_131 (lv_at hl 7 rfl) ?_
      obtain ⟨g_21, h⟩ := kb_g_s h
      refine va_lald hx hb hK hP 1 2 rfl rfl (kb_in_v g_21) kdX4_permute_133 ?_
      refine lv_lload hx hb kdX4_permute_134 (lv_at hl 6 rfl) ?_
      refine lv_lxor hx hb kdX4_permute_136 ?_
      refine lv_topl (fun x11_22 ex11_22 => ?_)
      have h := kb_n_s ex11_22 h
      refine lv_lstore (lv' := [(11, .long x11_22), (0, .ref h_this), (1, .ref (a_this 0)), (2, .ref (a_this 1)), (3, .ref (a_this 2)), (4, .int x4p18), (5, .int x5p82), (8, .long x8_19), (10, .int x10p123)]) hx hb kdX4_permute_137 hl (by decide) rfl (fun ls hl => ?_)
      refine lv_aload_n hx hb kdX4_permute_139 rfl (lv_at hl 3 rfl) ?_
      refine lv_aload_n hx hb kdX4_permute_140 rfl (lv_at hl 1 rfl) ?_
      refine va_get (ci := 4) (v := .ref (a_this 4)) (C := kRX4) (T := kTX4) (N := 8) hx hb hts kinX4 hown hK hP 0 rfl rfl 4 (by decide) (hts _ km_82) (fun _ h9 => h9) rfl kdX4_permute_141 ?_
      refine lv_iload hx hb kdX4_permute_144 (lv_at hl 8 rfl) ?_
      obtain ⟨g_23, h⟩ := kb_g_s h
      refine va_iald hx hb hK hP 5 1 rfl rfl (kb_in_v g_23) kdX4_permute_146 ?_
      refine lv_lload hx hb kdX4_permute_147 (lv_at hl 0 rfl) ?_
      refine lv_aload_n hx hb kdX4_permute_149 rfl (lv_at hl 1 rfl) ?_
      refine va_get (ci := 4) (v := .ref (a_this 3)) (C := kRX4) (T := kTX4) (N := 8) hx hb hts kinX4 hown hK hP 0 rfl rfl 3 (by decide) (hts _ km_81) (fun _ h9 => h9) rfl kdX4_permute_150 ?_
      refine lv_iload hx hb kdX4_permute_153 (lv_at hl 8 rfl) ?_
      obtain ⟨g_24, h⟩ := kb_g_s h
      refine va_iald hx hb hK hP 4 1 rfl rfl (kb_in_v g_24) kdX4_permute_155 ?_
      refine lv_lshl (v := (x11_22 <<< ((f_this_turns x10p123.toNatClampNeg).toInt64 &&& 63))) hx hb kdX4_permute_156 rfl ?_
      refine lv_lload hx hb kdX4_permute_157 (lv_at hl 0 rfl) ?_
      refine lv_bipush (v := 64) hx hb kdX4_permute_159 (by decide) ?_
      refine lv_aload_n hx hb kdX4_permute_161 rfl (lv_at hl 1 rfl) ?_
      refine va_get (ci := 4) (v := .ref (a_this 3)) (C := kRX4) (T := kTX4) (N := 8) hx hb hts kinX4 hown hK hP 0 rfl rfl 3 (by decide) (hts _ km_81) (fun _ h9 => h9) rfl kdX4_permute_162 ?_
      refine lv_iload hx hb kdX4_permute_165 (lv_at hl 8 rfl) ?_
      obtain ⟨g_25, h⟩ := kb_g_s h
      refine va_iald hx hb hK hP 4 1 rfl rfl (kb_in_v g_25) kdX4_permute_167 ?_
      refine lv_isub hx hb kdX4_permute_168 ?_
      refine lv_lushr (v := ((x11_22.toUInt64 >>> (((64 : Int32) - (f_this_turns x10p123.toNatClampNeg)).toInt64.toUInt64 &&& Int64.toUInt64 63)).toInt64)) hx hb kdX4_permute_169 rfl ?_
      refine lv_lor hx hb kdX4_permute_170 ?_
      obtain ⟨g_26, h⟩ := kb_g_s h
      refine va_last hx hb hK hP hD hS 2 2 rfl rfl (kb_in_v g_26) kdX4_permute_171 (fun H locs hP hD hS => ?_)
      obtain ⟨f_27, ef_27⟩ : ∃ y, y = vp_updL f_this_movedp123 (f_this_targets x10p123.toNatClampNeg).toNatClampNeg ((x11_22 <<< ((f_this_turns x10p123.toNatClampNeg).toInt64 &&& 63)) ||| ((x11_22.toUInt64 >>> (((64 : Int32) - (f_this_turns x10p123.toNatClampNeg)).toInt64.toUInt64 &&& Int64.toUInt64 63)).toInt64)) := ⟨_, rfl⟩
      have h := kb_n_s ef_27 h
      have hP : va_P D kCl (kWX4_permute cB cI cL cBB cII cSh h_this a_this this_rate this_place f_this_lanesp18 f_27 f_this_columnsp28_12 f_this_turns f_this_targets f_this_roundConstants) H := by rw [ef_27]; exact hP
      have hD : va_D A (kWX4_permute cB cI cL cBB cII cSh h_this a_this this_rate this_place f_this_lanesp18 f_27 f_this_columnsp28_12 f_this_turns f_this_targets f_this_roundConstants) := by rw [ef_27]; exact hD
      obtain ⟨x10_28, ex10_28⟩ : ∃ y : Int32, y = x10p123 + Int32.ofInt 5 := ⟨_, rfl⟩
      have h := kb_n_s ex10_28 h
      refine lv_iinc (v := x10_28) (lv' := [(10, .int x10_28), (11, .long x11_22), (0, .ref h_this), (1, .ref (a_this 0)), (2, .ref (a_this 1)), (3, .ref (a_this 2)), (4, .int x4p18), (5, .int x5p82), (8, .long x8_19)]) hx hb kdX4_permute_172 hl (k := 8) rfl ex10_28.symm (by decide) rfl (fun ls hl => ?_)
      refine lv_goto (tgt := 123) hx hb kdX4_permute_175 (by decide) ?_
      obtain rfl := Option.some.inj h
      exact ih x10_28 f_27 r ho _ _ _ hP hD hS (lv_sub hl [2, 3, 4, 5, 6, 7, 8, 0] rfl) hk0
set_option maxHeartbeats 4000000 in
set_option maxRecDepth 100000 in
theorem klX4_permute_82 {p : Program} {l : Launch} {e : Env} {s : State} {m : MethodId} {args : Array Value} {below : List Frame} {meth : Method} {c : Code} {cells slots : Nat} {Q : State → Prop} {D : va_G} {cB cI cL cBB cII cSh : ClassId} {A : Nat → Prop} (C0 : CallFix p m c prog_6_method_11_code 13 s args kwA kRX4) (hlocks : meth.locks = false) (hK : va_K D kCl (kb_T cB cI cL cBB cII cSh) s) (hN : kb_N s) (hA : ∀ q, s.heap.size ≤ q → A q) (hcR : cells ≤ krX4_permute.cells) (hsR : slots ≤ krX4_permute.slots) (h_this : Nat) (a_this : Nat → Nat) (x4p18 : Int32) (this_rate : Int32) (this_place : Int32) (f_this_lanesp18 : Nat → Int64) (f_this_columnsp28_12 : Nat → Int64) (f_this_turns : Nat → Int32) (f_this_targets : Nat → Int32) (f_this_roundConstants : Nat → Int64) :
    ∀ (fuel : Nat) (x5p82 : Int32) (f_this_movedp82 : Nat → Int64) (r : Int32 × (Nat → Int64)), kb_w (fun u : Int32 × (Nat → Int64) => kSX4_permute_82 f_this_lanesp18 f_this_columnsp28_12 f_this_turns f_this_targets u.1 u.2) fuel (x5p82, f_this_movedp82) = some r → ∀ (H : Heap) (locs : List Loc) (ls : Array Slot), va_P D kCl (kWX4_permute cB cI cL cBB cII cSh h_this a_this this_rate this_place f_this_lanesp18 f_this_movedp82 f_this_columnsp28_12 f_this_turns f_this_targets f_this_roundConstants) H → va_D A (kWX4_permute cB cI cL cBB cII cSh h_this a_this this_rate this_place f_this_lanesp18 f_this_movedp82 f_this_columnsp28_12 f_this_turns f_this_targets f_this_roundConstants) → va_S A s.heap H locs → lv_has ls 13 [(0, .ref h_this), (1, .ref (a_this 0)), (2, .ref (a_this 1)), (3, .ref (a_this 2)), (4, .int x4p18), (5, .int x5p82)] → (∀ (x5p82' : Int32) (f_this_movedp82' : Nat → Int64), r = (x5p82', f_this_movedp82') → ∀ (H : Heap) (locs : List Loc) (ls : Array Slot), va_P D kCl (kWX4_permute cB cI cL cBB cII cSh h_this a_this this_rate this_place f_this_lanesp18 f_this_movedp82' f_this_columnsp28_12 f_this_turns f_this_targets f_this_roundConstants) H → va_D A (kWX4_permute cB cI cL cBB cII cSh h_this a_this this_rate this_place f_this_lanesp18 f_this_movedp82' f_this_columnsp28_12 f_this_turns f_this_targets f_this_roundConstants) → va_S A s.heap H locs → lv_has ls 13 [(0, .ref h_this), (1, .ref (a_this 0)), (2, .ref (a_this 1)), (3, .ref (a_this 2)), (4, .int x4p18), (5, .int x5p82')] → W p l e krX4_permute s m args below meth c H locs cells slots Q (F0 m 184 ls [])) → W p l e krX4_permute s m args below meth c H locs cells slots Q (F0 m 82 ls []) := by
  obtain ⟨hx, hb, hml, hown, hts⟩ := id C0
  intro fuel
  induction fuel with
  | zero =>
    intro x5p82 f_this_movedp82 r h
    exact absurd h (kb_w_z _ _ _)
  | succ fuel ih =>
    intro x5p82 f_this_movedp82 r h H locs ls hP hD hS hl hk0
    obtain ⟨o, h, ho⟩ := kb_w_s h
    have h : kSX4_permute_82 f_this_lanesp18 f_this_columnsp28_12 f_this_turns f_this_targets x5p82 f_this_movedp82 = some o := h
    unfold kSX4_permute_82 at h
    refine lv_iload hx hb kdX4_permute_82 (lv_at hl 5 rfl) ?_
    refine lv_iconst (v := 5) hx hb kdX4_permute_84 (by decide) ?_
    refine lv_icmp_ge (tgt := 184) hx hb kdX4_permute_85 (by decide) (fun c_13 => ?_) (fun c_13 => ?_)
    · have h := kb_b_t c_13 h
      obtain rfl := Option.some.inj h
      exact hk0 x5p82 f_this_movedp82 ho.symm _ _ _ hP hD hS (lv_sub hl [0, 1, 2, 3, 4, 5] rfl)
    · have h := kb_b_f c_13 h
      refine lv_aload_n hx hb kdX4_permute_88 rfl (lv_at hl 3 rfl) ?_
      refine lv_iload hx hb kdX4_permute_89 (lv_at hl 5 rfl) ?_
      refine lv_iconst (v := 1) hx hb kdX4_permute_91 (by decide) ?_
      refine lv_iadd hx hb kdX4_permute_92 ?_
      refine lv_iconst (v := 5) hx hb kdX4_permute_93 (by decide) ?_
      refine lv_irem hx hb kdX4_permute_94 (by decide) ?_
      refine lv_topi (fun q_14 eq_14 => ?_)
      have h := kb_n_s eq_14 h
      obtain ⟨g_15, h⟩ := kb_g_s h
      refine va_lald hx hb hK hP 3 2 rfl rfl (kb_in_v g_15) kdX4_permute_95 ?_
      refine lv_topl (fun x6_16 ex6_16 => ?_)
      have h := kb_n_s ex6_16 h
      refine lv_lstore (lv' := [(6, .long x6_16), (0, .ref h_this), (1, .ref (a_this 0)), (2, .ref (a_this 1)), (3, .ref (a_this 2)), (4, .int x4p18), (5, .int x5p82)]) hx hb kdX4_permute_96 hl (by decide) rfl (fun ls hl => ?_)
      refine lv_aload_n hx hb kdX4_permute_98 rfl (lv_at hl 4 rfl) ?_
      refine lv_iload hx hb kdX4_permute_99 (lv_at hl 6 rfl) ?_
      refine lv_iconst (v := 4) hx hb kdX4_permute_101 (by decide) ?_
      refine lv_iadd hx hb kdX4_permute_102 ?_
      refine lv_iconst (v := 5) hx hb kdX4_permute_103 (by decide) ?_
      refine lv_irem hx hb kdX4_permute_104 (by decide) ?_
      refine lv_topi (fun q_17 eq_17 => ?_)
      have h := kb_n_s eq_17 h
      obtain ⟨g_18, h⟩ := kb_g_s h
      refine va_lald hx hb hK hP 3 2 rfl rfl (kb_in_v g_18) kdX4_permute_105 ?_
      refine lv_lload hx hb kdX4_permute_106 (lv_at hl 0 rfl) ?_
      refine lv_iconst (v := 1) hx hb kdX4_permute_108 (by decide) ?_
      refine lv_lshl (v := (x6_16 <<< ((1 : Int32).toInt64 &&& 63))) hx hb kdX4_permute_109 rfl ?_
      refine lv_lload hx hb kdX4_permute_110 (lv_at hl 0 rfl) ?_
      refine lv_bipush (v := 63) hx hb kdX4_permute_112 (by decide) ?_
      refine lv_lushr (v := ((x6_16.toUInt64 >>> ((63 : Int32).toInt64.toUInt64 &&& Int64.toUInt64 63)).toInt64)) hx hb kdX4_permute_114 rfl ?_
      refine lv_lor hx hb kdX4_permute_115 ?_
      refine lv_lxor hx hb kdX4_permute_116 ?_
      refine lv_topl (fun x8_19 ex8_19 => ?_)
      have h := kb_n_s ex8_19 h
      refine lv_lstore (lv' := [(8, .long x8_19), (6, .long x6_16), (0, .ref h_this), (1, .ref (a_this 0)), (2, .ref (a_this 1)), (3, .ref (a_this 2)), (4, .int x4p18), (5, .int x5p82)]) hx hb kdX4_permute_117 hl (by decide) rfl (fun ls hl => ?_)
      refine lv_iload hx hb kdX4_permute_119 (lv_at hl 7 rfl) ?_
      refine lv_istore (lv' := [(10, .int x5p82), (8, .long x8_19), (6, .long x6_16), (0, .ref h_this), (1, .ref (a_this 0)), (2, .ref (a_this 1)), (3, .ref (a_this 2)), (4, .int x4p18), (5, .int x5p82)]) hx hb kdX4_permute_121 hl (by decide) rfl (fun ls hl => ?_)
      obtain ⟨r_32, hr_32, h⟩ := kb_o_s h
      refine klX4_permute_123 C0 hlocks hK hN hA hcR hsR h_this a_this x4p18 x5p82 x8_19 this_rate this_place f_this_lanesp18 f_this_columnsp28_12 f_this_turns f_this_targets f_this_roundConstants 100000 x5p82 f_this_movedp82 r_32 hr_32 _ _ _ hP hD hS (lv_sub hl [3, 4, 5, 6, 7, 8, 1, 0] rfl) (fun x10p123_29 f_this_movedp123_30 er_32 H locs ls hP hD hS hl => ?_)
      subst er_32
      obtain ⟨x5_31, ex5_31⟩ : ∃ y : Int32, y = x5p82 + Int32.ofInt 1 := ⟨_, rfl⟩
      have h := kb_n_s ex5_31 h
      refine lv_iinc (v := x5_31) (lv' := [(5, .int x5_31), (0, .ref h_this), (1, .ref (a_this 0)), (2, .ref (a_this 1)), (3, .ref (a_this 2)), (4, .int x4p18), (8, .long x8_19), (10, .int x10p123_29)]) hx hb kdX4_permute_178 hl (k := 5) rfl ex5_31.symm (by decide) rfl (fun ls hl => ?_)
      refine lv_goto (tgt := 82) hx hb kdX4_permute_181 (by decide) ?_
      obtain rfl := Option.some.inj h
      exact ih x5_31 f_this_movedp123_30 r ho _ _ _ hP hD hS (lv_sub hl [1, 2, 3, 4, 5, 0] rfl) hk0
set_option maxHeartbeats 4000000 in
set_option maxRecDepth 100000 in
theorem klX4_permute_187 {p : Program} {l : Launch} {e : Env} {s : State} {m : MethodId} {args : Array Value} {below : List Frame} {meth : Method} {c : Code} {cells slots : Nat} {Q : State → Prop} {D : va_G} {cB cI cL cBB cII cSh : ClassId} {A : Nat → Prop} (C0 : CallFix p m c prog_6_method_11_code 13 s args kwA kRX4) (hlocks : meth.locks = false) (hK : va_K D kCl (kb_T cB cI cL cBB cII cSh) s) (hN : kb_N s) (hA : ∀ q, s.heap.size ≤ q → A q) (hcR : cells ≤ krX4_permute.cells) (hsR : slots ≤ krX4_permute.slots) (h_this : Nat) (a_this : Nat → Nat) (x4p18 : Int32) (this_rate : Int32) (this_place : Int32) (f_this_movedp82_34 : Nat → Int64) (f_this_columnsp28_12 : Nat → Int64) (f_this_turns : Nat → Int32) (f_this_targets : Nat → Int32) (f_this_roundConstants : Nat → Int64) :
    ∀ (fuel : Nat) (x5p187 : Int32) (f_this_lanesp187 : Nat → Int64) (r : Int32 × (Nat → Int64)), kb_w (fun u : Int32 × (Nat → Int64) => kSX4_permute_187 f_this_movedp82_34 u.1 u.2) fuel (x5p187, f_this_lanesp187) = some r → ∀ (H : Heap) (locs : List Loc) (ls : Array Slot), va_P D kCl (kWX4_permute cB cI cL cBB cII cSh h_this a_this this_rate this_place f_this_lanesp187 f_this_movedp82_34 f_this_columnsp28_12 f_this_turns f_this_targets f_this_roundConstants) H → va_D A (kWX4_permute cB cI cL cBB cII cSh h_this a_this this_rate this_place f_this_lanesp187 f_this_movedp82_34 f_this_columnsp28_12 f_this_turns f_this_targets f_this_roundConstants) → va_S A s.heap H locs → lv_has ls 13 [(0, .ref h_this), (1, .ref (a_this 0)), (2, .ref (a_this 1)), (3, .ref (a_this 2)), (4, .int x4p18), (5, .int x5p187)] → (∀ (x5p187' : Int32) (f_this_lanesp187' : Nat → Int64), r = (x5p187', f_this_lanesp187') → ∀ (H : Heap) (locs : List Loc) (ls : Array Slot), va_P D kCl (kWX4_permute cB cI cL cBB cII cSh h_this a_this this_rate this_place f_this_lanesp187' f_this_movedp82_34 f_this_columnsp28_12 f_this_turns f_this_targets f_this_roundConstants) H → va_D A (kWX4_permute cB cI cL cBB cII cSh h_this a_this this_rate this_place f_this_lanesp187' f_this_movedp82_34 f_this_columnsp28_12 f_this_turns f_this_targets f_this_roundConstants) → va_S A s.heap H locs → lv_has ls 13 [(0, .ref h_this), (1, .ref (a_this 0)), (2, .ref (a_this 1)), (3, .ref (a_this 2)), (4, .int x4p18), (5, .int x5p187')] → W p l e krX4_permute s m args below meth c H locs cells slots Q (F0 m 342 ls [])) → W p l e krX4_permute s m args below meth c H locs cells slots Q (F0 m 187 ls []) := by
  obtain ⟨hx, hb, hml, hown, hts⟩ := id C0
  intro fuel
  induction fuel with
  | zero =>
    intro x5p187 f_this_lanesp187 r h
    exact absurd h (kb_w_z _ _ _)
  | succ fuel ih =>
    intro x5p187 f_this_lanesp187 r h H locs ls hP hD hS hl hk0
    obtain ⟨o, h, ho⟩ := kb_w_s h
    have h : kSX4_permute_187 f_this_movedp82_34 x5p187 f_this_lanesp187 = some o := h
    unfold kSX4_permute_187 at h
    refine lv_iload hx hb kdX4_permute_187 (lv_at hl 5 rfl) ?_
    refine lv_bipush (v := 25) hx hb kdX4_permute_189 (by decide) ?_
    refine lv_icmp_ge (tgt := 342) hx hb kdX4_permute_191 (by decide) (fun c_35 => ?_) (fun c_35 => ?_)
    · have h := kb_b_t c_35 h
      obtain rfl := Option.some.inj h
      exact hk0 x5p187 f_this_lanesp187 ho.symm _ _ _ hP hD hS (lv_sub hl [0, 1, 2, 3, 4, 5] rfl)
    · have h := kb_b_f c_35 h
      refine lv_aload_n hx hb kdX4_permute_194 rfl (lv_at hl 1 rfl) ?_
      refine lv_iload hx hb kdX4_permute_195 (lv_at hl 5 rfl) ?_
      refine lv_aload_n hx hb kdX4_permute_197 rfl (lv_at hl 2 rfl) ?_
      refine lv_iload hx hb kdX4_permute_198 (lv_at hl 5 rfl) ?_
      obtain ⟨g_36, h⟩ := kb_g_s h
      refine va_lald hx hb hK hP 2 2 rfl rfl (kb_in_v g_36) kdX4_permute_200 ?_
      refine lv_aload_n hx hb kdX4_permute_201 rfl (lv_at hl 2 rfl) ?_
      refine lv_iload hx hb kdX4_permute_202 (lv_at hl 5 rfl) ?_
      refine lv_iconst (v := 1) hx hb kdX4_permute_204 (by decide) ?_
      refine lv_iadd hx hb kdX4_permute_205 ?_
      obtain ⟨g_37, h⟩ := kb_g_s h
      refine va_lald hx hb hK hP 2 2 rfl rfl (kb_in_v g_37) kdX4_permute_206 ?_
      refine lv_ldc2 (v := -1) hx hb hown (hts _ km_400) kdX4_permute_207 ?_
      refine lv_lxor hx hb kdX4_permute_210 ?_
      refine lv_aload_n hx hb kdX4_permute_211 rfl (lv_at hl 2 rfl) ?_
      refine lv_iload hx hb kdX4_permute_212 (lv_at hl 5 rfl) ?_
      refine lv_iconst (v := 2) hx hb kdX4_permute_214 (by decide) ?_
      refine lv_iadd hx hb kdX4_permute_215 ?_
      obtain ⟨g_38, h⟩ := kb_g_s h
      refine va_lald hx hb hK hP 2 2 rfl rfl (kb_in_v g_38) kdX4_permute_216 ?_
      refine lv_land hx hb kdX4_permute_217 ?_
      refine lv_lxor hx hb kdX4_permute_218 ?_
      obtain ⟨g_39, h⟩ := kb_g_s h
      refine va_last hx hb hK hP hD hS 1 2 rfl rfl (kb_in_v g_39) kdX4_permute_219 (fun H locs hP hD hS => ?_)
      obtain ⟨f_40, ef_40⟩ : ∃ y, y = vp_updL f_this_lanesp187 x5p187.toNatClampNeg ((f_this_movedp82_34 x5p187.toNatClampNeg) ^^^ (((f_this_movedp82_34 (x5p187 + (1 : Int32)).toNatClampNeg) ^^^ (-1 : Int64)) &&& (f_this_movedp82_34 (x5p187 + (2 : Int32)).toNatClampNeg))) := ⟨_, rfl⟩
      have h := kb_n_s ef_40 h
      have hP : va_P D kCl (kWX4_permute cB cI cL cBB cII cSh h_this a_this this_rate this_place f_40 f_this_movedp82_34 f_this_columnsp28_12 f_this_turns f_this_targets f_this_roundConstants) H := by rw [ef_40]; exact hP
      have hD : va_D A (kWX4_permute cB cI cL cBB cII cSh h_this a_this this_rate this_place f_40 f_this_movedp82_34 f_this_columnsp28_12 f_this_turns f_this_targets f_this_roundConstants) := by rw [ef_40]; exact hD
      refine lv_aload_n hx hb kdX4_permute_220 rfl (lv_at hl 1 rfl) ?_
      refine lv_iload hx hb kdX4_permute_221 (lv_at hl 5 rfl) ?_
      refine lv_iconst (v := 1) hx hb kdX4_permute_223 (by decide) ?_
      refine lv_iadd hx hb kdX4_permute_224 ?_
      refine lv_aload_n hx hb kdX4_permute_225 rfl (lv_at hl 2 rfl) ?_
      refine lv_iload hx hb kdX4_permute_226 (lv_at hl 5 rfl) ?_
      refine lv_iconst (v := 1) hx hb kdX4_permute_228 (by decide) ?_
      refine lv_iadd hx hb kdX4_permute_229 ?_
      obtain ⟨g_41, h⟩ := kb_g_s h
      refine va_lald hx hb hK hP 2 2 rfl rfl (kb_in_v g_41) kdX4_permute_230 ?_
      refine lv_aload_n hx hb kdX4_permute_231 rfl (lv_at hl 2 rfl) ?_
      refine lv_iload hx hb kdX4_permute_232 (lv_at hl 5 rfl) ?_
      refine lv_iconst (v := 2) hx hb kdX4_permute_234 (by decide) ?_
      refine lv_iadd hx hb kdX4_permute_235 ?_
      obtain ⟨g_42, h⟩ := kb_g_s h
      refine va_lald hx hb hK hP 2 2 rfl rfl (kb_in_v g_42) kdX4_permute_236 ?_
      refine lv_ldc2 (v := -1) hx hb hown (hts _ km_400) kdX4_permute_237 ?_
      refine lv_lxor hx hb kdX4_permute_240 ?_
      refine lv_aload_n hx hb kdX4_permute_241 rfl (lv_at hl 2 rfl) ?_
      refine lv_iload hx hb kdX4_permute_242 (lv_at hl 5 rfl) ?_
      refine lv_iconst (v := 3) hx hb kdX4_permute_244 (by decide) ?_
      refine lv_iadd hx hb kdX4_permute_245 ?_
      obtain ⟨g_43, h⟩ := kb_g_s h
      refine va_lald hx hb hK hP 2 2 rfl rfl (kb_in_v g_43) kdX4_permute_246 ?_
      refine lv_land hx hb kdX4_permute_247 ?_
      refine lv_lxor hx hb kdX4_permute_248 ?_
      obtain ⟨g_44, h⟩ := kb_g_s h
      refine va_last hx hb hK hP hD hS 1 2 rfl rfl (kb_in_v g_44) kdX4_permute_249 (fun H locs hP hD hS => ?_)
      obtain ⟨f_45, ef_45⟩ : ∃ y, y = vp_updL f_40 (x5p187 + (1 : Int32)).toNatClampNeg ((f_this_movedp82_34 (x5p187 + (1 : Int32)).toNatClampNeg) ^^^ (((f_this_movedp82_34 (x5p187 + (2 : Int32)).toNatClampNeg) ^^^ (-1 : Int64)) &&& (f_this_movedp82_34 (x5p187 + (3 : Int32)).toNatClampNeg))) := ⟨_, rfl⟩
      have h := kb_n_s ef_45 h
      have hP : va_P D kCl (kWX4_permute cB cI cL cBB cII cSh h_this a_this this_rate this_place f_45 f_this_movedp82_34 f_this_columnsp28_12 f_this_turns f_this_targets f_this_roundConstants) H := by rw [ef_45]; exact hP
      have hD : va_D A (kWX4_permute cB cI cL cBB cII cSh h_this a_this this_rate this_place f_45 f_this_movedp82_34 f_this_columnsp28_12 f_this_turns f_this_targets f_this_roundConstants) := by rw [ef_45]; exact hD
      refine lv_aload_n hx hb kdX4_permute_250 rfl (lv_at hl 1 rfl) ?_
      refine lv_iload hx hb kdX4_permute_251 (lv_at hl 5 rfl) ?_
      refine lv_iconst (v := 2) hx hb kdX4_permute_253 (by decide) ?_
      refine lv_iadd hx hb kdX4_permute_254 ?_
      refine lv_aload_n hx hb kdX4_permute_255 rfl (lv_at hl 2 rfl) ?_
      refine lv_iload hx hb kdX4_permute_256 (lv_at hl 5 rfl) ?_
      refine lv_iconst (v := 2) hx hb kdX4_permute_258 (by decide) ?_
      refine lv_iadd hx hb kdX4_permute_259 ?_
      obtain ⟨g_46, h⟩ := kb_g_s h
      refine va_lald hx hb hK hP 2 2 rfl rfl (kb_in_v g_46) kdX4_permute_260 ?_
      refine lv_aload_n hx hb kdX4_permute_261 rfl (lv_at hl 2 rfl) ?_
      refine lv_iload hx hb kdX4_permute_262 (lv_at hl 5 rfl) ?_
      refine lv_iconst (v := 3) hx hb kdX4_permute_264 (by decide) ?_
      refine lv_iadd hx hb kdX4_permute_265 ?_
      obtain ⟨g_47, h⟩ := kb_g_s h
      refine va_lald hx hb hK hP 2 2 rfl rfl (kb_in_v g_47) kdX4_permute_266 ?_
      refine lv_ldc2 (v := -1) hx hb hown (hts _ km_400) kdX4_permute_267 ?_
      refine lv_lxor hx hb kdX4_permute_270 ?_
      refine lv_aload_n hx hb kdX4_permute_271 rfl (lv_at hl 2 rfl) ?_
      refine lv_iload hx hb kdX4_permute_272 (lv_at hl 5 rfl) ?_
      refine lv_iconst (v := 4) hx hb kdX4_permute_274 (by decide) ?_
      refine lv_iadd hx hb kdX4_permute_275 ?_
      obtain ⟨g_48, h⟩ := kb_g_s h
      refine va_lald hx hb hK hP 2 2 rfl rfl (kb_in_v g_48) kdX4_permute_276 ?_
      refine lv_land hx hb kdX4_permute_277 ?_
      refine lv_lxor hx hb kdX4_permute_278 ?_
      obtain ⟨g_49, h⟩ := kb_g_s h
      refine va_last hx hb hK hP hD hS 1 2 rfl rfl (kb_in_v g_49) kdX4_permute_279 (fun H locs hP hD hS => ?_)
      obtain ⟨f_50, ef_50⟩ : ∃ y, y = vp_updL f_45 (x5p187 + (2 : Int32)).toNatClampNeg ((f_this_movedp82_34 (x5p187 + (2 : Int32)).toNatClampNeg) ^^^ (((f_this_movedp82_34 (x5p187 + (3 : Int32)).toNatClampNeg) ^^^ (-1 : Int64)) &&& (f_this_movedp82_34 (x5p187 + (4 : Int32)).toNatClampNeg))) := ⟨_, rfl⟩
      have h := kb_n_s ef_50 h
      have hP : va_P D kCl (kWX4_permute cB cI cL cBB cII cSh h_this a_this this_rate this_place f_50 f_this_movedp82_34 f_this_columnsp28_12 f_this_turns f_this_targets f_this_roundConstants) H := by rw [ef_50]; exact hP
      have hD : va_D A (kWX4_permute cB cI cL cBB cII cSh h_this a_this this_rate this_place f_50 f_this_movedp82_34 f_this_columnsp28_12 f_this_turns f_this_targets f_this_roundConstants) := by rw [ef_50]; exact hD
      refine lv_aload_n hx hb kdX4_permute_280 rfl (lv_at hl 1 rfl) ?_
      refine lv_iload hx hb kdX4_permute_281 (lv_at hl 5 rfl) ?_
      refine lv_iconst (v := 3) hx hb kdX4_permute_283 (by decide) ?_
      refine lv_iadd hx hb kdX4_permute_284 ?_
      refine lv_aload_n hx hb kdX4_permute_285 rfl (lv_at hl 2 rfl) ?_
      refine lv_iload hx hb kdX4_permute_286 (lv_at hl 5 rfl) ?_
      refine lv_iconst (v := 3) hx hb kdX4_permute_288 (by decide) ?_
      refine lv_iadd hx hb kdX4_permute_289 ?_
      obtain ⟨g_51, h⟩ := kb_g_s h
      refine va_lald hx hb hK hP 2 2 rfl rfl (kb_in_v g_51) kdX4_permute_290 ?_
      refine lv_aload_n hx hb kdX4_permute_291 rfl (lv_at hl 2 rfl) ?_
      refine lv_iload hx hb kdX4_permute_292 (lv_at hl 5 rfl) ?_
      refine lv_iconst (v := 4) hx hb kdX4_permute_294 (by decide) ?_
      refine lv_iadd hx hb kdX4_permute_295 ?_
      obtain ⟨g_52, h⟩ := kb_g_s h
      refine va_lald hx hb hK hP 2 2 rfl rfl (kb_in_v g_52) kdX4_permute_296 ?_
      refine lv_ldc2 (v := -1) hx hb hown (hts _ km_400) kdX4_permute_297 ?_
      refine lv_lxor hx hb kdX4_permute_300 ?_
      refine lv_aload_n hx hb kdX4_permute_301 rfl (lv_at hl 2 rfl) ?_
      refine lv_iload hx hb kdX4_permute_302 (lv_at hl 5 rfl) ?_
      obtain ⟨g_53, h⟩ := kb_g_s h
      refine va_lald hx hb hK hP 2 2 rfl rfl (kb_in_v g_53) kdX4_permute_304 ?_
      refine lv_land hx hb kdX4_permute_305 ?_
      refine lv_lxor hx hb kdX4_permute_306 ?_
      obtain ⟨g_54, h⟩ := kb_g_s h
      refine va_last hx hb hK hP hD hS 1 2 rfl rfl (kb_in_v g_54) kdX4_permute_307 (fun H locs hP hD hS => ?_)
      obtain ⟨f_55, ef_55⟩ : ∃ y, y = vp_updL f_50 (x5p187 + (3 : Int32)).toNatClampNeg ((f_this_movedp82_34 (x5p187 + (3 : Int32)).toNatClampNeg) ^^^ (((f_this_movedp82_34 (x5p187 + (4 : Int32)).toNatClampNeg) ^^^ (-1 : Int64)) &&& (f_this_movedp82_34 x5p187.toNatClampNeg))) := ⟨_, rfl⟩
      have h := kb_n_s ef_55 h
      have hP : va_P D kCl (kWX4_permute cB cI cL cBB cII cSh h_this a_this this_rate this_place f_55 f_this_movedp82_34 f_this_columnsp28_12 f_this_turns f_this_targets f_this_roundConstants) H := by rw [ef_55]; exact hP
      have hD : va_D A (kWX4_permute cB cI cL cBB cII cSh h_this a_this this_rate this_place f_55 f_this_movedp82_34 f_this_columnsp28_12 f_this_turns f_this_targets f_this_roundConstants) := by rw [ef_55]; exact hD
      refine lv_aload_n hx hb kdX4_permute_308 rfl (lv_at hl 1 rfl) ?_
      refine lv_iload hx hb kdX4_permute_309 (lv_at hl 5 rfl) ?_
      refine lv_iconst (v := 4) hx hb kdX4_permute_311 (by decide) ?_
      refine lv_iadd hx hb kdX4_permute_312 ?_
      refine lv_aload_n hx hb kdX4_permute_313 rfl (lv_at hl 2 rfl) ?_
      refine lv_iload hx hb kdX4_permute_314 (lv_at hl 5 rfl) ?_
      refine lv_iconst (v := 4) hx hb kdX4_permute_316 (by decide) ?_
      refine lv_iadd hx hb kdX4_permute_317 ?_
      obtain ⟨g_56, h⟩ := kb_g_s h
      refine va_lald hx hb hK hP 2 2 rfl rfl (kb_in_v g_56) kdX4_permute_318 ?_
      refine lv_aload_n hx hb kdX4_permute_319 rfl (lv_at hl 2 rfl) ?_
      refine lv_iload hx hb kdX4_permute_320 (lv_at hl 5 rfl) ?_
      obtain ⟨g_57, h⟩ := kb_g_s h
      refine va_lald hx hb hK hP 2 2 rfl rfl (kb_in_v g_57) kdX4_permute_322 ?_
      refine lv_ldc2 (v := -1) hx hb hown (hts _ km_400) kdX4_permute_323 ?_
      refine lv_lxor hx hb kdX4_permute_326 ?_
      refine lv_aload_n hx hb kdX4_permute_327 rfl (lv_at hl 2 rfl) ?_
      refine lv_iload hx hb kdX4_permute_328 (lv_at hl 5 rfl) ?_
      refine lv_iconst (v := 1) hx hb kdX4_permute_330 (by decide) ?_
      refine lv_iadd hx hb kdX4_permute_331 ?_
      obtain ⟨g_58, h⟩ := kb_g_s h
      refine va_lald hx hb hK hP 2 2 rfl rfl (kb_in_v g_58) kdX4_permute_332 ?_
      refine lv_land hx hb kdX4_permute_333 ?_
      refine lv_lxor hx hb kdX4_permute_334 ?_
      obtain ⟨g_59, h⟩ := kb_g_s h
      refine va_last hx hb hK hP hD hS 1 2 rfl rfl (kb_in_v g_59) kdX4_permute_335 (fun H locs hP hD hS => ?_)
      obtain ⟨f_60, ef_60⟩ : ∃ y, y = vp_updL f_55 (x5p187 + (4 : Int32)).toNatClampNeg ((f_this_movedp82_34 (x5p187 + (4 : Int32)).toNatClampNeg) ^^^ (((f_this_movedp82_34 x5p187.toNatClampNeg) ^^^ (-1 : Int64)) &&& (f_this_movedp82_34 (x5p187 + (1 : Int32)).toNatClampNeg))) := ⟨_, rfl⟩
      have h := kb_n_s ef_60 h
      have hP : va_P D kCl (kWX4_permute cB cI cL cBB cII cSh h_this a_this this_rate this_place f_60 f_this_movedp82_34 f_this_columnsp28_12 f_this_turns f_this_targets f_this_roundConstants) H := by rw [ef_60]; exact hP
      have hD : va_D A (kWX4_permute cB cI cL cBB cII cSh h_this a_this this_rate this_place f_60 f_this_movedp82_34 f_this_columnsp28_12 f_this_turns f_this_targets f_this_roundConstants) := by rw [ef_60]; exact hD
      obtain ⟨x5_61, ex5_61⟩ : ∃ y : Int32, y = x5p187 + Int32.ofInt 5 := ⟨_, rfl⟩
      have h := kb_n_s ex5_61 h
      refine lv_iinc (v := x5_61) (lv' := [(5, .int x5_61), (0, .ref h_this), (1, .ref (a_this 0)), (2, .ref (a_this 1)), (3, .ref (a_this 2)), (4, .int x4p18)]) hx hb kdX4_permute_336 hl (k := 5) rfl ex5_61.symm (by decide) rfl (fun ls hl => ?_)
      refine lv_goto (tgt := 187) hx hb kdX4_permute_339 (by decide) ?_
      obtain rfl := Option.some.inj h
      exact ih x5_61 f_60 r ho _ _ _ hP hD hS (lv_sub hl [1, 2, 3, 4, 5, 0] rfl) hk0
set_option maxHeartbeats 4000000 in
set_option maxRecDepth 100000 in
theorem klX4_permute_18 {p : Program} {l : Launch} {e : Env} {s : State} {m : MethodId} {args : Array Value} {below : List Frame} {meth : Method} {c : Code} {cells slots : Nat} {Q : State → Prop} {D : va_G} {cB cI cL cBB cII cSh : ClassId} {A : Nat → Prop} (C0 : CallFix p m c prog_6_method_11_code 13 s args kwA kRX4) (hlocks : meth.locks = false) (hK : va_K D kCl (kb_T cB cI cL cBB cII cSh) s) (hN : kb_N s) (hA : ∀ q, s.heap.size ≤ q → A q) (hcR : cells ≤ krX4_permute.cells) (hsR : slots ≤ krX4_permute.slots) (h_this : Nat) (a_this : Nat → Nat) (this_rate : Int32) (this_place : Int32) (f_this_turns : Nat → Int32) (f_this_targets : Nat → Int32) (f_this_roundConstants : Nat → Int64) :
    ∀ (fuel : Nat) (x4p18 : Int32) (f_this_columnsp18 : Nat → Int64) (f_this_lanesp18 : Nat → Int64) (f_this_movedp18 : Nat → Int64) (r : Int32 × (Nat → Int64) × (Nat → Int64) × (Nat → Int64)), kb_w (fun u : Int32 × (Nat → Int64) × (Nat → Int64) × (Nat → Int64) => kSX4_permute_18 f_this_turns f_this_targets f_this_roundConstants u.1 u.2.1 u.2.2.1 u.2.2.2) fuel (x4p18, f_this_columnsp18, f_this_lanesp18, f_this_movedp18) = some r → ∀ (H : Heap) (locs : List Loc) (ls : Array Slot), va_P D kCl (kWX4_permute cB cI cL cBB cII cSh h_this a_this this_rate this_place f_this_lanesp18 f_this_movedp18 f_this_columnsp18 f_this_turns f_this_targets f_this_roundConstants) H → va_D A (kWX4_permute cB cI cL cBB cII cSh h_this a_this this_rate this_place f_this_lanesp18 f_this_movedp18 f_this_columnsp18 f_this_turns f_this_targets f_this_roundConstants) → va_S A s.heap H locs → lv_has ls 13 [(0, .ref h_this), (1, .ref (a_this 0)), (2, .ref (a_this 1)), (3, .ref (a_this 2)), (4, .int x4p18)] → (∀ (x4p18' : Int32) (f_this_columnsp18' : Nat → Int64) (f_this_lanesp18' : Nat → Int64) (f_this_movedp18' : Nat → Int64), r = (x4p18', f_this_columnsp18', f_this_lanesp18', f_this_movedp18') → ∀ (H : Heap) (locs : List Loc) (ls : Array Slot), va_P D kCl (kWX4_permute cB cI cL cBB cII cSh h_this a_this this_rate this_place f_this_lanesp18' f_this_movedp18' f_this_columnsp18' f_this_turns f_this_targets f_this_roundConstants) H → va_D A (kWX4_permute cB cI cL cBB cII cSh h_this a_this this_rate this_place f_this_lanesp18' f_this_movedp18' f_this_columnsp18' f_this_turns f_this_targets f_this_roundConstants) → va_S A s.heap H locs → lv_has ls 13 [(0, .ref h_this), (1, .ref (a_this 0)), (2, .ref (a_this 1)), (3, .ref (a_this 2)), (4, .int x4p18')] → W p l e krX4_permute s m args below meth c H locs cells slots Q (F0 m 361 ls [])) → W p l e krX4_permute s m args below meth c H locs cells slots Q (F0 m 18 ls []) := by
  obtain ⟨hx, hb, hml, hown, hts⟩ := id C0
  intro fuel
  induction fuel with
  | zero =>
    intro x4p18 f_this_columnsp18 f_this_lanesp18 f_this_movedp18 r h
    exact absurd h (kb_w_z _ _ _)
  | succ fuel ih =>
    intro x4p18 f_this_columnsp18 f_this_lanesp18 f_this_movedp18 r h H locs ls hP hD hS hl hk0
    obtain ⟨o, h, ho⟩ := kb_w_s h
    have h : kSX4_permute_18 f_this_turns f_this_targets f_this_roundConstants x4p18 f_this_columnsp18 f_this_lanesp18 f_this_movedp18 = some o := h
    unfold kSX4_permute_18 at h
    refine lv_iload hx hb kdX4_permute_18 (lv_at hl 4 rfl) ?_
    refine lv_bipush (v := 24) hx hb kdX4_permute_20 (by decide) ?_
    refine lv_icmp_ge (tgt := 361) hx hb kdX4_permute_22 (by decide) (fun c_1 => ?_) (fun c_1 => ?_)
    · have h := kb_b_t c_1 h
      obtain rfl := Option.some.inj h
      exact hk0 x4p18 f_this_columnsp18 f_this_lanesp18 f_this_movedp18 ho.symm _ _ _ hP hD hS (lv_sub hl [0, 1, 2, 3, 4] rfl)
    · have h := kb_b_f c_1 h
      refine lv_iconst (v := 0) hx hb kdX4_permute_25 (by decide) ?_
      refine lv_istore (lv' := [(5, .int (0 : Int32)), (0, .ref h_this), (1, .ref (a_this 0)), (2, .ref (a_this 1)), (3, .ref (a_this 2)), (4, .int x4p18)]) hx hb kdX4_permute_26 hl (by decide) rfl (fun ls hl => ?_)
      obtain ⟨r_69, hr_69, h⟩ := kb_o_s h
      refine klX4_permute_28 C0 hlocks hK hN hA hcR hsR h_this a_this x4p18 this_rate this_place f_this_lanesp18 f_this_movedp18 f_this_turns f_this_targets f_this_roundConstants 100000 (0 : Int32) f_this_columnsp18 r_69 hr_69 _ _ _ hP hD hS (lv_sub hl [1, 2, 3, 4, 5, 0] rfl) (fun x5p28_11 f_this_columnsp28_12 er_69 H locs ls hP hD hS hl => ?_)
      subst er_69
      refine lv_iconst (v := 0) hx hb kdX4_permute_79 (by decide) ?_
      refine lv_istore (lv' := [(5, .int (0 : Int32)), (0, .ref h_this), (1, .ref (a_this 0)), (2, .ref (a_this 1)), (3, .ref (a_this 2)), (4, .int x4p18)]) hx hb kdX4_permute_80 hl (by decide) rfl (fun ls hl => ?_)
      obtain ⟨r_68, hr_68, h⟩ := kb_o_s h
      refine klX4_permute_82 C0 hlocks hK hN hA hcR hsR h_this a_this x4p18 this_rate this_place f_this_lanesp18 f_this_columnsp28_12 f_this_turns f_this_targets f_this_roundConstants 100000 (0 : Int32) f_this_movedp18 r_68 hr_68 _ _ _ hP hD hS (lv_sub hl [1, 2, 3, 4, 5, 0] rfl) (fun x5p82_33 f_this_movedp82_34 er_68 H locs ls hP hD hS hl => ?_)
      subst er_68
      refine lv_iconst (v := 0) hx hb kdX4_permute_184 (by decide) ?_
      refine lv_istore (lv' := [(5, .int (0 : Int32)), (0, .ref h_this), (1, .ref (a_this 0)), (2, .ref (a_this 1)), (3, .ref (a_this 2)), (4, .int x4p18)]) hx hb kdX4_permute_185 hl (by decide) rfl (fun ls hl => ?_)
      obtain ⟨r_67, hr_67, h⟩ := kb_o_s h
      refine klX4_permute_187 C0 hlocks hK hN hA hcR hsR h_this a_this x4p18 this_rate this_place f_this_movedp82_34 f_this_columnsp28_12 f_this_turns f_this_targets f_this_roundConstants 100000 (0 : Int32) f_this_lanesp18 r_67 hr_67 _ _ _ hP hD hS (lv_sub hl [1, 2, 3, 4, 5, 0] rfl) (fun x5p187_62 f_this_lanesp187_63 er_67 H locs ls hP hD hS hl => ?_)
      subst er_67
      refine lv_aload_n hx hb kdX4_permute_342 rfl (lv_at hl 1 rfl) ?_
      refine lv_iconst (v := 0) hx hb kdX4_permute_343 (by decide) ?_
      refine lv_dup2_11 hx hb kdX4_permute_344 rfl rfl ?_
      refine va_lald hx hb hK hP 1 2 rfl rfl (kb_in_v (by decide)) kdX4_permute_345 ?_
      refine lv_aload_n hx hb kdX4_permute_346 rfl (lv_at hl 0 rfl) ?_
      refine va_get (ci := 4) (v := .ref (a_this 5)) (C := kRX4) (T := kTX4) (N := 8) hx hb hts kinX4 hown hK hP 0 rfl rfl 5 (by decide) (hts _ km_83) (fun _ h9 => h9) rfl kdX4_permute_347 ?_
      refine lv_iload hx hb kdX4_permute_350 (lv_at hl 4 rfl) ?_
      obtain ⟨g_64, h⟩ := kb_g_s h
      refine va_lald hx hb hK hP 6 2 rfl rfl (kb_in_v g_64) kdX4_permute_352 ?_
      refine lv_lxor hx hb kdX4_permute_353 ?_
      refine va_last hx hb hK hP hD hS 1 2 rfl rfl (kb_in_v (by decide)) kdX4_permute_354 (fun H locs hP hD hS => ?_)
      obtain ⟨f_65, ef_65⟩ : ∃ y, y = vp_updL f_this_lanesp187_63 (0 : Int32).toNatClampNeg ((f_this_lanesp187_63 (0 : Int32).toNatClampNeg) ^^^ (f_this_roundConstants x4p18.toNatClampNeg)) := ⟨_, rfl⟩
      have h := kb_n_s ef_65 h
      have hP : va_P D kCl (kWX4_permute cB cI cL cBB cII cSh h_this a_this this_rate this_place f_65 f_this_movedp82_34 f_this_columnsp28_12 f_this_turns f_this_targets f_this_roundConstants) H := by rw [ef_65]; exact hP
      have hD : va_D A (kWX4_permute cB cI cL cBB cII cSh h_this a_this this_rate this_place f_65 f_this_movedp82_34 f_this_columnsp28_12 f_this_turns f_this_targets f_this_roundConstants) := by rw [ef_65]; exact hD
      obtain ⟨x4_66, ex4_66⟩ : ∃ y : Int32, y = x4p18 + Int32.ofInt 1 := ⟨_, rfl⟩
      have h := kb_n_s ex4_66 h
      refine lv_iinc (v := x4_66) (lv' := [(4, .int x4_66), (0, .ref h_this), (1, .ref (a_this 0)), (2, .ref (a_this 1)), (3, .ref (a_this 2)), (5, .int x5p187_62)]) hx hb kdX4_permute_355 hl (k := 4) rfl ex4_66.symm (by decide) rfl (fun ls hl => ?_)
      refine lv_goto (tgt := 18) hx hb kdX4_permute_358 (by decide) ?_
      obtain rfl := Option.some.inj h
      exact ih x4_66 f_this_columnsp28_12 f_65 f_this_movedp82_34 r ho _ _ _ hP hD hS (lv_sub hl [1, 2, 3, 4, 0] rfl) hk0
set_option maxHeartbeats 4000000 in
set_option maxRecDepth 100000 in
theorem kcX4_permute (l : Launch) (D : va_G) (cB cI cL cBB cII cSh : ClassId) (h_this : Nat) (a_this : Nat → Nat) (sz : Nat) (this_rate : Int32) (this_place : Int32) (f_this_lanes : Nat → Int64) (f_this_moved : Nat → Int64) (f_this_columns : Nat → Int64) (f_this_turns : Nat → Int32) (f_this_targets : Nat → Int32) (f_this_roundConstants : Nat → Int64) (out : (Nat → Int64) × (Nat → Int64) × (Nat → Int64)) (h : kFX4_permute f_this_lanes f_this_moved f_this_columns f_this_turns f_this_targets f_this_roundConstants = some out) : Met l kyX4_permute kwX4_permute krX4_permute (kb_P D kCl (kb_T cB cI cL cBB cII cSh) [.ref h_this] (kWX4_permute cB cI cL cBB cII cSh h_this a_this this_rate this_place f_this_lanes f_this_moved f_this_columns f_this_turns f_this_targets f_this_roundConstants) sz) (kb_Q D kCl (kb_T cB cI cL cBB cII cSh) (va_A (kWX4_permute cB cI cL cBB cII cSh h_this a_this this_rate this_place f_this_lanes f_this_moved f_this_columns f_this_turns f_this_targets f_this_roundConstants) sz) none (kWX4_permute cB cI cL cBB cII cSh h_this a_this this_rate this_place out.1 out.2.1 out.2.2 f_this_turns f_this_targets f_this_roundConstants)) 0 0 (va_A (kWX4_permute cB cI cL cBB cII cSh h_this a_this this_rate this_place f_this_lanes f_this_moved f_this_columns f_this_turns f_this_targets f_this_roundConstants) sz) := by
  refine Met.ofW (cc := prog_6_method_11_code) (maxL := 13) (ret := none) (by decide) rfl ?_
  intro p e s m args below meth c s₁ B hml hv
  obtain ⟨rfl, hsz, hP, hK, hN, hD0⟩ := hv
  have hx := B.exec
  have hb := B.bytes
  have hr := B.returns
  have hts0 := atoms_spec (ws := kwX4_permute) B.pre
  have hts : ∀ w ∈ kwA, w.before _ s = true := fun w h => hts0 w (List.mem_cons_of_mem _ h)
  have hown : s.vm.findClass kRX4 = some m.cls := findClass_of_methodNamed B.named
  have hlocks := B.notSynchronized
  subst hsz
  have hD := hD0.self (sz := s.heap.size)
  generalize hAe : va_A (kWX4_permute cB cI cL cBB cII cSh h_this a_this this_rate this_place f_this_lanes f_this_moved f_this_columns f_this_turns f_this_targets f_this_roundConstants) s.heap.size = A at hD ⊢
  have hA : ∀ q : Nat, s.heap.size ≤ q → A q := fun q h => by rw [← hAe]; exact Or.inr h
  have hS : va_S A s.heap s.heap [] := va_S.rf
  have C0 : CallFix p m c prog_6_method_11_code 13 s _ kwA kRX4 := ⟨hx, hb, hml, hown, hts⟩
  have hl := lv_entry ([.ref h_this]) (n := 13) (Nat.le_of_ble_eq_true rfl)
  rw [lg_entry_eq]
  generalize (lg_sl ([.ref h_this]) ++ List.replicate (13 - (lg_sl ([.ref h_this])).length) Slot.unset).toArray = ls at hl ⊢
  have hl : lv_has ls 13 [(0, .ref h_this)] := hl
  unfold kFX4_permute at h
  refine lv_aload_n hx hb kdX4_permute_0 rfl (lv_at hl 0 rfl) ?_
  refine va_get (ci := 4) (v := .ref (a_this 0)) (C := kRX4) (T := kTX4) (N := 8) hx hb hts kinX4 hown hK hP 0 rfl rfl 0 (by decide) (hts _ km_78) (fun _ h9 => h9) rfl kdX4_permute_1 ?_
  refine lv_astore_n (lv' := [(1, .ref (a_this 0)), (0, .ref h_this)]) hx hb kdX4_permute_4 rfl hl (by decide) rfl (fun ls hl => ?_)
  refine lv_aload_n hx hb kdX4_permute_5 rfl (lv_at hl 1 rfl) ?_
  refine va_get (ci := 4) (v := .ref (a_this 1)) (C := kRX4) (T := kTX4) (N := 8) hx hb hts kinX4 hown hK hP 0 rfl rfl 1 (by decide) (hts _ km_79) (fun _ h9 => h9) rfl kdX4_permute_6 ?_
  refine lv_astore_n (lv' := [(2, .ref (a_this 1)), (1, .ref (a_this 0)), (0, .ref h_this)]) hx hb kdX4_permute_9 rfl hl (by decide) rfl (fun ls hl => ?_)
  refine lv_aload_n hx hb kdX4_permute_10 rfl (lv_at hl 2 rfl) ?_
  refine va_get (ci := 4) (v := .ref (a_this 2)) (C := kRX4) (T := kTX4) (N := 8) hx hb hts kinX4 hown hK hP 0 rfl rfl 2 (by decide) (hts _ km_80) (fun _ h9 => h9) rfl kdX4_permute_11 ?_
  refine lv_astore_n (lv' := [(3, .ref (a_this 2)), (2, .ref (a_this 1)), (1, .ref (a_this 0)), (0, .ref h_this)]) hx hb kdX4_permute_14 rfl hl (by decide) rfl (fun ls hl => ?_)
  refine lv_iconst (v := 0) hx hb kdX4_permute_15 (by decide) ?_
  refine lv_istore (lv' := [(4, .int (0 : Int32)), (3, .ref (a_this 2)), (2, .ref (a_this 1)), (1, .ref (a_this 0)), (0, .ref h_this)]) hx hb kdX4_permute_16 hl (by decide) rfl (fun ls hl => ?_)
  obtain ⟨r_74, hr_74, h⟩ := kb_o_s h
  refine klX4_permute_18 C0 hlocks hK hN hA (by decide) (by decide) h_this a_this this_rate this_place f_this_turns f_this_targets f_this_roundConstants 100000 (0 : Int32) f_this_columns f_this_lanes f_this_moved r_74 hr_74 _ _ _ hP hD hS (lv_sub hl [4, 3, 2, 1, 0] rfl) (fun x4p18_70 f_this_columnsp18_71 f_this_lanesp18_72 f_this_movedp18_73 er_74 H locs ls hP hD hS hl => ?_)
  subst er_74
  obtain rfl := Option.some.inj h
  exact W.vret hx hb hr (fun t ht hW => ⟨⟨rfl, by rw [ht]; exact hP, va_K.moved hW.alike hK, hD⟩, hS.F ht⟩) hS.2.2 kdX4_permute_361

-- 470.java.lang.Integer.bitCount.lean.txt
abbrev kWX8_bitCount (cB cI cL cBB cII cSh : ClassId)   : va_W := []
def krX8_bitCount : Room := { frames := 0, cells := 0, slots := 0, locals := 0 }
set_option maxHeartbeats 4000000 in
set_option maxRecDepth 100000 in
theorem kcX8_bitCount (l : Launch) (D : va_G) (cB cI cL cBB cII cSh : ClassId)  (sz : Nat) (p1 : Int32) (out : Int32) (h : kFX8_bitCount p1 = some out) : Met l kyX8_bitCount kwX8_bitCount krX8_bitCount (kb_P D kCl (kb_T cB cI cL cBB cII cSh) [.int p1] (kWX8_bitCount cB cI cL cBB cII cSh) sz) (kb_Q D kCl (kb_T cB cI cL cBB cII cSh) (va_A (kWX8_bitCount cB cI cL cBB cII cSh) sz) (some (.int out)) (kWX8_bitCount cB cI cL cBB cII cSh)) 0 0 (va_A (kWX8_bitCount cB cI cL cBB cII cSh) sz) := by
  refine Met.ofW (cc := prog_14_method_49_code) (maxL := 1) (ret := (some .int)) (by decide) rfl ?_
  intro p e s m args below meth c s₁ B hml hv
  obtain ⟨rfl, hsz, hP, hK, hN, hD0⟩ := hv
  have hx := B.exec
  have hb := B.bytes
  have hr := B.returns
  have hts0 := atoms_spec (ws := kwX8_bitCount) B.pre
  have hts : ∀ w ∈ kwA, w.before _ s = true := fun w h => hts0 w (List.mem_cons_of_mem _ h)
  have hown : s.vm.findClass kRX8 = some m.cls := findClass_of_methodNamed B.named
  have hlocks := B.notSynchronized
  subst hsz
  have hD := hD0.self (sz := s.heap.size)
  generalize hAe : va_A (kWX8_bitCount cB cI cL cBB cII cSh) s.heap.size = A at hD ⊢
  have hA : ∀ q : Nat, s.heap.size ≤ q → A q := fun q h => by rw [← hAe]; exact Or.inr h
  have hS : va_S A s.heap s.heap [] := va_S.rf
  have C0 : CallFix p m c prog_14_method_49_code 1 s _ kwA kRX8 := ⟨hx, hb, hml, hown, hts⟩
  have hl := lv_entry ([.int p1]) (n := 1) (Nat.le_of_ble_eq_true rfl)
  rw [lg_entry_eq]
  generalize (lg_sl ([.int p1]) ++ List.replicate (1 - (lg_sl ([.int p1])).length) Slot.unset).toArray = ls at hl ⊢
  have hl : lv_has ls 1 [(0, .int p1)] := hl
  unfold kFX8_bitCount at h
  refine lv_iload_n hx hb kdX8_bitCount_0 rfl (lv_at hl 0 rfl) ?_
  refine lv_iload_n hx hb kdX8_bitCount_1 rfl (lv_at hl 0 rfl) ?_
  refine lv_iconst (v := 1) hx hb kdX8_bitCount_2 (by decide) ?_
  refine lv_iushr (v := ((p1.toUInt32 >>> ((1 : Int32).toUInt32 &&& Int32.toUInt32 31)).toInt32)) hx hb kdX8_bitCount_3 rfl ?_
  refine lv_ldcw (v := 1431655765) hx hb hown (hts _ km_447) kdX8_bitCount_4 ?_
  refine lv_iand hx hb kdX8_bitCount_7 ?_
  refine lv_isub hx hb kdX8_bitCount_8 ?_
  refine lv_topi (fun x0_1 ex0_1 => ?_)
  have h := kb_n_s ex0_1 h
  refine lv_istore_n (lv' := [(0, .int x0_1)]) hx hb kdX8_bitCount_9 rfl hl (by decide) rfl (fun ls hl => ?_)
  refine lv_iload_n hx hb kdX8_bitCount_10 rfl (lv_at hl 0 rfl) ?_
  refine lv_ldcw (v := 858993459) hx hb hown (hts _ km_448) kdX8_bitCount_11 ?_
  refine lv_iand hx hb kdX8_bitCount_14 ?_
  refine lv_iload_n hx hb kdX8_bitCount_15 rfl (lv_at hl 0 rfl) ?_
  refine lv_iconst (v := 2) hx hb kdX8_bitCount_16 (by decide) ?_
  refine lv_iushr (v := ((x0_1.toUInt32 >>> ((2 : Int32).toUInt32 &&& Int32.toUInt32 31)).toInt32)) hx hb kdX8_bitCount_17 rfl ?_
  refine lv_ldcw (v := 858993459) hx hb hown (hts _ km_448) kdX8_bitCount_18 ?_
  refine lv_iand hx hb kdX8_bitCount_21 ?_
  refine lv_iadd hx hb kdX8_bitCount_22 ?_
  refine lv_topi (fun x0_2 ex0_2 => ?_)
  have h := kb_n_s ex0_2 h
  refine lv_istore_n (lv' := [(0, .int x0_2)]) hx hb kdX8_bitCount_23 rfl hl (by decide) rfl (fun ls hl => ?_)
  refine lv_iload_n hx hb kdX8_bitCount_24 rfl (lv_at hl 0 rfl) ?_
  refine lv_iload_n hx hb kdX8_bitCount_25 rfl (lv_at hl 0 rfl) ?_
  refine lv_iconst (v := 4) hx hb kdX8_bitCount_26 (by decide) ?_
  refine lv_iushr (v := ((x0_2.toUInt32 >>> ((4 : Int32).toUInt32 &&& Int32.toUInt32 31)).toInt32)) hx hb kdX8_bitCount_27 rfl ?_
  refine lv_iadd hx hb kdX8_bitCount_28 ?_
  refine lv_ldcw (v := 252645135) hx hb hown (hts _ km_449) kdX8_bitCount_29 ?_
  refine lv_iand hx hb kdX8_bitCount_32 ?_
  refine lv_topi (fun x0_3 ex0_3 => ?_)
  have h := kb_n_s ex0_3 h
  refine lv_istore_n (lv' := [(0, .int x0_3)]) hx hb kdX8_bitCount_33 rfl hl (by decide) rfl (fun ls hl => ?_)
  refine lv_iload_n hx hb kdX8_bitCount_34 rfl (lv_at hl 0 rfl) ?_
  refine lv_iload_n hx hb kdX8_bitCount_35 rfl (lv_at hl 0 rfl) ?_
  refine lv_bipush (v := 8) hx hb kdX8_bitCount_36 (by decide) ?_
  refine lv_iushr (v := ((x0_3.toUInt32 >>> ((8 : Int32).toUInt32 &&& Int32.toUInt32 31)).toInt32)) hx hb kdX8_bitCount_38 rfl ?_
  refine lv_iadd hx hb kdX8_bitCount_39 ?_
  refine lv_topi (fun x0_4 ex0_4 => ?_)
  have h := kb_n_s ex0_4 h
  refine lv_istore_n (lv' := [(0, .int x0_4)]) hx hb kdX8_bitCount_40 rfl hl (by decide) rfl (fun ls hl => ?_)
  refine lv_iload_n hx hb kdX8_bitCount_41 rfl (lv_at hl 0 rfl) ?_
  refine lv_iload_n hx hb kdX8_bitCount_42 rfl (lv_at hl 0 rfl) ?_
  refine lv_bipush (v := 16) hx hb kdX8_bitCount_43 (by decide) ?_
  refine lv_iushr (v := ((x0_4.toUInt32 >>> ((16 : Int32).toUInt32 &&& Int32.toUInt32 31)).toInt32)) hx hb kdX8_bitCount_45 rfl ?_
  refine lv_iadd hx hb kdX8_bitCount_46 ?_
  refine lv_topi (fun x0_5 ex0_5 => ?_)
  have h := kb_n_s ex0_5 h
  refine lv_istore_n (lv' := [(0, .int x0_5)]) hx hb kdX8_bitCount_47 rfl hl (by decide) rfl (fun ls hl => ?_)
  refine lv_iload_n hx hb kdX8_bitCount_48 rfl (lv_at hl 0 rfl) ?_
  refine lv_bipush (v := 63) hx hb kdX8_bitCount_49 (by decide) ?_
  refine lv_iand hx hb kdX8_bitCount_51 ?_
  obtain rfl := Option.some.inj h
  exact W.iret (v := (x0_5 &&& (63 : Int32))) hx hb hr (fun t ht hW => ⟨⟨rfl, by rw [ht]; exact hP, va_K.moved hW.alike hK, hD⟩, hS.F ht⟩) hS.2.2 kdX8_bitCount_52

-- 471.ModuleKem.feed.lean.txt
abbrev kWX0_feed (cB cI cL cBB cII cSh : ClassId) (h_this : Nat) (a_this : Nat → Nat) (this_tapeSize : Int32) (f_this_tape : Nat → Int32) : va_W := [(h_this, koX0 a_this this_tapeSize), ((a_this 2), .inl (cB, 8192, .inl f_this_tape))]
def krX0_feed : Room := { frames := 6, cells := 1, slots := 6, locals := 90 }
set_option maxHeartbeats 4000000 in
set_option maxRecDepth 100000 in
theorem kcX0_feed (l : Launch) (hl9 : l.stackTraces = false) (D : va_G) (cB cI cL cBB cII cSh : ClassId) (h_this : Nat) (a_this : Nat → Nat) (sz : Nat) (p1 : Int32) (p2 : Int32) (p3 : Int32) (p4 : Int32) (p5 : Int32) (this_tapeSize : Int32) (f_this_tape : Nat → Int32) (out : (Int32 × Int32 × (Nat → Int32)) ⊕ (String × (Int32 × (Nat → Int32)))) (h : kFX0_feed p1 p2 p3 p4 p5 this_tapeSize f_this_tape = some out) : vx_Met l kyX0_feed kwX0_feed krX0_feed (kb_PX D kCl (kb_T cB cI cL cBB cII cSh) [.ref h_this, .int p1, .int p2, .int p3, .int p4, .int p5] (kWX0_feed cB cI cL cBB cII cSh h_this a_this this_tapeSize f_this_tape) sz) (kb_QX D kCl (kb_T cB cI cL cBB cII cSh) (va_A (kWX0_feed cB cI cL cBB cII cSh h_this a_this this_tapeSize f_this_tape) sz) out (fun o => (some (.int o.1))) (fun o => (kWX0_feed cB cI cL cBB cII cSh h_this a_this o.2.1 o.2.2))) (kb_XX D kCl (kb_T cB cI cL cBB cII cSh) (va_A (kWX0_feed cB cI cL cBB cII cSh h_this a_this this_tapeSize f_this_tape) sz) out (fun x => (kWX0_feed cB cI cL cBB cII cSh h_this a_this x.1 x.2))) 1 6 (va_A (kWX0_feed cB cI cL cBB cII cSh h_this a_this this_tapeSize f_this_tape) sz) := by
  refine vx_ofW (cc := prog_1_method_2_code) (maxL := 6) (ret := (some .int)) (by decide) rfl ?_
  intro p e s m args below meth c s₁ B hml hno hv
  obtain ⟨⟨rfl, hsz, hP, hK, hN, hD0⟩, hZ⟩ := hv
  have hx := B.exec
  have hb := B.bytes
  have hr := B.returns
  have hts0 := atoms_spec (ws := kwX0_feed) B.pre
  have hts : ∀ w ∈ kwA, w.before _ s = true := fun w h => hts0 w (List.mem_cons_of_mem _ h)
  have hown : s.vm.findClass kRX0 = some m.cls := findClass_of_methodNamed B.named
  have hlocks := B.notSynchronized
  subst hsz
  have hD := hD0.self (sz := s.heap.size)
  generalize hAe : va_A (kWX0_feed cB cI cL cBB cII cSh h_this a_this this_tapeSize f_this_tape) s.heap.size = A at hD hZ ⊢
  have hA : ∀ q : Nat, s.heap.size ≤ q → A q := fun q h => by rw [← hAe]; exact Or.inr h
  have hS : va_S A s.heap s.heap [] := va_S.rf
  have C0 : CallFix p m c prog_1_method_2_code 6 s _ kwA kRX0 := ⟨hx, hb, hml, hown, hts⟩
  have hl := lv_entry ([.ref h_this, .int p1, .int p2, .int p3, .int p4, .int p5]) (n := 6) (Nat.le_of_ble_eq_true rfl)
  rw [lg_entry_eq]
  generalize (lg_sl ([.ref h_this, .int p1, .int p2, .int p3, .int p4, .int p5]) ++ List.replicate (6 - (lg_sl ([.ref h_this, .int p1, .int p2, .int p3, .int p4, .int p5])).length) Slot.unset).toArray = ls at hl ⊢
  have hl : lv_has ls 6 [(0, .ref h_this), (1, .int p1), (2, .int p2), (3, .int p3), (4, .int p4), (5, .int p5)] := hl
  unfold kFX0_feed at h
  refine lv_aload_n hx hb kdX0_feed_0 rfl (lv_at hl 0 rfl) ?_
  refine va_get (ci := 0) (v := .int this_tapeSize) (C := kRX0) (T := kTX0) (N := 6) hx hb hts kinX0 hown hK hP 0 rfl rfl 3 (by decide) (hts _ km_162) (fun _ h9 => h9) rfl kdX0_feed_1 ?_
  refine lv_bipush (v := 20) hx hb kdX0_feed_4 (by decide) ?_
  refine lv_iadd hx hb kdX0_feed_6 ?_
  refine lv_sipush (v := 8192) hx hb kdX0_feed_7 (by decide) ?_
  refine lv_icmp_le (tgt := 23) hx hb kdX0_feed_10 (by decide) (fun c_1 => ?_) (fun c_1 => ?_)
  · have h := kb_b_t c_1 h
    refine lv_aload_n hx hb kdX0_feed_23 rfl (lv_at hl 0 rfl) ?_
    refine lv_iload_n hx hb kdX0_feed_24 rfl (lv_at hl 1 rfl) ?_
    obtain ⟨u_4, hu_4, h⟩ := kb_o_s h
    obtain ⟨w_2, f_3⟩ := u_4
    have hC := (show ([0, 1] : List Nat).map (fun i : Nat => (kWX0_feed cB cI cL cBB cII cSh h_this a_this this_tapeSize f_this_tape)[i]?) = List.map some (kWX0_putOnTape cB cI cL cBB cII cSh h_this a_this this_tapeSize f_this_tape) from rfl)
    have hPc := kb_Psub hP ([0, 1] : List Nat) hC
    have hDc := kb_Dsub hD ([0, 1] : List Nat) hC (by simp [kb_nd])
    refine kb_call0 (va_runV (As := [.int p1]) (rest := []) C0 (kcX0_putOnTape l D cB cI cL cBB cII cSh h_this a_this _ p1 this_tapeSize f_this_tape (w_2, f_3) hu_4) (cwV 1 hts (kb_gV km_255 km_257 kp_11 km_1 km_258) rfl rfl rfl (by decide +kernel) ⟨Nat.le_of_ble_eq_true rfl, Nat.le_of_ble_eq_true rfl⟩) ⟨kb_P_bl, va_recv hK hP (ci := 0) (q0 := 0) rfl rfl, (fun U hU hW => ⟨rfl, by rw [hU], by rw [hU]; exact hPc, va_K.moved hW.alike hK, kb_N_to hW hN, hDc.weaken (fun _ _ _ _ => trivial)⟩)⟩ rfl rfl hl.1 rfl (lv_room (Nat.le_of_ble_eq_true rfl)) kdX0_feed_25 ⟨Nat.le_of_ble_eq_true rfl, Nat.le_of_ble_eq_true rfl⟩) hP hD hS hA ([0, 1] : List Nat) hC rfl (fun H locs hP hD hS => ?_)
    have hP : va_P D kCl (kWX0_feed cB cI cL cBB cII cSh h_this a_this w_2 f_3) H := hP
    have hD : va_D A (kWX0_feed cB cI cL cBB cII cSh h_this a_this w_2 f_3) := hD
    refine lv_aload_n hx hb kdX0_feed_28 rfl (lv_at hl 0 rfl) ?_
    refine lv_iload_n hx hb kdX0_feed_29 rfl (lv_at hl 2 rfl) ?_
    obtain ⟨u_7, hu_7, h⟩ := kb_o_s h
    obtain ⟨w_5, f_6⟩ := u_7
    have hC := (show ([0, 1] : List Nat).map (fun i : Nat => (kWX0_feed cB cI cL cBB cII cSh h_this a_this w_2 f_3)[i]?) = List.map some (kWX0_putOnTape cB cI cL cBB cII cSh h_this a_this w_2 f_3) from rfl)
    have hPc := kb_Psub hP ([0, 1] : List Nat) hC
    have hDc := kb_Dsub hD ([0, 1] : List Nat) hC (by simp [kb_nd])
    refine kb_call0 (va_runV (As := [.int p2]) (rest := []) C0 (kcX0_putOnTape l D cB cI cL cBB cII cSh h_this a_this _ p2 w_2 f_3 (w_5, f_6) hu_7) (cwV 1 hts (kb_gV km_255 km_257 kp_11 km_1 km_258) rfl rfl rfl (by decide +kernel) ⟨Nat.le_of_ble_eq_true rfl, Nat.le_of_ble_eq_true rfl⟩) ⟨kb_P_bl, va_recv hK hP (ci := 0) (q0 := 0) rfl rfl, (fun U hU hW => ⟨rfl, by rw [hU], by rw [hU]; exact hPc, va_K.moved hW.alike hK, kb_N_to hW hN, hDc.weaken (fun _ _ _ _ => trivial)⟩)⟩ rfl rfl hl.1 rfl (lv_room (Nat.le_of_ble_eq_true rfl)) kdX0_feed_30 ⟨Nat.le_of_ble_eq_true rfl, Nat.le_of_ble_eq_true rfl⟩) hP hD hS hA ([0, 1] : List Nat) hC rfl (fun H locs hP hD hS => ?_)
    have hP : va_P D kCl (kWX0_feed cB cI cL cBB cII cSh h_this a_this w_5 f_6) H := hP
    have hD : va_D A (kWX0_feed cB cI cL cBB cII cSh h_this a_this w_5 f_6) := hD
    refine lv_aload_n hx hb kdX0_feed_33 rfl (lv_at hl 0 rfl) ?_
    refine lv_iload_n hx hb kdX0_feed_34 rfl (lv_at hl 3 rfl) ?_
    obtain ⟨u_10, hu_10, h⟩ := kb_o_s h
    obtain ⟨w_8, f_9⟩ := u_10
    have hC := (show ([0, 1] : List Nat).map (fun i : Nat => (kWX0_feed cB cI cL cBB cII cSh h_this a_this w_5 f_6)[i]?) = List.map some (kWX0_putOnTape cB cI cL cBB cII cSh h_this a_this w_5 f_6) from rfl)
    have hPc := kb_Psub hP ([0, 1] : List Nat) hC
    have hDc := kb_Dsub hD ([0, 1] : List Nat) hC (by simp [kb_nd])
    refine kb_call0 (va_runV (As := [.int p3]) (rest := []) C0 (kcX0_putOnTape l D cB cI cL cBB cII cSh h_this a_this _ p3 w_5 f_6 (w_8, f_9) hu_10) (cwV 1 hts (kb_gV km_255 km_257 kp_11 km_1 km_258) rfl rfl rfl (by decide +kernel) ⟨Nat.le_of_ble_eq_true rfl, Nat.le_of_ble_eq_true rfl⟩) ⟨kb_P_bl, va_recv hK hP (ci := 0) (q0 := 0) rfl rfl, (fun U hU hW => ⟨rfl, by rw [hU], by rw [hU]; exact hPc, va_K.moved hW.alike hK, kb_N_to hW hN, hDc.weaken (fun _ _ _ _ => trivial)⟩)⟩ rfl rfl hl.1 rfl (lv_room (Nat.le_of_ble_eq_true rfl)) kdX0_feed_35 ⟨Nat.le_of_ble_eq_true rfl, Nat.le_of_ble_eq_true rfl⟩) hP hD hS hA ([0, 1] : List Nat) hC rfl (fun H locs hP hD hS => ?_)
    have hP : va_P D kCl (kWX0_feed cB cI cL cBB cII cSh h_this a_this w_8 f_9) H := hP
    have hD : va_D A (kWX0_feed cB cI cL cBB cII cSh h_this a_this w_8 f_9) := hD
    refine lv_aload_n hx hb kdX0_feed_38 rfl (lv_at hl 0 rfl) ?_
    refine lv_iload hx hb kdX0_feed_39 (lv_at hl 4 rfl) ?_
    obtain ⟨u_13, hu_13, h⟩ := kb_o_s h
    obtain ⟨w_11, f_12⟩ := u_13
    have hC := (show ([0, 1] : List Nat).map (fun i : Nat => (kWX0_feed cB cI cL cBB cII cSh h_this a_this w_8 f_9)[i]?) = List.map some (kWX0_putOnTape cB cI cL cBB cII cSh h_this a_this w_8 f_9) from rfl)
    have hPc := kb_Psub hP ([0, 1] : List Nat) hC
    have hDc := kb_Dsub hD ([0, 1] : List Nat) hC (by simp [kb_nd])
    refine kb_call0 (va_runV (As := [.int p4]) (rest := []) C0 (kcX0_putOnTape l D cB cI cL cBB cII cSh h_this a_this _ p4 w_8 f_9 (w_11, f_12) hu_13) (cwV 1 hts (kb_gV km_255 km_257 kp_11 km_1 km_258) rfl rfl rfl (by decide +kernel) ⟨Nat.le_of_ble_eq_true rfl, Nat.le_of_ble_eq_true rfl⟩) ⟨kb_P_bl, va_recv hK hP (ci := 0) (q0 := 0) rfl rfl, (fun U hU hW => ⟨rfl, by rw [hU], by rw [hU]; exact hPc, va_K.moved hW.alike hK, kb_N_to hW hN, hDc.weaken (fun _ _ _ _ => trivial)⟩)⟩ rfl rfl hl.1 rfl (lv_room (Nat.le_of_ble_eq_true rfl)) kdX0_feed_41 ⟨Nat.le_of_ble_eq_true rfl, Nat.le_of_ble_eq_true rfl⟩) hP hD hS hA ([0, 1] : List Nat) hC rfl (fun H locs hP hD hS => ?_)
    have hP : va_P D kCl (kWX0_feed cB cI cL cBB cII cSh h_this a_this w_11 f_12) H := hP
    have hD : va_D A (kWX0_feed cB cI cL cBB cII cSh h_this a_this w_11 f_12) := hD
    refine lv_aload_n hx hb kdX0_feed_44 rfl (lv_at hl 0 rfl) ?_
    refine lv_iload hx hb kdX0_feed_45 (lv_at hl 5 rfl) ?_
    obtain ⟨u_16, hu_16, h⟩ := kb_o_s h
    obtain ⟨w_14, f_15⟩ := u_16
    have hC := (show ([0, 1] : List Nat).map (fun i : Nat => (kWX0_feed cB cI cL cBB cII cSh h_this a_this w_11 f_12)[i]?) = List.map some (kWX0_putOnTape cB cI cL cBB cII cSh h_this a_this w_11 f_12) from rfl)
    have hPc := kb_Psub hP ([0, 1] : List Nat) hC
    have hDc := kb_Dsub hD ([0, 1] : List Nat) hC (by simp [kb_nd])
    refine kb_call0 (va_runV (As := [.int p5]) (rest := []) C0 (kcX0_putOnTape l D cB cI cL cBB cII cSh h_this a_this _ p5 w_11 f_12 (w_14, f_15) hu_16) (cwV 1 hts (kb_gV km_255 km_257 kp_11 km_1 km_258) rfl rfl rfl (by decide +kernel) ⟨Nat.le_of_ble_eq_true rfl, Nat.le_of_ble_eq_true rfl⟩) ⟨kb_P_bl, va_recv hK hP (ci := 0) (q0 := 0) rfl rfl, (fun U hU hW => ⟨rfl, by rw [hU], by rw [hU]; exact hPc, va_K.moved hW.alike hK, kb_N_to hW hN, hDc.weaken (fun _ _ _ _ => trivial)⟩)⟩ rfl rfl hl.1 rfl (lv_room (Nat.le_of_ble_eq_true rfl)) kdX0_feed_47 ⟨Nat.le_of_ble_eq_true rfl, Nat.le_of_ble_eq_true rfl⟩) hP hD hS hA ([0, 1] : List Nat) hC rfl (fun H locs hP hD hS => ?_)
    have hP : va_P D kCl (kWX0_feed cB cI cL cBB cII cSh h_this a_this w_14 f_15) H := hP
    have hD : va_D A (kWX0_feed cB cI cL cBB cII cSh h_this a_this w_14 f_15) := hD
    refine lv_aload_n hx hb kdX0_feed_50 rfl (lv_at hl 0 rfl) ?_
    refine va_get (ci := 0) (v := .int w_14) (C := kRX0) (T := kTX0) (N := 6) hx hb hts kinX0 hown hK hP 0 rfl rfl 3 (by decide) (hts _ km_162) (fun _ h9 => h9) rfl kdX0_feed_51 ?_
    obtain rfl := Option.some.inj h
    refine vx_ret ?_
    refine W.widen (k := 1) (n := 6) (by decide) (by decide) ?_
    exact W.iret (v := w_14) hx hb hr (fun t ht hW => ⟨_, rfl, ⟨rfl, by rw [ht]; exact hP, va_K.moved hW.alike hK, hD⟩, hS.F ht⟩) hS.2.2 kdX0_feed_54
  · have h := kb_b_f c_1 h
    obtain rfl := Option.some.inj h
    obtain ⟨sa, hZs⟩ := hZ.2.2 (kRX0, 44, "the tape has no room for 20 bytes more") (by simp [kb_STR])
    exact vx_throwS (own := kRX0) (cls := "java/lang/IndexOutOfBoundsException") (names := ["java/lang/RuntimeException", "java/lang/Exception"]) hx hb hl9 hown (by decide +kernel) (by decide +kernel) (hts _ km_186) (hts _ km_10) hZs (kb_hat hts hN (by decide +kernel)) (by decide +kernel) hZ.1 hZ.2.1 hS (hl.1.trans hml.symm) kdX0_feed_13 kdX0_feed_16 kdX0_feed_17 kdX0_feed_19 kdX0_feed_22 (fun x hx9 => (hno x hx9).elim) (Nat.le_of_ble_eq_true rfl) (Nat.le_of_ble_eq_true rfl) (by decide) (by decide) hlocks (fun t ha hsz hk => ⟨_, rfl, hP.kept (fun k q hq => hk q.1 (hP k q hq).lt), va_K.moved ha hK, hD, Nat.le_trans hS.1 hsz, fun q h1 h2 => (hk q (Nat.lt_of_lt_of_le h1 hS.1)).trans (hS.2.1 q h1 h2)⟩) hS.2.2 (by decide) (by decide)

-- 472.ModuleKem.end.lean.txt
abbrev kWX0_end (cB cI cL cBB cII cSh : ClassId) (h_this : Nat) (a_this : Nat → Nat) (r_this_slots : Nat → Nat) (this_tapeSize : Int32) (f_this_sizes : Nat → Int32) (f_this_tape : Nat → Int32) (m_this_slots : Nat → Nat → Int32) : va_W := ([(h_this, koX0 a_this this_tapeSize), ((a_this 0), .inl (cBB, 8, .inr (.inr (.inr (.inr (kb_rf r_this_slots 8)))))), ((a_this 1), .inl (cI, 8, .inl f_this_sizes)), ((a_this 2), .inl (cB, 8192, .inl f_this_tape))] ++ (kb_gw r_this_slots 8 (fun i => .inl (cB, 8192, .inl (m_this_slots i))) ++ []))
def krX0_end : Room := { frames := 7, cells := 3, slots := 18, locals := 110 }
set_option maxHeartbeats 4000000 in
set_option maxRecDepth 100000 in
theorem kcX0_end (l : Launch) (hl9 : l.stackTraces = false) (D : va_G) (cB cI cL cBB cII cSh : ClassId) (h_this : Nat) (a_this r_this_slots : Nat → Nat) (sz : Nat) (p1 : Int32) (p2 : Int32) (this_tapeSize : Int32) (f_this_sizes : Nat → Int32) (f_this_tape : Nat → Int32) (m_this_slots : Nat → Nat → Int32) (out : (Int32 × Int32 × (Nat → Int32) × (Nat → Nat → Int32)) ⊕ (String × (Int32 × (Nat → Int32) × (Nat → Nat → Int32)))) (h : kFX0_end p1 p2 this_tapeSize f_this_sizes f_this_tape m_this_slots = some out) : vx_Met l kyX0_end kwX0_end krX0_end (kb_PX D kCl (kb_T cB cI cL cBB cII cSh) [.ref h_this, .int p1, .int p2] (kWX0_end cB cI cL cBB cII cSh h_this a_this r_this_slots this_tapeSize f_this_sizes f_this_tape m_this_slots) sz) (kb_QX D kCl (kb_T cB cI cL cBB cII cSh) (va_A (kWX0_end cB cI cL cBB cII cSh h_this a_this r_this_slots this_tapeSize f_this_sizes f_this_tape m_this_slots) sz) out (fun o => (some (.int o.1))) (fun o => (kWX0_end cB cI cL cBB cII cSh h_this a_this r_this_slots o.2.1 o.2.2.1 f_this_tape o.2.2.2))) (kb_XX D kCl (kb_T cB cI cL cBB cII cSh) (va_A (kWX0_end cB cI cL cBB cII cSh h_this a_this r_this_slots this_tapeSize f_this_sizes f_this_tape m_this_slots) sz) out (fun x => (kWX0_end cB cI cL cBB cII cSh h_this a_this r_this_slots x.1 x.2.1 f_this_tape x.2.2))) 3 18 (va_A (kWX0_end cB cI cL cBB cII cSh h_this a_this r_this_slots this_tapeSize f_this_sizes f_this_tape m_this_slots) sz) := by
  refine vx_ofW (cc := prog_1_method_3_code) (maxL := 3) (ret := (some .int)) (by decide) rfl ?_
  intro p e s m args below meth c s₁ B hml hno hv
  obtain ⟨⟨rfl, hsz, hP, hK, hN, hD0⟩, hZ⟩ := hv
  have hx := B.exec
  have hb := B.bytes
  have hr := B.returns
  have hts0 := atoms_spec (ws := kwX0_end) B.pre
  have hts : ∀ w ∈ kwA, w.before _ s = true := fun w h => hts0 w (List.mem_cons_of_mem _ h)
  have hown : s.vm.findClass kRX0 = some m.cls := findClass_of_methodNamed B.named
  have hlocks := B.notSynchronized
  subst hsz
  have hD := hD0.self (sz := s.heap.size)
  generalize hAe : va_A (kWX0_end cB cI cL cBB cII cSh h_this a_this r_this_slots this_tapeSize f_this_sizes f_this_tape m_this_slots) s.heap.size = A at hD hZ ⊢
  have hA : ∀ q : Nat, s.heap.size ≤ q → A q := fun q h => by rw [← hAe]; exact Or.inr h
  have hS : va_S A s.heap s.heap [] := va_S.rf
  have C0 : CallFix p m c prog_1_method_3_code 3 s _ kwA kRX0 := ⟨hx, hb, hml, hown, hts⟩
  have hl := lv_entry ([.ref h_this, .int p1, .int p2]) (n := 3) (Nat.le_of_ble_eq_true rfl)
  rw [lg_entry_eq]
  generalize (lg_sl ([.ref h_this, .int p1, .int p2]) ++ List.replicate (3 - (lg_sl ([.ref h_this, .int p1, .int p2])).length) Slot.unset).toArray = ls at hl ⊢
  have hl : lv_has ls 3 [(0, .ref h_this), (1, .int p1), (2, .int p2)] := hl
  unfold kFX0_end at h
  refine lv_iload_n hx hb kdX0_end_0 rfl (lv_at hl 1 rfl) ?_
  obtain ⟨u_1, hu_1, h⟩ := kb_o_s h
  have hC := (show ([] : List Nat).map (fun i : Nat => (kWX0_end cB cI cL cBB cII cSh h_this a_this r_this_slots this_tapeSize f_this_sizes f_this_tape m_this_slots)[i]?) = List.map some (kWX0_checkSlot cB cI cL cBB cII cSh) from rfl)
  have hPc := kb_Psub hP ([] : List Nat) hC
  have hDc := kb_Dsub hD ([] : List Nat) hC (by simp [kb_nd])
  have hC2 : ([] : List Nat).map (fun i : Nat => (kWX0_end cB cI cL cBB cII cSh h_this a_this r_this_slots this_tapeSize f_this_sizes f_this_tape m_this_slots)[i]?) = (kb_pick [] (kWX0_checkSlot cB cI cL cBB cII cSh)).map some := rfl
  refine kb_callx (vx_runS (As := [.int p1]) (rest := []) C0 (kcX0_checkSlot l hl9 D cB cI cL cBB cII cSh  _ p1 u_1 hu_1) (va_cwS 1 hts (kb_gS km_267 km_268 km_1 km_269) rfl rfl rfl (by decide +kernel) ⟨Nat.le_of_ble_eq_true rfl, Nat.le_of_ble_eq_true rfl⟩) ⟨kb_PX_bl, (fun U hU hW => ⟨⟨rfl, by rw [hU], by rw [hU]; exact hPc, va_K.moved hW.alike hK, kb_N_to hW hN, hDc.weaken (fun _ _ _ _ => trivial)⟩, kb_Z_to hZ hS (va_free (wc := (kWX0_checkSlot cB cI cL cBB cII cSh)) hD hS hA ([] : List Nat) hC) hU hW⟩)⟩ rfl rfl hl.1 rfl (lv_room (Nat.le_of_ble_eq_true rfl)) kdX0_end_1 ⟨Nat.le_of_ble_eq_true rfl, Nat.le_of_ble_eq_true rfl⟩) hP hD hS hA [] [] [] hC2 rfl rfl (by simp [kb_nd]) (fun _ => rfl) (fun _ => rfl) (fun x ce q H locs eu hP hD hS hce hcv hcl => ?_) (fun o H locs eu hP hD hS => ?_)
  · subst eu
    have h := kb_s_ir h
    have hP : va_P D kCl (kWX0_end cB cI cL cBB cII cSh h_this a_this r_this_slots this_tapeSize f_this_sizes f_this_tape m_this_slots) H := hP
    have hD : va_D A (kWX0_end cB cI cL cBB cII cSh h_this a_this r_this_slots this_tapeSize f_this_sizes f_this_tape m_this_slots) := hD
    obtain rfl := Option.some.inj h
    exact vx_out (E := x.1) (fun x hx9 => (hno x hx9).elim) hlocks hce hcv hcl (fun t ht ha => ⟨_, rfl, by rw [ht]; exact hP, va_K.moved ha hK, hD, hS.F ht⟩) hS.2.2 (by decide) (by decide)
  · subst eu
    have h := kb_s_il h
    have hP : va_P D kCl (kWX0_end cB cI cL cBB cII cSh h_this a_this r_this_slots this_tapeSize f_this_sizes f_this_tape m_this_slots) H := hP
    have hD : va_D A (kWX0_end cB cI cL cBB cII cSh h_this a_this r_this_slots this_tapeSize f_this_sizes f_this_tape m_this_slots) := hD
    refine lv_iload_n hx hb kdX0_end_4 rfl (lv_at hl 2 rfl) ?_
    obtain ⟨u_2, hu_2, h⟩ := kb_o_s h
    have hC := (show ([] : List Nat).map (fun i : Nat => (kWX0_end cB cI cL cBB cII cSh h_this a_this r_this_slots this_tapeSize f_this_sizes f_this_tape m_this_slots)[i]?) = List.map some (kWX0_checkSize cB cI cL cBB cII cSh) from rfl)
    have hPc := kb_Psub hP ([] : List Nat) hC
    have hDc := kb_Dsub hD ([] : List Nat) hC (by simp [kb_nd])
    have hC2 : ([] : List Nat).map (fun i : Nat => (kWX0_end cB cI cL cBB cII cSh h_this a_this r_this_slots this_tapeSize f_this_sizes f_this_tape m_this_slots)[i]?) = (kb_pick [] (kWX0_checkSize cB cI cL cBB cII cSh)).map some := rfl
    refine kb_callx (vx_runS (As := [.int p2]) (rest := []) C0 (kcX0_checkSize l hl9 D cB cI cL cBB cII cSh  _ p2 u_2 hu_2) (va_cwS 1 hts (kb_gS km_286 km_287 km_1 km_288) rfl rfl rfl (by decide +kernel) ⟨Nat.le_of_ble_eq_true rfl, Nat.le_of_ble_eq_true rfl⟩) ⟨kb_PX_bl, (fun U hU hW => ⟨⟨rfl, by rw [hU], by rw [hU]; exact hPc, va_K.moved hW.alike hK, kb_N_to hW hN, hDc.weaken (fun _ _ _ _ => trivial)⟩, kb_Z_to hZ hS (va_free (wc := (kWX0_checkSize cB cI cL cBB cII cSh)) hD hS hA ([] : List Nat) hC) hU hW⟩)⟩ rfl rfl hl.1 rfl (lv_room (Nat.le_of_ble_eq_true rfl)) kdX0_end_5 ⟨Nat.le_of_ble_eq_true rfl, Nat.le_of_ble_eq_true rfl⟩) hP hD hS hA [] [] [] hC2 rfl rfl (by simp [kb_nd]) (fun _ => rfl) (fun _ => rfl) (fun x ce q H locs eu hP hD hS hce hcv hcl => ?_) (fun o H locs eu hP hD hS => ?_)
    · subst eu
      have h := kb_s_ir h
      have hP : va_P D kCl (kWX0_end cB cI cL cBB cII cSh h_this a_this r_this_slots this_tapeSize f_this_sizes f_this_tape m_this_slots) H := hP
      have hD : va_D A (kWX0_end cB cI cL cBB cII cSh h_this a_this r_this_slots this_tapeSize f_this_sizes f_this_tape m_this_slots) := hD
      obtain rfl := Option.some.inj h
      exact vx_out (E := x.1) (fun x hx9 => (hno x hx9).elim) hlocks hce hcv hcl (fun t ht ha => ⟨_, rfl, by rw [ht]; exact hP, va_K.moved ha hK, hD, hS.F ht⟩) hS.2.2 (by decide) (by decide)
    · subst eu
      have h := kb_s_il h
      have hP : va_P D kCl (kWX0_end cB cI cL cBB cII cSh h_this a_this r_this_slots this_tapeSize f_this_sizes f_this_tape m_this_slots) H := hP
      have hD : va_D A (kWX0_end cB cI cL cBB cII cSh h_this a_this r_this_slots this_tapeSize f_this_sizes f_this_tape m_this_slots) := hD
      refine lv_iload_n hx hb kdX0_end_8 rfl (lv_at hl 2 rfl) ?_
      refine lv_aload_n hx hb kdX0_end_9 rfl (lv_at hl 0 rfl) ?_
      refine va_get (ci := 0) (v := .int this_tapeSize) (C := kRX0) (T := kTX0) (N := 6) hx hb hts kinX0 hown hK hP 0 rfl rfl 3 (by decide) (hts _ km_162) (fun _ h9 => h9) rfl kdX0_end_10 ?_
      refine lv_icmp_le (tgt := 26) hx hb kdX0_end_13 (by decide) (fun c_3 => ?_) (fun c_3 => ?_)
      · have h := kb_b_t c_3 h
        refine lv_aload_n hx hb kdX0_end_26 rfl (lv_at hl 0 rfl) ?_
        refine va_get (ci := 0) (v := .ref (a_this 2)) (C := kRX0) (T := kTX0) (N := 6) hx hb hts kinX0 hown hK hP 0 rfl rfl 2 (by decide) (hts _ km_161) (fun _ h9 => h9) rfl kdX0_end_27 ?_
        refine lv_iconst (v := 0) hx hb kdX0_end_30 (by decide) ?_
        refine lv_aload_n hx hb kdX0_end_31 rfl (lv_at hl 0 rfl) ?_
        refine va_get (ci := 0) (v := .ref (a_this 0)) (C := kRX0) (T := kTX0) (N := 6) hx hb hts kinX0 hown hK hP 0 rfl rfl 0 (by decide) (hts _ km_159) (fun _ h9 => h9) rfl kdX0_end_32 ?_
        refine lv_iload_n hx hb kdX0_end_35 rfl (lv_at hl 1 rfl) ?_
        obtain ⟨g_4, h⟩ := kb_g_s h
        refine kb_aald (j := p1.toNatClampNeg) hx hb hK hP 1 3 rfl rfl rfl rfl (kb_in_v g_4) kdX0_end_36 ?_
        refine lv_iconst (v := 0) hx hb kdX0_end_37 (by decide) ?_
        refine lv_iload_n hx hb kdX0_end_38 rfl (lv_at hl 2 rfl) ?_
        obtain ⟨g_5, h⟩ := kb_g_s h
        obtain ⟨g_6, h⟩ := kb_g_s h
        have gc_7 := kb_cp_s g_5
        refine va_copyi hx hb (hml.trans hl.1.symm) hown (hts _ km_291) (hts _ km_293) (hts _ km_292) (hts _ km_12) hK hP hD hS 3 (4 + p1.toNatClampNeg) 0 0 rfl (kb_pl_r rfl (kb_pl_l (kb_gw_at (kb_in_lt g_4)))) rfl rfl rfl gc_7.1 gc_7.2.1 gc_7.2.2.1 gc_7.2.2.2.1 gc_7.2.2.2.2 (kb_ft_s g_6) (Nat.le_of_ble_eq_true rfl) (Nat.le_of_ble_eq_true rfl) kdX0_end_39 (fun H locs hP hD hS => ?_)
        unfold kWX0_end at hP; rw [kb_set_r (n := 4) (by rfl), kb_set_l (by rw [kb_gw_len]; exact (kb_in_lt g_4)), kb_gw_st (kb_in_lt g_4), kb_up_c (fun z => .inl (cB, 8192, .inl z))] at hP
        unfold kWX0_end at hD; rw [kb_set_r (n := 4) (by rfl), kb_set_l (by rw [kb_gw_len]; exact (kb_in_lt g_4)), kb_gw_st (kb_in_lt g_4), kb_up_c (fun z => .inl (cB, 8192, .inl z))] at hD
        obtain ⟨m_8, em_8⟩ : ∃ y, y = va_up m_this_slots p1.toNatClampNeg (va_cpy f_this_tape (m_this_slots p1.toNatClampNeg) (0 : Int32).toNatClampNeg (0 : Int32).toNatClampNeg p2.toNatClampNeg) := ⟨_, rfl⟩
        have h := kb_n_s em_8 h
        have hP : va_P D kCl (kWX0_end cB cI cL cBB cII cSh h_this a_this r_this_slots this_tapeSize f_this_sizes f_this_tape m_8) H := by rw [em_8]; exact hP
        have hD : va_D A (kWX0_end cB cI cL cBB cII cSh h_this a_this r_this_slots this_tapeSize f_this_sizes f_this_tape m_8) := by rw [em_8]; exact hD
        refine lv_aload_n hx hb kdX0_end_42 rfl (lv_at hl 0 rfl) ?_
        refine va_get (ci := 0) (v := .ref (a_this 1)) (C := kRX0) (T := kTX0) (N := 6) hx hb hts kinX0 hown hK hP 0 rfl rfl 1 (by decide) (hts _ km_160) (fun _ h9 => h9) rfl kdX0_end_43 ?_
        refine lv_iload_n hx hb kdX0_end_46 rfl (lv_at hl 1 rfl) ?_
        refine lv_iload_n hx hb kdX0_end_47 rfl (lv_at hl 2 rfl) ?_
        obtain ⟨g_9, h⟩ := kb_g_s h
        refine va_iast hx hb hK hP hD hS 2 1 rfl rfl (kb_in_v g_9) kdX0_end_48 (fun H locs hP hD hS => ?_)
        obtain ⟨f_10, ef_10⟩ : ∃ y, y = upd f_this_sizes p1.toNatClampNeg p2 := ⟨_, rfl⟩
        have h := kb_n_s ef_10 h
        have hP : va_P D kCl (kWX0_end cB cI cL cBB cII cSh h_this a_this r_this_slots this_tapeSize f_10 f_this_tape m_8) H := by rw [ef_10]; exact hP
        have hD : va_D A (kWX0_end cB cI cL cBB cII cSh h_this a_this r_this_slots this_tapeSize f_10 f_this_tape m_8) := by rw [ef_10]; exact hD
        refine lv_aload_n hx hb kdX0_end_49 rfl (lv_at hl 0 rfl) ?_
        refine lv_iconst (v := 0) hx hb kdX0_end_50 (by decide) ?_
        refine va_put (ci := 0) (v := .int (0 : Int32)) (C := kRX0) (T := kTX0) (N := 6) hx hb hts kinX0 ktyX0 ktyX0_ok knX0 hown hK hP hD hS 0 rfl rfl 3 (by decide) (hts _ km_162) (fun _ h9 => h9) rfl (ktyX0_ok 3 (by decide)) rfl rfl (Nat.le_of_ble_eq_true rfl) kdX0_end_51 (fun H locs hP hD hS => ?_)
        have hP : va_P D kCl (kWX0_end cB cI cL cBB cII cSh h_this a_this r_this_slots (0 : Int32) f_10 f_this_tape m_8) H := hP
        have hD : va_D A (kWX0_end cB cI cL cBB cII cSh h_this a_this r_this_slots (0 : Int32) f_10 f_this_tape m_8) := hD
        refine lv_iload_n hx hb kdX0_end_54 rfl (lv_at hl 2 rfl) ?_
        obtain rfl := Option.some.inj h
        refine vx_ret ?_
        refine W.widen (k := 3) (n := 18) (by decide) (by decide) ?_
        exact W.iret (v := p2) hx hb hr (fun t ht hW => ⟨_, rfl, ⟨rfl, by rw [ht]; exact hP, va_K.moved hW.alike hK, hD⟩, hS.F ht⟩) hS.2.2 kdX0_end_55
      · have h := kb_b_f c_3 h
        obtain rfl := Option.some.inj h
        obtain ⟨sa, hZs⟩ := hZ.2.2 (kRX0, 59, "the tape has fewer bytes") (by simp [kb_STR])
        exact vx_throwS (own := kRX0) (cls := "java/lang/IndexOutOfBoundsException") (names := ["java/lang/RuntimeException", "java/lang/Exception"]) hx hb hl9 hown (by decide +kernel) (by decide +kernel) (hts _ km_186) (hts _ km_10) hZs (kb_hat hts hN (by decide +kernel)) (by decide +kernel) hZ.1 hZ.2.1 hS (hl.1.trans hml.symm) kdX0_end_16 kdX0_end_19 kdX0_end_20 kdX0_end_22 kdX0_end_25 (fun x hx9 => (hno x hx9).elim) (Nat.le_of_ble_eq_true rfl) (Nat.le_of_ble_eq_true rfl) (by decide) (by decide) hlocks (fun t ha hsz hk => ⟨_, rfl, hP.kept (fun k q hq => hk q.1 (hP k q hq).lt), va_K.moved ha hK, hD, Nat.le_trans hS.1 hsz, fun q h1 h2 => (hk q (Nat.lt_of_lt_of_le h1 hS.1)).trans (hS.2.1 q h1 h2)⟩) hS.2.2 (by decide) (by decide)

-- 473.ModuleKem.copy.lean.txt
abbrev kWX0_copy (cB cI cL cBB cII cSh : ClassId) (h_this : Nat) (a_this : Nat → Nat) (r_this_slots : Nat → Nat) (this_tapeSize : Int32) (f_this_sizes : Nat → Int32) (m_this_slots : Nat → Nat → Int32) : va_W := ([(h_this, koX0 a_this this_tapeSize), ((a_this 0), .inl (cBB, 8, .inr (.inr (.inr (.inr (kb_rf r_this_slots 8)))))), ((a_this 1), .inl (cI, 8, .inl f_this_sizes))] ++ (kb_gw r_this_slots 8 (fun i => .inl (cB, 8192, .inl (m_this_slots i))) ++ []))
def krX0_copy : Room := { frames := 7, cells := 2, slots := 12, locals := 110 }
set_option maxHeartbeats 4000000 in
set_option maxRecDepth 100000 in
theorem kcX0_copy (l : Launch) (hl9 : l.stackTraces = false) (D : va_G) (cB cI cL cBB cII cSh : ClassId) (h_this : Nat) (a_this r_this_slots : Nat → Nat) (sz : Nat) (p1 : Int32) (p2 : Int32) (this_tapeSize : Int32) (f_this_sizes : Nat → Int32) (m_this_slots : Nat → Nat → Int32) (out : (Int32 × (Nat → Int32) × (Nat → Nat → Int32)) ⊕ (String × ((Nat → Int32) × (Nat → Nat → Int32)))) (h : kFX0_copy p1 p2 f_this_sizes m_this_slots = some out) : vx_Met l kyX0_copy kwX0_copy krX0_copy (kb_PX D kCl (kb_T cB cI cL cBB cII cSh) [.ref h_this, .int p1, .int p2] (kWX0_copy cB cI cL cBB cII cSh h_this a_this r_this_slots this_tapeSize f_this_sizes m_this_slots) sz) (kb_QX D kCl (kb_T cB cI cL cBB cII cSh) (va_A (kWX0_copy cB cI cL cBB cII cSh h_this a_this r_this_slots this_tapeSize f_this_sizes m_this_slots) sz) out (fun o => (some (.int o.1))) (fun o => (kWX0_copy cB cI cL cBB cII cSh h_this a_this r_this_slots this_tapeSize o.2.1 o.2.2))) (kb_XX D kCl (kb_T cB cI cL cBB cII cSh) (va_A (kWX0_copy cB cI cL cBB cII cSh h_this a_this r_this_slots this_tapeSize f_this_sizes m_this_slots) sz) out (fun x => (kWX0_copy cB cI cL cBB cII cSh h_this a_this r_this_slots this_tapeSize x.1 x.2))) 2 12 (va_A (kWX0_copy cB cI cL cBB cII cSh h_this a_this r_this_slots this_tapeSize f_this_sizes m_this_slots) sz) := by
  refine vx_ofW (cc := prog_1_method_4_code) (maxL := 3) (ret := (some .int)) (by decide) rfl ?_
  intro p e s m args below meth c s₁ B hml hno hv
  obtain ⟨⟨rfl, hsz, hP, hK, hN, hD0⟩, hZ⟩ := hv
  have hx := B.exec
  have hb := B.bytes
  have hr := B.returns
  have hts0 := atoms_spec (ws := kwX0_copy) B.pre
  have hts : ∀ w ∈ kwA, w.before _ s = true := fun w h => hts0 w (List.mem_cons_of_mem _ h)
  have hown : s.vm.findClass kRX0 = some m.cls := findClass_of_methodNamed B.named
  have hlocks := B.notSynchronized
  subst hsz
  have hD := hD0.self (sz := s.heap.size)
  generalize hAe : va_A (kWX0_copy cB cI cL cBB cII cSh h_this a_this r_this_slots this_tapeSize f_this_sizes m_this_slots) s.heap.size = A at hD hZ ⊢
  have hA : ∀ q : Nat, s.heap.size ≤ q → A q := fun q h => by rw [← hAe]; exact Or.inr h
  have hS : va_S A s.heap s.heap [] := va_S.rf
  have C0 : CallFix p m c prog_1_method_4_code 3 s _ kwA kRX0 := ⟨hx, hb, hml, hown, hts⟩
  have hl := lv_entry ([.ref h_this, .int p1, .int p2]) (n := 3) (Nat.le_of_ble_eq_true rfl)
  rw [lg_entry_eq]
  generalize (lg_sl ([.ref h_this, .int p1, .int p2]) ++ List.replicate (3 - (lg_sl ([.ref h_this, .int p1, .int p2])).length) Slot.unset).toArray = ls at hl ⊢
  have hl : lv_has ls 3 [(0, .ref h_this), (1, .int p1), (2, .int p2)] := hl
  unfold kFX0_copy at h
  refine lv_iload_n hx hb kdX0_copy_0 rfl (lv_at hl 1 rfl) ?_
  obtain ⟨u_1, hu_1, h⟩ := kb_o_s h
  have hC := (show ([] : List Nat).map (fun i : Nat => (kWX0_copy cB cI cL cBB cII cSh h_this a_this r_this_slots this_tapeSize f_this_sizes m_this_slots)[i]?) = List.map some (kWX0_checkSlot cB cI cL cBB cII cSh) from rfl)
  have hPc := kb_Psub hP ([] : List Nat) hC
  have hDc := kb_Dsub hD ([] : List Nat) hC (by simp [kb_nd])
  have hC2 : ([] : List Nat).map (fun i : Nat => (kWX0_copy cB cI cL cBB cII cSh h_this a_this r_this_slots this_tapeSize f_this_sizes m_this_slots)[i]?) = (kb_pick [] (kWX0_checkSlot cB cI cL cBB cII cSh)).map some := rfl
  refine kb_callx (vx_runS (As := [.int p1]) (rest := []) C0 (kcX0_checkSlot l hl9 D cB cI cL cBB cII cSh  _ p1 u_1 hu_1) (va_cwS 1 hts (kb_gS km_267 km_268 km_1 km_269) rfl rfl rfl (by decide +kernel) ⟨Nat.le_of_ble_eq_true rfl, Nat.le_of_ble_eq_true rfl⟩) ⟨kb_PX_bl, (fun U hU hW => ⟨⟨rfl, by rw [hU], by rw [hU]; exact hPc, va_K.moved hW.alike hK, kb_N_to hW hN, hDc.weaken (fun _ _ _ _ => trivial)⟩, kb_Z_to hZ hS (va_free (wc := (kWX0_checkSlot cB cI cL cBB cII cSh)) hD hS hA ([] : List Nat) hC) hU hW⟩)⟩ rfl rfl hl.1 rfl (lv_room (Nat.le_of_ble_eq_true rfl)) kdX0_copy_1 ⟨Nat.le_of_ble_eq_true rfl, Nat.le_of_ble_eq_true rfl⟩) hP hD hS hA [] [] [] hC2 rfl rfl (by simp [kb_nd]) (fun _ => rfl) (fun _ => rfl) (fun x ce q H locs eu hP hD hS hce hcv hcl => ?_) (fun o H locs eu hP hD hS => ?_)
  · subst eu
    have h := kb_s_ir h
    have hP : va_P D kCl (kWX0_copy cB cI cL cBB cII cSh h_this a_this r_this_slots this_tapeSize f_this_sizes m_this_slots) H := hP
    have hD : va_D A (kWX0_copy cB cI cL cBB cII cSh h_this a_this r_this_slots this_tapeSize f_this_sizes m_this_slots) := hD
    obtain rfl := Option.some.inj h
    exact vx_out (E := x.1) (fun x hx9 => (hno x hx9).elim) hlocks hce hcv hcl (fun t ht ha => ⟨_, rfl, by rw [ht]; exact hP, va_K.moved ha hK, hD, hS.F ht⟩) hS.2.2 (by decide) (by decide)
  · subst eu
    have h := kb_s_il h
    have hP : va_P D kCl (kWX0_copy cB cI cL cBB cII cSh h_this a_this r_this_slots this_tapeSize f_this_sizes m_this_slots) H := hP
    have hD : va_D A (kWX0_copy cB cI cL cBB cII cSh h_this a_this r_this_slots this_tapeSize f_this_sizes m_this_slots) := hD
    refine lv_iload_n hx hb kdX0_copy_4 rfl (lv_at hl 2 rfl) ?_
    obtain ⟨u_2, hu_2, h⟩ := kb_o_s h
    have hC := (show ([] : List Nat).map (fun i : Nat => (kWX0_copy cB cI cL cBB cII cSh h_this a_this r_this_slots this_tapeSize f_this_sizes m_this_slots)[i]?) = List.map some (kWX0_checkSlot cB cI cL cBB cII cSh) from rfl)
    have hPc := kb_Psub hP ([] : List Nat) hC
    have hDc := kb_Dsub hD ([] : List Nat) hC (by simp [kb_nd])
    have hC2 : ([] : List Nat).map (fun i : Nat => (kWX0_copy cB cI cL cBB cII cSh h_this a_this r_this_slots this_tapeSize f_this_sizes m_this_slots)[i]?) = (kb_pick [] (kWX0_checkSlot cB cI cL cBB cII cSh)).map some := rfl
    refine kb_callx (vx_runS (As := [.int p2]) (rest := []) C0 (kcX0_checkSlot l hl9 D cB cI cL cBB cII cSh  _ p2 u_2 hu_2) (va_cwS 1 hts (kb_gS km_267 km_268 km_1 km_269) rfl rfl rfl (by decide +kernel) ⟨Nat.le_of_ble_eq_true rfl, Nat.le_of_ble_eq_true rfl⟩) ⟨kb_PX_bl, (fun U hU hW => ⟨⟨rfl, by rw [hU], by rw [hU]; exact hPc, va_K.moved hW.alike hK, kb_N_to hW hN, hDc.weaken (fun _ _ _ _ => trivial)⟩, kb_Z_to hZ hS (va_free (wc := (kWX0_checkSlot cB cI cL cBB cII cSh)) hD hS hA ([] : List Nat) hC) hU hW⟩)⟩ rfl rfl hl.1 rfl (lv_room (Nat.le_of_ble_eq_true rfl)) kdX0_copy_5 ⟨Nat.le_of_ble_eq_true rfl, Nat.le_of_ble_eq_true rfl⟩) hP hD hS hA [] [] [] hC2 rfl rfl (by simp [kb_nd]) (fun _ => rfl) (fun _ => rfl) (fun x ce q H locs eu hP hD hS hce hcv hcl => ?_) (fun o H locs eu hP hD hS => ?_)
    · subst eu
      have h := kb_s_ir h
      have hP : va_P D kCl (kWX0_copy cB cI cL cBB cII cSh h_this a_this r_this_slots this_tapeSize f_this_sizes m_this_slots) H := hP
      have hD : va_D A (kWX0_copy cB cI cL cBB cII cSh h_this a_this r_this_slots this_tapeSize f_this_sizes m_this_slots) := hD
      obtain rfl := Option.some.inj h
      exact vx_out (E := x.1) (fun x hx9 => (hno x hx9).elim) hlocks hce hcv hcl (fun t ht ha => ⟨_, rfl, by rw [ht]; exact hP, va_K.moved ha hK, hD, hS.F ht⟩) hS.2.2 (by decide) (by decide)
    · subst eu
      have h := kb_s_il h
      have hP : va_P D kCl (kWX0_copy cB cI cL cBB cII cSh h_this a_this r_this_slots this_tapeSize f_this_sizes m_this_slots) H := hP
      have hD : va_D A (kWX0_copy cB cI cL cBB cII cSh h_this a_this r_this_slots this_tapeSize f_this_sizes m_this_slots) := hD
      refine lv_aload_n hx hb kdX0_copy_8 rfl (lv_at hl 0 rfl) ?_
      refine va_get (ci := 0) (v := .ref (a_this 0)) (C := kRX0) (T := kTX0) (N := 6) hx hb hts kinX0 hown hK hP 0 rfl rfl 0 (by decide) (hts _ km_159) (fun _ h9 => h9) rfl kdX0_copy_9 ?_
      refine lv_iload_n hx hb kdX0_copy_12 rfl (lv_at hl 1 rfl) ?_
      obtain ⟨g_3, h⟩ := kb_g_s h
      refine kb_aald (j := p1.toNatClampNeg) hx hb hK hP 1 3 rfl rfl rfl rfl (kb_in_v g_3) kdX0_copy_13 ?_
      refine lv_iconst (v := 0) hx hb kdX0_copy_14 (by decide) ?_
      refine lv_aload_n hx hb kdX0_copy_15 rfl (lv_at hl 0 rfl) ?_
      refine va_get (ci := 0) (v := .ref (a_this 0)) (C := kRX0) (T := kTX0) (N := 6) hx hb hts kinX0 hown hK hP 0 rfl rfl 0 (by decide) (hts _ km_159) (fun _ h9 => h9) rfl kdX0_copy_16 ?_
      refine lv_iload_n hx hb kdX0_copy_19 rfl (lv_at hl 2 rfl) ?_
      obtain ⟨g_4, h⟩ := kb_g_s h
      refine kb_aald (j := p2.toNatClampNeg) hx hb hK hP 1 3 rfl rfl rfl rfl (kb_in_v g_4) kdX0_copy_20 ?_
      refine lv_iconst (v := 0) hx hb kdX0_copy_21 (by decide) ?_
      refine lv_aload_n hx hb kdX0_copy_22 rfl (lv_at hl 0 rfl) ?_
      refine va_get (ci := 0) (v := .ref (a_this 1)) (C := kRX0) (T := kTX0) (N := 6) hx hb hts kinX0 hown hK hP 0 rfl rfl 1 (by decide) (hts _ km_160) (fun _ h9 => h9) rfl kdX0_copy_23 ?_
      refine lv_iload_n hx hb kdX0_copy_26 rfl (lv_at hl 1 rfl) ?_
      obtain ⟨g_5, h⟩ := kb_g_s h
      refine va_iald hx hb hK hP 2 1 rfl rfl (kb_in_v g_5) kdX0_copy_27 ?_
      obtain ⟨g_6, h⟩ := kb_g_s h
      obtain ⟨g_7, h⟩ := kb_g_s h
      have gc_8 := kb_cp_s g_6
      refine va_copyi hx hb (hml.trans hl.1.symm) hown (hts _ km_291) (hts _ km_293) (hts _ km_292) (hts _ km_12) hK hP hD hS (3 + p1.toNatClampNeg) (3 + p2.toNatClampNeg) 0 0 (kb_pl_r rfl (kb_pl_l (kb_gw_at (kb_in_lt g_3)))) (kb_pl_r rfl (kb_pl_l (kb_gw_at (kb_in_lt g_4)))) rfl rfl rfl gc_8.1 gc_8.2.1 gc_8.2.2.1 gc_8.2.2.2.1 gc_8.2.2.2.2 (kb_ft_s g_7) (Nat.le_of_ble_eq_true rfl) (Nat.le_of_ble_eq_true rfl) kdX0_copy_28 (fun H locs hP hD hS => ?_)
      unfold kWX0_copy at hP; rw [kb_set_r (n := 3) (by rfl), kb_set_l (by rw [kb_gw_len]; exact (kb_in_lt g_4)), kb_gw_st (kb_in_lt g_4), kb_up_c (fun z => .inl (cB, 8192, .inl z))] at hP
      unfold kWX0_copy at hD; rw [kb_set_r (n := 3) (by rfl), kb_set_l (by rw [kb_gw_len]; exact (kb_in_lt g_4)), kb_gw_st (kb_in_lt g_4), kb_up_c (fun z => .inl (cB, 8192, .inl z))] at hD
      obtain ⟨m_9, em_9⟩ : ∃ y, y = va_up m_this_slots p2.toNatClampNeg (va_cpy (m_this_slots p1.toNatClampNeg) (m_this_slots p2.toNatClampNeg) (0 : Int32).toNatClampNeg (0 : Int32).toNatClampNeg (f_this_sizes p1.toNatClampNeg).toNatClampNeg) := ⟨_, rfl⟩
      have h := kb_n_s em_9 h
      have hP : va_P D kCl (kWX0_copy cB cI cL cBB cII cSh h_this a_this r_this_slots this_tapeSize f_this_sizes m_9) H := by rw [em_9]; exact hP
      have hD : va_D A (kWX0_copy cB cI cL cBB cII cSh h_this a_this r_this_slots this_tapeSize f_this_sizes m_9) := by rw [em_9]; exact hD
      refine lv_aload_n hx hb kdX0_copy_31 rfl (lv_at hl 0 rfl) ?_
      refine va_get (ci := 0) (v := .ref (a_this 1)) (C := kRX0) (T := kTX0) (N := 6) hx hb hts kinX0 hown hK hP 0 rfl rfl 1 (by decide) (hts _ km_160) (fun _ h9 => h9) rfl kdX0_copy_32 ?_
      refine lv_iload_n hx hb kdX0_copy_35 rfl (lv_at hl 2 rfl) ?_
      refine lv_aload_n hx hb kdX0_copy_36 rfl (lv_at hl 0 rfl) ?_
      refine va_get (ci := 0) (v := .ref (a_this 1)) (C := kRX0) (T := kTX0) (N := 6) hx hb hts kinX0 hown hK hP 0 rfl rfl 1 (by decide) (hts _ km_160) (fun _ h9 => h9) rfl kdX0_copy_37 ?_
      refine lv_iload_n hx hb kdX0_copy_40 rfl (lv_at hl 1 rfl) ?_
      obtain ⟨g_10, h⟩ := kb_g_s h
      refine va_iald hx hb hK hP 2 1 rfl rfl (kb_in_v g_10) kdX0_copy_41 ?_
      obtain ⟨g_11, h⟩ := kb_g_s h
      refine va_iast hx hb hK hP hD hS 2 1 rfl rfl (kb_in_v g_11) kdX0_copy_42 (fun H locs hP hD hS => ?_)
      obtain ⟨f_12, ef_12⟩ : ∃ y, y = upd f_this_sizes p2.toNatClampNeg (f_this_sizes p1.toNatClampNeg) := ⟨_, rfl⟩
      have h := kb_n_s ef_12 h
      have hP : va_P D kCl (kWX0_copy cB cI cL cBB cII cSh h_this a_this r_this_slots this_tapeSize f_12 m_9) H := by rw [ef_12]; exact hP
      have hD : va_D A (kWX0_copy cB cI cL cBB cII cSh h_this a_this r_this_slots this_tapeSize f_12 m_9) := by rw [ef_12]; exact hD
      refine lv_aload_n hx hb kdX0_copy_43 rfl (lv_at hl 0 rfl) ?_
      refine va_get (ci := 0) (v := .ref (a_this 1)) (C := kRX0) (T := kTX0) (N := 6) hx hb hts kinX0 hown hK hP 0 rfl rfl 1 (by decide) (hts _ km_160) (fun _ h9 => h9) rfl kdX0_copy_44 ?_
      refine lv_iload_n hx hb kdX0_copy_47 rfl (lv_at hl 2 rfl) ?_
      obtain ⟨g_13, h⟩ := kb_g_s h
      refine va_iald hx hb hK hP 2 1 rfl rfl (kb_in_v g_13) kdX0_copy_48 ?_
      obtain rfl := Option.some.inj h
      refine vx_ret ?_
      refine W.widen (k := 2) (n := 12) (by decide) (by decide) ?_
      exact W.iret (v := (f_12 p2.toNatClampNeg)) hx hb hr (fun t ht hW => ⟨_, rfl, ⟨rfl, by rw [ht]; exact hP, va_K.moved hW.alike hK, hD⟩, hS.F ht⟩) hS.2.2 kdX0_copy_49

-- 474.ModuleKem.resize.lean.txt
abbrev kWX0_resize (cB cI cL cBB cII cSh : ClassId) (h_this : Nat) (a_this : Nat → Nat) (r_this_slots : Nat → Nat) (this_tapeSize : Int32) (f_this_sizes : Nat → Int32) (m_this_slots : Nat → Nat → Int32) : va_W := ([(h_this, koX0 a_this this_tapeSize), ((a_this 0), .inl (cBB, 8, .inr (.inr (.inr (.inr (kb_rf r_this_slots 8)))))), ((a_this 1), .inl (cI, 8, .inl f_this_sizes))] ++ (kb_gw r_this_slots 8 (fun i => .inl (cB, 8192, .inl (m_this_slots i))) ++ []))
def krX0_resize : Room := { frames := 7, cells := 2, slots := 12, locals := 110 }
set_option maxHeartbeats 4000000 in
set_option maxRecDepth 100000 in
theorem klX0_resize_18 {p : Program} {l : Launch} {e : Env} {s : State} {m : MethodId} {args : Array Value} {below : List Frame} {meth : Method} {c : Code} {cells slots : Nat} {Q : State → Prop} {D : va_G} {cB cI cL cBB cII cSh : ClassId} {A : Nat → Prop} (C0 : CallFix p m c prog_1_method_5_code 5 s args kwA kRX0) (hlocks : meth.locks = false) (hK : va_K D kCl (kb_T cB cI cL cBB cII cSh) s) (hN : kb_N s) (hA : ∀ q, s.heap.size ≤ q → A q) (hcR : cells ≤ krX0_resize.cells) (hsR : slots ≤ krX0_resize.slots) (h_this : Nat) (a_this r_this_slots : Nat → Nat) (p1 : Int32) (p2 : Int32) (x3_4 : Int32) (this_tapeSize : Int32) (f_this_sizes : Nat → Int32) :
    ∀ (fuel : Nat) (x4p18 : Int32) (m_this_slotsp18 : Nat → Nat → Int32) (r : Int32 × (Nat → Nat → Int32)), kb_w (fun u : Int32 × (Nat → Nat → Int32) => kSX0_resize_18 p1 p2 u.1 u.2) fuel (x4p18, m_this_slotsp18) = some r → ∀ (H : Heap) (locs : List Loc) (ls : Array Slot), va_P D kCl (kWX0_resize cB cI cL cBB cII cSh h_this a_this r_this_slots this_tapeSize f_this_sizes m_this_slotsp18) H → va_D A (kWX0_resize cB cI cL cBB cII cSh h_this a_this r_this_slots this_tapeSize f_this_sizes m_this_slotsp18) → va_S A s.heap H locs → lv_has ls 5 [(0, .ref h_this), (1, .int p1), (2, .int p2), (3, .int x3_4), (4, .int x4p18)] → (∀ (x4p18' : Int32) (m_this_slotsp18' : Nat → Nat → Int32), r = (x4p18', m_this_slotsp18') → ∀ (H : Heap) (locs : List Loc) (ls : Array Slot), va_P D kCl (kWX0_resize cB cI cL cBB cII cSh h_this a_this r_this_slots this_tapeSize f_this_sizes m_this_slotsp18') H → va_D A (kWX0_resize cB cI cL cBB cII cSh h_this a_this r_this_slots this_tapeSize f_this_sizes m_this_slotsp18') → va_S A s.heap H locs → lv_has ls 5 [(0, .ref h_this), (1, .int p1), (2, .int p2), (3, .int x3_4), (4, .int x4p18')] → W p l e krX0_resize s m args below meth c H locs cells slots Q (F0 m 40 ls [])) → W p l e krX0_resize s m args below meth c H locs cells slots Q (F0 m 18 ls []) := by
  obtain ⟨hx, hb, hml, hown, hts⟩ := id C0
  intro fuel
  induction fuel with
  | zero =>
    intro x4p18 m_this_slotsp18 r h
    exact absurd h (kb_w_z _ _ _)
  | succ fuel ih =>
    intro x4p18 m_this_slotsp18 r h H locs ls hP hD hS hl hk0
    obtain ⟨o, h, ho⟩ := kb_w_s h
    have h : kSX0_resize_18 p1 p2 x4p18 m_this_slotsp18 = some o := h
    unfold kSX0_resize_18 at h
    refine lv_iload hx hb kdX0_resize_18 (lv_at hl 4 rfl) ?_
    refine lv_iload_n hx hb kdX0_resize_20 rfl (lv_at hl 2 rfl) ?_
    refine lv_icmp_ge (tgt := 40) hx hb kdX0_resize_21 (by decide) (fun c_5 => ?_) (fun c_5 => ?_)
    · have h := kb_b_t c_5 h
      obtain rfl := Option.some.inj h
      exact hk0 x4p18 m_this_slotsp18 ho.symm _ _ _ hP hD hS (lv_sub hl [0, 1, 2, 3, 4] rfl)
    · have h := kb_b_f c_5 h
      refine lv_aload_n hx hb kdX0_resize_24 rfl (lv_at hl 0 rfl) ?_
      refine va_get (ci := 0) (v := .ref (a_this 0)) (C := kRX0) (T := kTX0) (N := 6) hx hb hts kinX0 hown hK hP 0 rfl rfl 0 (by decide) (hts _ km_159) (fun _ h9 => h9) rfl kdX0_resize_25 ?_
      refine lv_iload_n hx hb kdX0_resize_28 rfl (lv_at hl 1 rfl) ?_
      obtain ⟨g_6, h⟩ := kb_g_s h
      refine kb_aald (j := p1.toNatClampNeg) hx hb hK hP 1 3 rfl rfl rfl rfl (kb_in_v g_6) kdX0_resize_29 ?_
      refine lv_iload hx hb kdX0_resize_30 (lv_at hl 4 rfl) ?_
      refine lv_iconst (v := 0) hx hb kdX0_resize_32 (by decide) ?_
      obtain ⟨g_7, h⟩ := kb_g_s h
      refine va_bast hx hb hK hP hD hS (3 + p1.toNatClampNeg) 0 (kb_pl_r rfl (kb_pl_l (kb_gw_at (kb_in_lt g_6)))) rfl (kb_in_v g_7) kdX0_resize_33 (fun H locs hP hD hS => ?_)
      unfold kWX0_resize at hP; rw [kb_set_r (n := 3) (by rfl), kb_set_l (by rw [kb_gw_len]; exact (kb_in_lt g_6)), kb_gw_st (kb_in_lt g_6), kb_up_c (fun z => .inl (cB, 8192, .inl z))] at hP
      unfold kWX0_resize at hD; rw [kb_set_r (n := 3) (by rfl), kb_set_l (by rw [kb_gw_len]; exact (kb_in_lt g_6)), kb_gw_st (kb_in_lt g_6), kb_up_c (fun z => .inl (cB, 8192, .inl z))] at hD
      obtain ⟨m_8, em_8⟩ : ∃ y, y = va_up m_this_slotsp18 p1.toNatClampNeg (upd (m_this_slotsp18 p1.toNatClampNeg) x4p18.toNatClampNeg (vp_nar .byte (0 : Int32))) := ⟨_, rfl⟩
      have h := kb_n_s em_8 h
      have hP : va_P D kCl (kWX0_resize cB cI cL cBB cII cSh h_this a_this r_this_slots this_tapeSize f_this_sizes m_8) H := by rw [em_8]; exact hP
      have hD : va_D A (kWX0_resize cB cI cL cBB cII cSh h_this a_this r_this_slots this_tapeSize f_this_sizes m_8) := by rw [em_8]; exact hD
      obtain ⟨x4_9, ex4_9⟩ : ∃ y : Int32, y = x4p18 + Int32.ofInt 1 := ⟨_, rfl⟩
      have h := kb_n_s ex4_9 h
      refine lv_iinc (v := x4_9) (lv' := [(4, .int x4_9), (0, .ref h_this), (1, .int p1), (2, .int p2), (3, .int x3_4)]) hx hb kdX0_resize_34 hl (k := 4) rfl ex4_9.symm (by decide) rfl (fun ls hl => ?_)
      refine lv_goto (tgt := 18) hx hb kdX0_resize_37 (by decide) ?_
      obtain rfl := Option.some.inj h
      exact ih x4_9 m_8 r ho _ _ _ hP hD hS (lv_sub hl [1, 2, 3, 4, 0] rfl) hk0
set_option maxHeartbeats 4000000 in
set_option maxRecDepth 100000 in
theorem kcX0_resize (l : Launch) (hl9 : l.stackTraces = false) (D : va_G) (cB cI cL cBB cII cSh : ClassId) (h_this : Nat) (a_this r_this_slots : Nat → Nat) (sz : Nat) (p1 : Int32) (p2 : Int32) (this_tapeSize : Int32) (f_this_sizes : Nat → Int32) (m_this_slots : Nat → Nat → Int32) (out : (Int32 × (Nat → Int32) × (Nat → Nat → Int32)) ⊕ (String × ((Nat → Int32) × (Nat → Nat → Int32)))) (h : kFX0_resize p1 p2 f_this_sizes m_this_slots = some out) : vx_Met l kyX0_resize kwX0_resize krX0_resize (kb_PX D kCl (kb_T cB cI cL cBB cII cSh) [.ref h_this, .int p1, .int p2] (kWX0_resize cB cI cL cBB cII cSh h_this a_this r_this_slots this_tapeSize f_this_sizes m_this_slots) sz) (kb_QX D kCl (kb_T cB cI cL cBB cII cSh) (va_A (kWX0_resize cB cI cL cBB cII cSh h_this a_this r_this_slots this_tapeSize f_this_sizes m_this_slots) sz) out (fun o => (some (.int o.1))) (fun o => (kWX0_resize cB cI cL cBB cII cSh h_this a_this r_this_slots this_tapeSize o.2.1 o.2.2))) (kb_XX D kCl (kb_T cB cI cL cBB cII cSh) (va_A (kWX0_resize cB cI cL cBB cII cSh h_this a_this r_this_slots this_tapeSize f_this_sizes m_this_slots) sz) out (fun x => (kWX0_resize cB cI cL cBB cII cSh h_this a_this r_this_slots this_tapeSize x.1 x.2))) 2 12 (va_A (kWX0_resize cB cI cL cBB cII cSh h_this a_this r_this_slots this_tapeSize f_this_sizes m_this_slots) sz) := by
  refine vx_ofW (cc := prog_1_method_5_code) (maxL := 5) (ret := (some .int)) (by decide) rfl ?_
  intro p e s m args below meth c s₁ B hml hno hv
  obtain ⟨⟨rfl, hsz, hP, hK, hN, hD0⟩, hZ⟩ := hv
  have hx := B.exec
  have hb := B.bytes
  have hr := B.returns
  have hts0 := atoms_spec (ws := kwX0_resize) B.pre
  have hts : ∀ w ∈ kwA, w.before _ s = true := fun w h => hts0 w (List.mem_cons_of_mem _ h)
  have hown : s.vm.findClass kRX0 = some m.cls := findClass_of_methodNamed B.named
  have hlocks := B.notSynchronized
  subst hsz
  have hD := hD0.self (sz := s.heap.size)
  generalize hAe : va_A (kWX0_resize cB cI cL cBB cII cSh h_this a_this r_this_slots this_tapeSize f_this_sizes m_this_slots) s.heap.size = A at hD hZ ⊢
  have hA : ∀ q : Nat, s.heap.size ≤ q → A q := fun q h => by rw [← hAe]; exact Or.inr h
  have hS : va_S A s.heap s.heap [] := va_S.rf
  have C0 : CallFix p m c prog_1_method_5_code 5 s _ kwA kRX0 := ⟨hx, hb, hml, hown, hts⟩
  have hl := lv_entry ([.ref h_this, .int p1, .int p2]) (n := 5) (Nat.le_of_ble_eq_true rfl)
  rw [lg_entry_eq]
  generalize (lg_sl ([.ref h_this, .int p1, .int p2]) ++ List.replicate (5 - (lg_sl ([.ref h_this, .int p1, .int p2])).length) Slot.unset).toArray = ls at hl ⊢
  have hl : lv_has ls 5 [(0, .ref h_this), (1, .int p1), (2, .int p2)] := hl
  unfold kFX0_resize at h
  refine lv_iload_n hx hb kdX0_resize_0 rfl (lv_at hl 1 rfl) ?_
  obtain ⟨u_1, hu_1, h⟩ := kb_o_s h
  have hC := (show ([] : List Nat).map (fun i : Nat => (kWX0_resize cB cI cL cBB cII cSh h_this a_this r_this_slots this_tapeSize f_this_sizes m_this_slots)[i]?) = List.map some (kWX0_checkSlot cB cI cL cBB cII cSh) from rfl)
  have hPc := kb_Psub hP ([] : List Nat) hC
  have hDc := kb_Dsub hD ([] : List Nat) hC (by simp [kb_nd])
  have hC2 : ([] : List Nat).map (fun i : Nat => (kWX0_resize cB cI cL cBB cII cSh h_this a_this r_this_slots this_tapeSize f_this_sizes m_this_slots)[i]?) = (kb_pick [] (kWX0_checkSlot cB cI cL cBB cII cSh)).map some := rfl
  refine kb_callx (vx_runS (As := [.int p1]) (rest := []) C0 (kcX0_checkSlot l hl9 D cB cI cL cBB cII cSh  _ p1 u_1 hu_1) (va_cwS 1 hts (kb_gS km_267 km_268 km_1 km_269) rfl rfl rfl (by decide +kernel) ⟨Nat.le_of_ble_eq_true rfl, Nat.le_of_ble_eq_true rfl⟩) ⟨kb_PX_bl, (fun U hU hW => ⟨⟨rfl, by rw [hU], by rw [hU]; exact hPc, va_K.moved hW.alike hK, kb_N_to hW hN, hDc.weaken (fun _ _ _ _ => trivial)⟩, kb_Z_to hZ hS (va_free (wc := (kWX0_checkSlot cB cI cL cBB cII cSh)) hD hS hA ([] : List Nat) hC) hU hW⟩)⟩ rfl rfl hl.1 rfl (lv_room (Nat.le_of_ble_eq_true rfl)) kdX0_resize_1 ⟨Nat.le_of_ble_eq_true rfl, Nat.le_of_ble_eq_true rfl⟩) hP hD hS hA [] [] [] hC2 rfl rfl (by simp [kb_nd]) (fun _ => rfl) (fun _ => rfl) (fun x ce q H locs eu hP hD hS hce hcv hcl => ?_) (fun o H locs eu hP hD hS => ?_)
  · subst eu
    have h := kb_s_ir h
    have hP : va_P D kCl (kWX0_resize cB cI cL cBB cII cSh h_this a_this r_this_slots this_tapeSize f_this_sizes m_this_slots) H := hP
    have hD : va_D A (kWX0_resize cB cI cL cBB cII cSh h_this a_this r_this_slots this_tapeSize f_this_sizes m_this_slots) := hD
    obtain rfl := Option.some.inj h
    exact vx_out (E := x.1) (fun x hx9 => (hno x hx9).elim) hlocks hce hcv hcl (fun t ht ha => ⟨_, rfl, by rw [ht]; exact hP, va_K.moved ha hK, hD, hS.F ht⟩) hS.2.2 (by decide) (by decide)
  · subst eu
    have h := kb_s_il h
    have hP : va_P D kCl (kWX0_resize cB cI cL cBB cII cSh h_this a_this r_this_slots this_tapeSize f_this_sizes m_this_slots) H := hP
    have hD : va_D A (kWX0_resize cB cI cL cBB cII cSh h_this a_this r_this_slots this_tapeSize f_this_sizes m_this_slots) := hD
    refine lv_iload_n hx hb kdX0_resize_4 rfl (lv_at hl 2 rfl) ?_
    obtain ⟨u_2, hu_2, h⟩ := kb_o_s h
    have hC := (show ([] : List Nat).map (fun i : Nat => (kWX0_resize cB cI cL cBB cII cSh h_this a_this r_this_slots this_tapeSize f_this_sizes m_this_slots)[i]?) = List.map some (kWX0_checkSize cB cI cL cBB cII cSh) from rfl)
    have hPc := kb_Psub hP ([] : List Nat) hC
    have hDc := kb_Dsub hD ([] : List Nat) hC (by simp [kb_nd])
    have hC2 : ([] : List Nat).map (fun i : Nat => (kWX0_resize cB cI cL cBB cII cSh h_this a_this r_this_slots this_tapeSize f_this_sizes m_this_slots)[i]?) = (kb_pick [] (kWX0_checkSize cB cI cL cBB cII cSh)).map some := rfl
    refine kb_callx (vx_runS (As := [.int p2]) (rest := []) C0 (kcX0_checkSize l hl9 D cB cI cL cBB cII cSh  _ p2 u_2 hu_2) (va_cwS 1 hts (kb_gS km_286 km_287 km_1 km_288) rfl rfl rfl (by decide +kernel) ⟨Nat.le_of_ble_eq_true rfl, Nat.le_of_ble_eq_true rfl⟩) ⟨kb_PX_bl, (fun U hU hW => ⟨⟨rfl, by rw [hU], by rw [hU]; exact hPc, va_K.moved hW.alike hK, kb_N_to hW hN, hDc.weaken (fun _ _ _ _ => trivial)⟩, kb_Z_to hZ hS (va_free (wc := (kWX0_checkSize cB cI cL cBB cII cSh)) hD hS hA ([] : List Nat) hC) hU hW⟩)⟩ rfl rfl hl.1 rfl (lv_room (Nat.le_of_ble_eq_true rfl)) kdX0_resize_5 ⟨Nat.le_of_ble_eq_true rfl, Nat.le_of_ble_eq_true rfl⟩) hP hD hS hA [] [] [] hC2 rfl rfl (by simp [kb_nd]) (fun _ => rfl) (fun _ => rfl) (fun x ce q H locs eu hP hD hS hce hcv hcl => ?_) (fun o H locs eu hP hD hS => ?_)
    · subst eu
      have h := kb_s_ir h
      have hP : va_P D kCl (kWX0_resize cB cI cL cBB cII cSh h_this a_this r_this_slots this_tapeSize f_this_sizes m_this_slots) H := hP
      have hD : va_D A (kWX0_resize cB cI cL cBB cII cSh h_this a_this r_this_slots this_tapeSize f_this_sizes m_this_slots) := hD
      obtain rfl := Option.some.inj h
      exact vx_out (E := x.1) (fun x hx9 => (hno x hx9).elim) hlocks hce hcv hcl (fun t ht ha => ⟨_, rfl, by rw [ht]; exact hP, va_K.moved ha hK, hD, hS.F ht⟩) hS.2.2 (by decide) (by decide)
    · subst eu
      have h := kb_s_il h
      have hP : va_P D kCl (kWX0_resize cB cI cL cBB cII cSh h_this a_this r_this_slots this_tapeSize f_this_sizes m_this_slots) H := hP
      have hD : va_D A (kWX0_resize cB cI cL cBB cII cSh h_this a_this r_this_slots this_tapeSize f_this_sizes m_this_slots) := hD
      refine lv_aload_n hx hb kdX0_resize_8 rfl (lv_at hl 0 rfl) ?_
      refine va_get (ci := 0) (v := .ref (a_this 1)) (C := kRX0) (T := kTX0) (N := 6) hx hb hts kinX0 hown hK hP 0 rfl rfl 1 (by decide) (hts _ km_160) (fun _ h9 => h9) rfl kdX0_resize_9 ?_
      refine lv_iload_n hx hb kdX0_resize_12 rfl (lv_at hl 1 rfl) ?_
      obtain ⟨g_3, h⟩ := kb_g_s h
      refine va_iald hx hb hK hP 2 1 rfl rfl (kb_in_v g_3) kdX0_resize_13 ?_
      refine lv_topi (fun x3_4 ex3_4 => ?_)
      have h := kb_n_s ex3_4 h
      refine lv_istore_n (lv' := [(3, .int x3_4), (0, .ref h_this), (1, .int p1), (2, .int p2)]) hx hb kdX0_resize_14 rfl hl (by decide) rfl (fun ls hl => ?_)
      refine lv_iload_n hx hb kdX0_resize_15 rfl (lv_at hl 0 rfl) ?_
      refine lv_istore (lv' := [(4, .int x3_4), (3, .int x3_4), (0, .ref h_this), (1, .int p1), (2, .int p2)]) hx hb kdX0_resize_16 hl (by decide) rfl (fun ls hl => ?_)
      obtain ⟨r_14, hr_14, h⟩ := kb_o_s h
      refine klX0_resize_18 C0 hlocks hK hN hA (by decide) (by decide) h_this a_this r_this_slots p1 p2 x3_4 this_tapeSize f_this_sizes 100000 x3_4 m_this_slots r_14 hr_14 _ _ _ hP hD hS (lv_sub hl [2, 3, 4, 1, 0] rfl) (fun x4p18_10 m_this_slotsp18_11 er_14 H locs ls hP hD hS hl => ?_)
      subst er_14
      refine lv_aload_n hx hb kdX0_resize_40 rfl (lv_at hl 0 rfl) ?_
      refine va_get (ci := 0) (v := .ref (a_this 1)) (C := kRX0) (T := kTX0) (N := 6) hx hb hts kinX0 hown hK hP 0 rfl rfl 1 (by decide) (hts _ km_160) (fun _ h9 => h9) rfl kdX0_resize_41 ?_
      refine lv_iload_n hx hb kdX0_resize_44 rfl (lv_at hl 1 rfl) ?_
      refine lv_iload_n hx hb kdX0_resize_45 rfl (lv_at hl 2 rfl) ?_
      obtain ⟨g_12, h⟩ := kb_g_s h
      refine va_iast hx hb hK hP hD hS 2 1 rfl rfl (kb_in_v g_12) kdX0_resize_46 (fun H locs hP hD hS => ?_)
      obtain ⟨f_13, ef_13⟩ : ∃ y, y = upd f_this_sizes p1.toNatClampNeg p2 := ⟨_, rfl⟩
      have h := kb_n_s ef_13 h
      have hP : va_P D kCl (kWX0_resize cB cI cL cBB cII cSh h_this a_this r_this_slots this_tapeSize f_13 m_this_slotsp18_11) H := by rw [ef_13]; exact hP
      have hD : va_D A (kWX0_resize cB cI cL cBB cII cSh h_this a_this r_this_slots this_tapeSize f_13 m_this_slotsp18_11) := by rw [ef_13]; exact hD
      refine lv_iload_n hx hb kdX0_resize_47 rfl (lv_at hl 3 rfl) ?_
      obtain rfl := Option.some.inj h
      refine vx_ret ?_
      refine W.widen (k := 2) (n := 12) (by decide) (by decide) ?_
      exact W.iret (v := x3_4) hx hb hr (fun t ht hW => ⟨_, rfl, ⟨rfl, by rw [ht]; exact hP, va_K.moved hW.alike hK, hD⟩, hS.F ht⟩) hS.2.2 kdX0_resize_48
