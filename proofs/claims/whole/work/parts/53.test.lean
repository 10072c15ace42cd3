noncomputable def kSX5_named_start224_8 (x4p8 : Int32) (f_this_statep8 : Nat → Int64) : Option ((Int32 × (Nat → Int64)) ⊕ (Int32 × (Nat → Int64))) := kb_b (decide ((8 : Int32) ≤ x4p8)) (some (.inr (x4p8, f_this_statep8))) (kb_g (kb_in x4p8 25) (kb_g (kb_in x4p8 25) (kb_n (vp_updL f_this_statep8 x4p8.toNatClampNeg ((f_this_statep8 x4p8.toNatClampNeg) ^^^ (-6510615555426900571 : Int64))) fun f_10 => kb_n (x4p8 + Int32.ofInt 1) fun x4_11 => some (.inl (x4_11, f_10)))))
noncomputable def kSX5_named_start224_105 (f_104 : Nat → Int64) (x4p105 : Int32) (f_this_start224p105 : Nat → Int64) : Option ((Int32 × (Nat → Int64)) ⊕ (Int32 × (Nat → Int64))) := kb_b (decide ((8 : Int32) ≤ x4p105)) (some (.inr (x4p105, f_this_start224p105))) (kb_g (kb_in x4p105 25) (kb_g (kb_in x4p105 8) (kb_n (vp_updL f_this_start224p105 x4p105.toNatClampNeg (f_104 x4p105.toNatClampNeg)) fun f_113 => kb_n (x4p105 + Int32.ofInt 1) fun x4_114 => some (.inl (x4_114, f_113)))))
noncomputable def kFX5_named_start224 (p2 : Int32) (p3 : Int32) (f_this_roots : Nat → Int64) (f_this_cubes : Nat → Int64) (f_this_start224 : Nat → Int64) (f_this_start256 : Nat → Int64) (f_this_turns : Nat → Int32) (f_this_round : Nat → Int64) (f_this_state : Nat → Int64) (f_this_other : Nat → Int64) (f_this_column : Nat → Int64) (f_this_words : Nat → Int64) (f_this_block : Nat → Int32) : Option (Int32 × Int32 × Int32 × Int64 × (Nat → Int64) × (Nat → Int64) × (Nat → Int64) × (Nat → Int64) × (Nat → Int64) × (Nat → Int32)) := (kFX5_begin (3 : Int32) f_this_roots f_this_start224 f_this_start256 f_this_state).bind fun u => (fun w_1 w_2 w_3 w_4 f_5 => (kb_w (fun u : Int32 × (Nat → Int64) => kSX5_named_start224_8 u.1 u.2) 100000 ((0 : Int32), f_5)).bind fun u => (fun x4p8_12 f_this_statep8_13 => (kFX5_put (83 : Int32) w_2 w_3 w_1 w_4 f_this_cubes f_this_turns f_this_round f_this_statep8_13 f_this_other f_this_column f_this_words f_this_block).bind fun u => (fun w_14 w_15 f_16 f_17 f_18 f_19 f_20 => (kFX5_put (72 : Int32) w_2 w_3 w_14 w_15 f_this_cubes f_this_turns f_this_round f_16 f_17 f_18 f_19 f_20).bind fun u => (fun w_22 w_23 f_24 f_25 f_26 f_27 f_28 => (kFX5_put (65 : Int32) w_2 w_3 w_22 w_23 f_this_cubes f_this_turns f_this_round f_24 f_25 f_26 f_27 f_28).bind fun u => (fun w_30 w_31 f_32 f_33 f_34 f_35 f_36 => (kFX5_put (45 : Int32) w_2 w_3 w_30 w_31 f_this_cubes f_this_turns f_this_round f_32 f_33 f_34 f_35 f_36).bind fun u => (fun w_38 w_39 f_40 f_41 f_42 f_43 f_44 => (kFX5_put (53 : Int32) w_2 w_3 w_38 w_39 f_this_cubes f_this_turns f_this_round f_40 f_41 f_42 f_43 f_44).bind fun u => (fun w_46 w_47 f_48 f_49 f_50 f_51 f_52 => (kFX5_put (49 : Int32) w_2 w_3 w_46 w_47 f_this_cubes f_this_turns f_this_round f_48 f_49 f_50 f_51 f_52).bind fun u => (fun w_54 w_55 f_56 f_57 f_58 f_59 f_60 => (kFX5_put (50 : Int32) w_2 w_3 w_54 w_55 f_this_cubes f_this_turns f_this_round f_56 f_57 f_58 f_59 f_60).bind fun u => (fun w_62 w_63 f_64 f_65 f_66 f_67 f_68 => (kFX5_put (47 : Int32) w_2 w_3 w_62 w_63 f_this_cubes f_this_turns f_this_round f_64 f_65 f_66 f_67 f_68).bind fun u => (fun w_70 w_71 f_72 f_73 f_74 f_75 f_76 => (kFX5_put (50 : Int32) w_2 w_3 w_70 w_71 f_this_cubes f_this_turns f_this_round f_72 f_73 f_74 f_75 f_76).bind fun u => (fun w_78 w_79 f_80 f_81 f_82 f_83 f_84 => (kFX5_put p2 w_2 w_3 w_78 w_79 f_this_cubes f_this_turns f_this_round f_80 f_81 f_82 f_83 f_84).bind fun u => (fun w_86 w_87 f_88 f_89 f_90 f_91 f_92 => (kFX5_put p3 w_2 w_3 w_86 w_87 f_this_cubes f_this_turns f_this_round f_88 f_89 f_90 f_91 f_92).bind fun u => (fun w_94 w_95 f_96 f_97 f_98 f_99 f_100 => (kFX5_finish w_2 w_3 w_94 w_95 f_this_cubes f_this_turns f_this_round f_96 f_97 f_98 f_99 f_100).bind fun u => (fun w_102 w_103 f_104 f_105 f_106 f_107 f_108 => (kb_w (fun u : Int32 × (Nat → Int64) => kSX5_named_start224_105 f_104 u.1 u.2) 100000 ((0 : Int32), f_this_start224)).bind fun u => (fun x4p105_115 f_this_start224p105_116 => some (w_102, w_2, w_3, w_103, f_this_start224p105_116, f_104, f_105, f_106, f_107, f_108)) u.1 u.2) u.1 u.2.1 u.2.2.1 u.2.2.2.1 u.2.2.2.2.1 u.2.2.2.2.2.1 u.2.2.2.2.2.2) u.1 u.2.1 u.2.2.1 u.2.2.2.1 u.2.2.2.2.1 u.2.2.2.2.2.1 u.2.2.2.2.2.2) u.1 u.2.1 u.2.2.1 u.2.2.2.1 u.2.2.2.2.1 u.2.2.2.2.2.1 u.2.2.2.2.2.2) u.1 u.2.1 u.2.2.1 u.2.2.2.1 u.2.2.2.2.1 u.2.2.2.2.2.1 u.2.2.2.2.2.2) u.1 u.2.1 u.2.2.1 u.2.2.2.1 u.2.2.2.2.1 u.2.2.2.2.2.1 u.2.2.2.2.2.2) u.1 u.2.1 u.2.2.1 u.2.2.2.1 u.2.2.2.2.1 u.2.2.2.2.2.1 u.2.2.2.2.2.2) u.1 u.2.1 u.2.2.1 u.2.2.2.1 u.2.2.2.2.1 u.2.2.2.2.2.1 u.2.2.2.2.2.2) u.1 u.2.1 u.2.2.1 u.2.2.2.1 u.2.2.2.2.1 u.2.2.2.2.2.1 u.2.2.2.2.2.2) u.1 u.2.1 u.2.2.1 u.2.2.2.1 u.2.2.2.2.1 u.2.2.2.2.2.1 u.2.2.2.2.2.2) u.1 u.2.1 u.2.2.1 u.2.2.2.1 u.2.2.2.2.1 u.2.2.2.2.2.1 u.2.2.2.2.2.2) u.1 u.2.1 u.2.2.1 u.2.2.2.1 u.2.2.2.2.1 u.2.2.2.2.2.1 u.2.2.2.2.2.2) u.1 u.2.1 u.2.2.1 u.2.2.2.1 u.2.2.2.2.1 u.2.2.2.2.2.1 u.2.2.2.2.2.2) u.1 u.2) u.1 u.2.1 u.2.2.1 u.2.2.2.1 u.2.2.2.2
noncomputable def kSX5_named_start256_8 (x4p8 : Int32) (f_this_statep8 : Nat → Int64) : Option ((Int32 × (Nat → Int64)) ⊕ (Int32 × (Nat → Int64))) := kb_b (decide ((8 : Int32) ≤ x4p8)) (some (.inr (x4p8, f_this_statep8))) (kb_g (kb_in x4p8 25) (kb_g (kb_in x4p8 25) (kb_n (vp_updL f_this_statep8 x4p8.toNatClampNeg ((f_this_statep8 x4p8.toNatClampNeg) ^^^ (-6510615555426900571 : Int64))) fun f_10 => kb_n (x4p8 + Int32.ofInt 1) fun x4_11 => some (.inl (x4_11, f_10)))))
noncomputable def kSX5_named_start256_105 (f_104 : Nat → Int64) (x4p105 : Int32) (f_this_start256p105 : Nat → Int64) : Option ((Int32 × (Nat → Int64)) ⊕ (Int32 × (Nat → Int64))) := kb_b (decide ((8 : Int32) ≤ x4p105)) (some (.inr (x4p105, f_this_start256p105))) (kb_g (kb_in x4p105 25) (kb_g (kb_in x4p105 8) (kb_n (vp_updL f_this_start256p105 x4p105.toNatClampNeg (f_104 x4p105.toNatClampNeg)) fun f_113 => kb_n (x4p105 + Int32.ofInt 1) fun x4_114 => some (.inl (x4_114, f_113)))))
noncomputable def kFX5_named_start256 (p2 : Int32) (p3 : Int32) (f_this_roots : Nat → Int64) (f_this_cubes : Nat → Int64) (f_this_start224 : Nat → Int64) (f_this_start256 : Nat → Int64) (f_this_turns : Nat → Int32) (f_this_round : Nat → Int64) (f_this_state : Nat → Int64) (f_this_other : Nat → Int64) (f_this_column : Nat → Int64) (f_this_words : Nat → Int64) (f_this_block : Nat → Int32) : Option (Int32 × Int32 × Int32 × Int64 × (Nat → Int64) × (Nat → Int64) × (Nat → Int64) × (Nat → Int64) × (Nat → Int64) × (Nat → Int32)) := (kFX5_begin (3 : Int32) f_this_roots f_this_start224 f_this_start256 f_this_state).bind fun u => (fun w_1 w_2 w_3 w_4 f_5 => (kb_w (fun u : Int32 × (Nat → Int64) => kSX5_named_start256_8 u.1 u.2) 100000 ((0 : Int32), f_5)).bind fun u => (fun x4p8_12 f_this_statep8_13 => (kFX5_put (83 : Int32) w_2 w_3 w_1 w_4 f_this_cubes f_this_turns f_this_round f_this_statep8_13 f_this_other f_this_column f_this_words f_this_block).bind fun u => (fun w_14 w_15 f_16 f_17 f_18 f_19 f_20 => (kFX5_put (72 : Int32) w_2 w_3 w_14 w_15 f_this_cubes f_this_turns f_this_round f_16 f_17 f_18 f_19 f_20).bind fun u => (fun w_22 w_23 f_24 f_25 f_26 f_27 f_28 => (kFX5_put (65 : Int32) w_2 w_3 w_22 w_23 f_this_cubes f_this_turns f_this_round f_24 f_25 f_26 f_27 f_28).bind fun u => (fun w_30 w_31 f_32 f_33 f_34 f_35 f_36 => (kFX5_put (45 : Int32) w_2 w_3 w_30 w_31 f_this_cubes f_this_turns f_this_round f_32 f_33 f_34 f_35 f_36).bind fun u => (fun w_38 w_39 f_40 f_41 f_42 f_43 f_44 => (kFX5_put (53 : Int32) w_2 w_3 w_38 w_39 f_this_cubes f_this_turns f_this_round f_40 f_41 f_42 f_43 f_44).bind fun u => (fun w_46 w_47 f_48 f_49 f_50 f_51 f_52 => (kFX5_put (49 : Int32) w_2 w_3 w_46 w_47 f_this_cubes f_this_turns f_this_round f_48 f_49 f_50 f_51 f_52).bind fun u => (fun w_54 w_55 f_56 f_57 f_58 f_59 f_60 => (kFX5_put (50 : Int32) w_2 w_3 w_54 w_55 f_this_cubes f_this_turns f_this_round f_56 f_57 f_58 f_59 f_60).bind fun u => (fun w_62 w_63 f_64 f_65 f_66 f_67 f_68 => (kFX5_put (47 : Int32) w_2 w_3 w_62 w_63 f_this_cubes f_this_turns f_this_round f_64 f_65 f_66 f_67 f_68).bind fun u => (fun w_70 w_71 f_72 f_73 f_74 f_75 f_76 => (kFX5_put (50 : Int32) w_2 w_3 w_70 w_71 f_this_cubes f_this_turns f_this_round f_72 f_73 f_74 f_75 f_76).bind fun u => (fun w_78 w_79 f_80 f_81 f_82 f_83 f_84 => (kFX5_put p2 w_2 w_3 w_78 w_79 f_this_cubes f_this_turns f_this_round f_80 f_81 f_82 f_83 f_84).bind fun u => (fun w_86 w_87 f_88 f_89 f_90 f_91 f_92 => (kFX5_put p3 w_2 w_3 w_86 w_87 f_this_cubes f_this_turns f_this_round f_88 f_89 f_90 f_91 f_92).bind fun u => (fun w_94 w_95 f_96 f_97 f_98 f_99 f_100 => (kFX5_finish w_2 w_3 w_94 w_95 f_this_cubes f_this_turns f_this_round f_96 f_97 f_98 f_99 f_100).bind fun u => (fun w_102 w_103 f_104 f_105 f_106 f_107 f_108 => (kb_w (fun u : Int32 × (Nat → Int64) => kSX5_named_start256_105 f_104 u.1 u.2) 100000 ((0 : Int32), f_this_start256)).bind fun u => (fun x4p105_115 f_this_start256p105_116 => some (w_102, w_2, w_3, w_103, f_this_start256p105_116, f_104, f_105, f_106, f_107, f_108)) u.1 u.2) u.1 u.2.1 u.2.2.1 u.2.2.2.1 u.2.2.2.2.1 u.2.2.2.2.2.1 u.2.2.2.2.2.2) u.1 u.2.1 u.2.2.1 u.2.2.2.1 u.2.2.2.2.1 u.2.2.2.2.2.1 u.2.2.2.2.2.2) u.1 u.2.1 u.2.2.1 u.2.2.2.1 u.2.2.2.2.1 u.2.2.2.2.2.1 u.2.2.2.2.2.2) u.1 u.2.1 u.2.2.1 u.2.2.2.1 u.2.2.2.2.1 u.2.2.2.2.2.1 u.2.2.2.2.2.2) u.1 u.2.1 u.2.2.1 u.2.2.2.1 u.2.2.2.2.1 u.2.2.2.2.2.1 u.2.2.2.2.2.2) u.1 u.2.1 u.2.2.1 u.2.2.2.1 u.2.2.2.2.1 u.2.2.2.2.2.1 u.2.2.2.2.2.2) u.1 u.2.1 u.2.2.1 u.2.2.2.1 u.2.2.2.2.1 u.2.2.2.2.2.1 u.2.2.2.2.2.2) u.1 u.2.1 u.2.2.1 u.2.2.2.1 u.2.2.2.2.1 u.2.2.2.2.2.1 u.2.2.2.2.2.2) u.1 u.2.1 u.2.2.1 u.2.2.2.1 u.2.2.2.2.1 u.2.2.2.2.2.1 u.2.2.2.2.2.2) u.1 u.2.1 u.2.2.1 u.2.2.2.1 u.2.2.2.2.1 u.2.2.2.2.2.1 u.2.2.2.2.2.2) u.1 u.2.1 u.2.2.1 u.2.2.2.1 u.2.2.2.2.1 u.2.2.2.2.2.1 u.2.2.2.2.2.2) u.1 u.2.1 u.2.2.1 u.2.2.2.1 u.2.2.2.2.1 u.2.2.2.2.2.1 u.2.2.2.2.2.2) u.1 u.2) u.1 u.2.1 u.2.2.1 u.2.2.2.1 u.2.2.2.2
noncomputable def kFX5_constantsT (f_this_roots : Nat → Int64) (f_this_cubes : Nat → Int64) (f_this_start224 : Nat → Int64) (f_this_start256 : Nat → Int64) (f_this_limbs : Nat → Int64) (f_this_product : Nat → Int64) (f_this_turns : Nat → Int32) (f_this_round : Nat → Int64) (f_this_state : Nat → Int64) (f_this_other : Nat → Int64) (f_this_column : Nat → Int64) (f_this_words : Nat → Int64) (f_this_block : Nat → Int32) : Option (Int32 × Int32 × Int32 × Int64 × (Nat → Int64) × (Nat → Int64) × (Nat → Int64) × (Nat → Int64) × (Nat → Int64) × (Nat → Int64) × (Nat → Int32) × (Nat → Int64) × (Nat → Int64) × (Nat → Int64) × (Nat → Int64) × (Nat → Int64) × (Nat → Int32)) := (kb_w (fun u : Int32 × Int32 × (Nat → Int64) × (Nat → Int64) × (Nat → Int64) × (Nat → Int64) => kSX5_constantsT_4 u.1 u.2.1 u.2.2.1 u.2.2.2.1 u.2.2.2.2.1 u.2.2.2.2.2) 100000 ((0 : Int32), (2 : Int32), f_this_cubes, f_this_limbs, f_this_product, f_this_roots)).bind fun u => (fun x1p4_29 x2p4_30 f_this_cubesp4_31 f_this_limbsp4_32 f_this_productp4_33 f_this_rootsp4_34 => (kb_w (fun u : Int32 × Int32 × Int32 × (Nat → Int32) => kSX5_constantsT_66 u.1 u.2.1 u.2.2.1 u.2.2.2) 100000 ((1 : Int32), (0 : Int32), (0 : Int32), f_this_turns)).bind fun u => (fun x2p66_41 x3p66_42 x4p66_43 f_this_turnsp66_44 => (kb_w (fun u : Int32 × (Nat → Int64) => kSX5_constantsT_122 u.1 u.2) 100000 ((0 : Int32), f_this_round)).bind fun u => (fun x4p122_59 f_this_roundp122_60 => (kFX5_named_start224 (50 : Int32) (52 : Int32) f_this_rootsp4_34 f_this_cubesp4_31 f_this_start224 f_this_start256 f_this_turnsp66_44 f_this_roundp122_60 f_this_state f_this_other f_this_column f_this_words f_this_block).bind fun u => (fun w_61 w_62 w_63 w_64 f_65 f_66 f_67 f_68 f_69 f_70 => (kFX5_named_start256 (53 : Int32) (54 : Int32) f_this_rootsp4_34 f_this_cubesp4_31 f_65 f_this_start256 f_this_turnsp66_44 f_this_roundp122_60 f_66 f_67 f_68 f_69 f_70).bind fun u => (fun w_72 w_73 w_74 w_75 f_76 f_77 f_78 f_79 f_80 f_81 => some (w_72, w_73, w_74, w_75, f_this_rootsp4_34, f_this_cubesp4_31, f_65, f_76, f_this_limbsp4_32, f_this_productp4_33, f_this_turnsp66_44, f_this_roundp122_60, f_77, f_78, f_79, f_80, f_81)) u.1 u.2.1 u.2.2.1 u.2.2.2.1 u.2.2.2.2.1 u.2.2.2.2.2.1 u.2.2.2.2.2.2.1 u.2.2.2.2.2.2.2.1 u.2.2.2.2.2.2.2.2.1 u.2.2.2.2.2.2.2.2.2) u.1 u.2.1 u.2.2.1 u.2.2.2.1 u.2.2.2.2.1 u.2.2.2.2.2.1 u.2.2.2.2.2.2.1 u.2.2.2.2.2.2.2.1 u.2.2.2.2.2.2.2.2.1 u.2.2.2.2.2.2.2.2.2) u.1 u.2) u.1 u.2.1 u.2.2.1 u.2.2.2) u.1 u.2.1 u.2.2.1 u.2.2.2.1 u.2.2.2.2.1 u.2.2.2.2.2
abbrev kWX5_named_start224 (cB cI cL cBB cII cSh : ClassId) (h_this : Nat) (a_this : Nat → Nat) (this_taped : Int32) (this_code : Int32) (this_kind : Int32) (this_rate : Int32) (this_filled : Int32) (this_total : Int64) (this_bitAt : Int32) (this_k : Int32) (this_e1 : Int32) (this_du : Int32) (this_dv : Int32) (f_this_roots : Nat → Int64) (f_this_cubes : Nat → Int64) (f_this_start224 : Nat → Int64) (f_this_start256 : Nat → Int64) (f_this_turns : Nat → Int32) (f_this_round : Nat → Int64) (f_this_state : Nat → Int64) (f_this_other : Nat → Int64) (f_this_column : Nat → Int64) (f_this_words : Nat → Int64) (f_this_block : Nat → Int32) : va_W := [(h_this, koX5 a_this this_taped this_code this_kind this_rate this_filled this_total this_bitAt this_k this_e1 this_du this_dv), ((a_this 5), .inl (cL, 16, .inr (.inl f_this_roots))), ((a_this 6), .inl (cL, 80, .inr (.inl f_this_cubes))), ((a_this 7), .inl (cL, 8, .inr (.inl f_this_start224))), ((a_this 8), .inl (cL, 8, .inr (.inl f_this_start256))), ((a_this 11), .inl (cI, 25, .inl f_this_turns)), ((a_this 12), .inl (cL, 24, .inr (.inl f_this_round))), ((a_this 13), .inl (cL, 25, .inr (.inl f_this_state))), ((a_this 14), .inl (cL, 25, .inr (.inl f_this_other))), ((a_this 15), .inl (cL, 5, .inr (.inl f_this_column))), ((a_this 16), .inl (cL, 80, .inr (.inl f_this_words))), ((a_this 17), .inl (cB, 128, .inl f_this_block))]
def krX5_named_start224 : Room := { frames := 4, cells := 0, slots := 0, locals := 107 }
set_option maxHeartbeats 4000000 in
set_option maxRecDepth 100000 in
theorem klX5_named_start224_8 {p : Program} {l : Launch} {e : Env} {s : State} {m : MethodId} {args : Array Value} {below : List Frame} {meth : Method} {c : Code} {cells slots : Nat} {Q : State → Prop} {D : va_G} {cB cI cL cBB cII cSh : ClassId} {A : Nat → Prop} (C0 : CallFix p m c prog_8_method_21_code 5 s args kwA kRX5) (hlocks : meth.locks = false) (hK : va_K D kCl (kb_T cB cI cL cBB cII cSh) s) (hN : kb_N s) (hA : ∀ q, s.heap.size ≤ q → A q) (hcR : cells ≤ krX5_named_start224.cells) (hsR : slots ≤ krX5_named_start224.slots) (h_this : Nat) (a_this : Nat → Nat) (p2 : Int32) (p3 : Int32) (this_taped : Int32) (this_code : Int32) (w_2 : Int32) (w_3 : Int32) (w_1 : Int32) (w_4 : Int64) (this_bitAt : Int32) (this_k : Int32) (this_e1 : Int32) (this_du : Int32) (this_dv : Int32) (f_this_roots : Nat → Int64) (f_this_cubes : Nat → Int64) (f_this_start224 : Nat → Int64) (f_this_start256 : Nat → Int64) (f_this_turns : Nat → Int32) (f_this_round : Nat → Int64) (f_this_other : Nat → Int64) (f_this_column : Nat → Int64) (f_this_words : Nat → Int64) (f_this_block : Nat → Int32) :
    ∀ (fuel : Nat) (x4p8 : Int32) (f_this_statep8 : Nat → Int64) (r : Int32 × (Nat → Int64)), kb_w (fun u : Int32 × (Nat → Int64) => kSX5_named_start224_8 u.1 u.2) fuel (x4p8, f_this_statep8) = some r → ∀ (H : Heap) (locs : List Loc) (ls : Array Slot), va_P D kCl (kWX5_named_start224 cB cI cL cBB cII cSh h_this a_this this_taped this_code w_2 w_3 w_1 w_4 this_bitAt this_k this_e1 this_du this_dv f_this_roots f_this_cubes f_this_start224 f_this_start256 f_this_turns f_this_round f_this_statep8 f_this_other f_this_column f_this_words f_this_block) H → va_D A (kWX5_named_start224 cB cI cL cBB cII cSh h_this a_this this_taped this_code w_2 w_3 w_1 w_4 this_bitAt this_k this_e1 this_du this_dv f_this_roots f_this_cubes f_this_start224 f_this_start256 f_this_turns f_this_round f_this_statep8 f_this_other f_this_column f_this_words f_this_block) → va_S A s.heap H locs → lv_has ls 5 [(0, .ref h_this), (1, .ref (a_this 7)), (2, .int p2), (3, .int p3), (4, .int x4p8)] → (∀ (x4p8' : Int32) (f_this_statep8' : Nat → Int64), r = (x4p8', f_this_statep8') → ∀ (H : Heap) (locs : List Loc) (ls : Array Slot), va_P D kCl (kWX5_named_start224 cB cI cL cBB cII cSh h_this a_this this_taped this_code w_2 w_3 w_1 w_4 this_bitAt this_k this_e1 this_du this_dv f_this_roots f_this_cubes f_this_start224 f_this_start256 f_this_turns f_this_round f_this_statep8' f_this_other f_this_column f_this_words f_this_block) H → va_D A (kWX5_named_start224 cB cI cL cBB cII cSh h_this a_this this_taped this_code w_2 w_3 w_1 w_4 this_bitAt this_k this_e1 this_du this_dv f_this_roots f_this_cubes f_this_start224 f_this_start256 f_this_turns f_this_round f_this_statep8' f_this_other f_this_column f_this_words f_this_block) → va_S A s.heap H locs → lv_has ls 5 [(0, .ref h_this), (1, .ref (a_this 7)), (2, .int p2), (3, .int p3), (4, .int x4p8')] → W p l e krX5_named_start224 s m args below meth c H locs cells slots Q (F0 m 34 ls [])) → W p l e krX5_named_start224 s m args below meth c H locs cells slots Q (F0 m 8 ls []) := by
  obtain ⟨hx, hb, hml, hown, hts⟩ := id C0
  intro fuel
  induction fuel with
  | zero =>
    intro x4p8 f_this_statep8 r h
    exact absurd h (kb_w_z _ _ _)
  | succ fuel ih =>
    intro x4p8 f_this_statep8 r h H locs ls hP hD hS hl hk0
    obtain ⟨o, h, ho⟩ := kb_w_s h
    have h : kSX5_named_start224_8 x4p8 f_this_statep8 = some o := h
    unfold kSX5_named_start224_8 at h
    refine lv_iload hx hb kdX5_named_8 (lv_at hl 4 rfl) ?_
    refine lv_bipush (v := 8) hx hb kdX5_named_10 (by decide) ?_
    refine lv_icmp_ge (tgt := 34) hx hb kdX5_named_12 (by decide) (fun c_7 => ?_) (fun c_7 => ?_)
    · have h := kb_b_t c_7 h
      obtain rfl := Option.some.inj h
      exact hk0 x4p8 f_this_statep8 ho.symm _ _ _ hP hD hS (lv_sub hl [0, 1, 2, 3, 4] rfl)
    · have h := kb_b_f c_7 h
      refine lv_aload_n hx hb kdX5_named_15 rfl (lv_at hl 0 rfl) ?_
      refine va_get (ci := 5) (v := .ref (a_this 13)) (C := kRX5) (T := kTX5) (N := 35) hx hb hts kinX5 hown hK hP 0 rfl rfl 13 (by decide) (hts _ km_694) (fun _ h9 => h9) rfl kdX5_named_16 ?_
      refine lv_iload hx hb kdX5_named_19 (lv_at hl 4 rfl) ?_
      refine lv_dup2_11 hx hb kdX5_named_21 rfl rfl ?_
      obtain ⟨g_8, h⟩ := kb_g_s h
      refine va_lald hx hb hK hP 7 2 rfl rfl (kb_in_v g_8) kdX5_named_22 ?_
      refine lv_ldc2 (v := -6510615555426900571) hx hb hown (hts _ km_640) kdX5_named_23 ?_
      refine lv_lxor hx hb kdX5_named_26 ?_
      obtain ⟨g_9, h⟩ := kb_g_s h
      refine va_last hx hb hK hP hD hS 7 2 rfl rfl (kb_in_v g_9) kdX5_named_27 (fun H locs hP hD hS => ?_)
      obtain ⟨f_10, ef_10⟩ : ∃ y, y = vp_updL f_this_statep8 x4p8.toNatClampNeg ((f_this_statep8 x4p8.toNatClampNeg) ^^^ (-6510615555426900571 : Int64)) := ⟨_, rfl⟩
      have h := kb_n_s ef_10 h
      have hP : va_P D kCl (kWX5_named_start224 cB cI cL cBB cII cSh h_this a_this this_taped this_code w_2 w_3 w_1 w_4 this_bitAt this_k this_e1 this_du this_dv f_this_roots f_this_cubes f_this_start224 f_this_start256 f_this_turns f_this_round f_10 f_this_other f_this_column f_this_words f_this_block) H := by rw [ef_10]; exact hP
      have hD : va_D A (kWX5_named_start224 cB cI cL cBB cII cSh h_this a_this this_taped this_code w_2 w_3 w_1 w_4 this_bitAt this_k this_e1 this_du this_dv f_this_roots f_this_cubes f_this_start224 f_this_start256 f_this_turns f_this_round f_10 f_this_other f_this_column f_this_words f_this_block) := by rw [ef_10]; exact hD
      obtain ⟨x4_11, ex4_11⟩ : ∃ y : Int32, y = x4p8 + Int32.ofInt 1 := ⟨_, rfl⟩
      have h := kb_n_s ex4_11 h
      refine lv_iinc (v := x4_11) (lv' := [(4, .int x4_11), (0, .ref h_this), (1, .ref (a_this 7)), (2, .int p2), (3, .int p3)]) hx hb kdX5_named_28 hl (k := 4) rfl ex4_11.symm (by decide) rfl (fun ls hl => ?_)
      refine lv_goto (tgt := 8) hx hb kdX5_named_31 (by decide) ?_
      obtain rfl := Option.some.inj h
      exact ih x4_11 f_10 r ho _ _ _ hP hD hS (lv_sub hl [1, 2, 3, 4, 0] rfl) hk0
set_option maxHeartbeats 4000000 in
set_option maxRecDepth 100000 in
theorem klX5_named_start224_105 {p : Program} {l : Launch} {e : Env} {s : State} {m : MethodId} {args : Array Value} {below : List Frame} {meth : Method} {c : Code} {cells slots : Nat} {Q : State → Prop} {D : va_G} {cB cI cL cBB cII cSh : ClassId} {A : Nat → Prop} (C0 : CallFix p m c prog_8_method_21_code 5 s args kwA kRX5) (hlocks : meth.locks = false) (hK : va_K D kCl (kb_T cB cI cL cBB cII cSh) s) (hN : kb_N s) (hA : ∀ q, s.heap.size ≤ q → A q) (hcR : cells ≤ krX5_named_start224.cells) (hsR : slots ≤ krX5_named_start224.slots) (h_this : Nat) (a_this : Nat → Nat) (this_taped : Int32) (this_code : Int32) (w_2 : Int32) (w_3 : Int32) (w_102 : Int32) (w_103 : Int64) (this_bitAt : Int32) (this_k : Int32) (this_e1 : Int32) (this_du : Int32) (this_dv : Int32) (f_this_roots : Nat → Int64) (f_this_cubes : Nat → Int64) (f_this_start256 : Nat → Int64) (f_this_turns : Nat → Int32) (f_this_round : Nat → Int64) (f_104 : Nat → Int64) (f_105 : Nat → Int64) (f_106 : Nat → Int64) (f_107 : Nat → Int64) (f_108 : Nat → Int32) :
    ∀ (fuel : Nat) (x4p105 : Int32) (f_this_start224p105 : Nat → Int64) (r : Int32 × (Nat → Int64)), kb_w (fun u : Int32 × (Nat → Int64) => kSX5_named_start224_105 f_104 u.1 u.2) fuel (x4p105, f_this_start224p105) = some r → ∀ (H : Heap) (locs : List Loc) (ls : Array Slot), va_P D kCl (kWX5_named_start224 cB cI cL cBB cII cSh h_this a_this this_taped this_code w_2 w_3 w_102 w_103 this_bitAt this_k this_e1 this_du this_dv f_this_roots f_this_cubes f_this_start224p105 f_this_start256 f_this_turns f_this_round f_104 f_105 f_106 f_107 f_108) H → va_D A (kWX5_named_start224 cB cI cL cBB cII cSh h_this a_this this_taped this_code w_2 w_3 w_102 w_103 this_bitAt this_k this_e1 this_du this_dv f_this_roots f_this_cubes f_this_start224p105 f_this_start256 f_this_turns f_this_round f_104 f_105 f_106 f_107 f_108) → va_S A s.heap H locs → lv_has ls 5 [(0, .ref h_this), (1, .ref (a_this 7)), (4, .int x4p105)] → (∀ (x4p105' : Int32) (f_this_start224p105' : Nat → Int64), r = (x4p105', f_this_start224p105') → ∀ (H : Heap) (locs : List Loc) (ls : Array Slot), va_P D kCl (kWX5_named_start224 cB cI cL cBB cII cSh h_this a_this this_taped this_code w_2 w_3 w_102 w_103 this_bitAt this_k this_e1 this_du this_dv f_this_roots f_this_cubes f_this_start224p105' f_this_start256 f_this_turns f_this_round f_104 f_105 f_106 f_107 f_108) H → va_D A (kWX5_named_start224 cB cI cL cBB cII cSh h_this a_this this_taped this_code w_2 w_3 w_102 w_103 this_bitAt this_k this_e1 this_du this_dv f_this_roots f_this_cubes f_this_start224p105' f_this_start256 f_this_turns f_this_round f_104 f_105 f_106 f_107 f_108) → va_S A s.heap H locs → lv_has ls 5 [(0, .ref h_this), (1, .ref (a_this 7)), (4, .int x4p105')] → W p l e krX5_named_start224 s m args below meth c H locs cells slots Q (F0 m 129 ls [])) → W p l e krX5_named_start224 s m args below meth c H locs cells slots Q (F0 m 105 ls []) := by
  obtain ⟨hx, hb, hml, hown, hts⟩ := id C0
  intro fuel
  induction fuel with
  | zero =>
    intro x4p105 f_this_start224p105 r h
    exact absurd h (kb_w_z _ _ _)
  | succ fuel ih =>
    intro x4p105 f_this_start224p105 r h H locs ls hP hD hS hl hk0
    obtain ⟨o, h, ho⟩ := kb_w_s h
    have h : kSX5_named_start224_105 f_104 x4p105 f_this_start224p105 = some o := h
    unfold kSX5_named_start224_105 at h
    refine lv_iload hx hb kdX5_named_105 (lv_at hl 2 rfl) ?_
    refine lv_bipush (v := 8) hx hb kdX5_named_107 (by decide) ?_
    refine lv_icmp_ge (tgt := 129) hx hb kdX5_named_109 (by decide) (fun c_110 => ?_) (fun c_110 => ?_)
    · have h := kb_b_t c_110 h
      obtain rfl := Option.some.inj h
      exact hk0 x4p105 f_this_start224p105 ho.symm _ _ _ hP hD hS (lv_sub hl [0, 1, 2] rfl)
    · have h := kb_b_f c_110 h
      refine lv_aload_n hx hb kdX5_named_112 rfl (lv_at hl 1 rfl) ?_
      refine lv_iload hx hb kdX5_named_113 (lv_at hl 2 rfl) ?_
      refine lv_aload_n hx hb kdX5_named_115 rfl (lv_at hl 0 rfl) ?_
      refine va_get (ci := 5) (v := .ref (a_this 13)) (C := kRX5) (T := kTX5) (N := 35) hx hb hts kinX5 hown hK hP 0 rfl rfl 13 (by decide) (hts _ km_694) (fun _ h9 => h9) rfl kdX5_named_116 ?_
      refine lv_iload hx hb kdX5_named_119 (lv_at hl 2 rfl) ?_
      obtain ⟨g_111, h⟩ := kb_g_s h
      refine va_lald hx hb hK hP 7 2 rfl rfl (kb_in_v g_111) kdX5_named_121 ?_
      obtain ⟨g_112, h⟩ := kb_g_s h
      refine va_last hx hb hK hP hD hS 3 2 rfl rfl (kb_in_v g_112) kdX5_named_122 (fun H locs hP hD hS => ?_)
      obtain ⟨f_113, ef_113⟩ : ∃ y, y = vp_updL f_this_start224p105 x4p105.toNatClampNeg (f_104 x4p105.toNatClampNeg) := ⟨_, rfl⟩
      have h := kb_n_s ef_113 h
      have hP : va_P D kCl (kWX5_named_start224 cB cI cL cBB cII cSh h_this a_this this_taped this_code w_2 w_3 w_102 w_103 this_bitAt this_k this_e1 this_du this_dv f_this_roots f_this_cubes f_113 f_this_start256 f_this_turns f_this_round f_104 f_105 f_106 f_107 f_108) H := by rw [ef_113]; exact hP
      have hD : va_D A (kWX5_named_start224 cB cI cL cBB cII cSh h_this a_this this_taped this_code w_2 w_3 w_102 w_103 this_bitAt this_k this_e1 this_du this_dv f_this_roots f_this_cubes f_113 f_this_start256 f_this_turns f_this_round f_104 f_105 f_106 f_107 f_108) := by rw [ef_113]; exact hD
      obtain ⟨x4_114, ex4_114⟩ : ∃ y : Int32, y = x4p105 + Int32.ofInt 1 := ⟨_, rfl⟩
      have h := kb_n_s ex4_114 h
      refine lv_iinc (v := x4_114) (lv' := [(4, .int x4_114), (0, .ref h_this), (1, .ref (a_this 7))]) hx hb kdX5_named_123 hl (k := 2) rfl ex4_114.symm (by decide) rfl (fun ls hl => ?_)
      refine lv_goto (tgt := 105) hx hb kdX5_named_126 (by decide) ?_
      obtain rfl := Option.some.inj h
      exact ih x4_114 f_113 r ho _ _ _ hP hD hS (lv_sub hl [1, 2, 0] rfl) hk0
set_option maxHeartbeats 4000000 in
set_option maxRecDepth 100000 in
theorem kcX5_named_start224 (l : Launch) (D : va_G) (cB cI cL cBB cII cSh : ClassId) (h_this : Nat) (a_this : Nat → Nat) (sz : Nat) (p2 : Int32) (p3 : Int32) (this_taped : Int32) (this_code : Int32) (this_kind : Int32) (this_rate : Int32) (this_filled : Int32) (this_total : Int64) (this_bitAt : Int32) (this_k : Int32) (this_e1 : Int32) (this_du : Int32) (this_dv : Int32) (f_this_roots : Nat → Int64) (f_this_cubes : Nat → Int64) (f_this_start224 : Nat → Int64) (f_this_start256 : Nat → Int64) (f_this_turns : Nat → Int32) (f_this_round : Nat → Int64) (f_this_state : Nat → Int64) (f_this_other : Nat → Int64) (f_this_column : Nat → Int64) (f_this_words : Nat → Int64) (f_this_block : Nat → Int32) (out : Int32 × Int32 × Int32 × Int64 × (Nat → Int64) × (Nat → Int64) × (Nat → Int64) × (Nat → Int64) × (Nat → Int64) × (Nat → Int32)) (h : kFX5_named_start224 p2 p3 f_this_roots f_this_cubes f_this_start224 f_this_start256 f_this_turns f_this_round f_this_state f_this_other f_this_column f_this_words f_this_block = some out) : Met l kyX5_named kwX5_named krX5_named_start224 (kb_P D kCl (kb_T cB cI cL cBB cII cSh) [.ref h_this, .ref (a_this 7), .int p2, .int p3] (kWX5_named_start224 cB cI cL cBB cII cSh h_this a_this this_taped this_code this_kind this_rate this_filled this_total this_bitAt this_k this_e1 this_du this_dv f_this_roots f_this_cubes f_this_start224 f_this_start256 f_this_turns f_this_round f_this_state f_this_other f_this_column f_this_words f_this_block) sz) (kb_Q D kCl (kb_T cB cI cL cBB cII cSh) (va_A (kWX5_named_start224 cB cI cL cBB cII cSh h_this a_this this_taped this_code this_kind this_rate this_filled this_total this_bitAt this_k this_e1 this_du this_dv f_this_roots f_this_cubes f_this_start224 f_this_start256 f_this_turns f_this_round f_this_state f_this_other f_this_column f_this_words f_this_block) sz) none (kWX5_named_start224 cB cI cL cBB cII cSh h_this a_this this_taped this_code out.2.1 out.2.2.1 out.1 out.2.2.2.1 this_bitAt this_k this_e1 this_du this_dv f_this_roots f_this_cubes out.2.2.2.2.1 f_this_start256 f_this_turns f_this_round out.2.2.2.2.2.1 out.2.2.2.2.2.2.1 out.2.2.2.2.2.2.2.1 out.2.2.2.2.2.2.2.2.1 out.2.2.2.2.2.2.2.2.2)) 0 0 (va_A (kWX5_named_start224 cB cI cL cBB cII cSh h_this a_this this_taped this_code this_kind this_rate this_filled this_total this_bitAt this_k this_e1 this_du this_dv f_this_roots f_this_cubes f_this_start224 f_this_start256 f_this_turns f_this_round f_this_state f_this_other f_this_column f_this_words f_this_block) sz) := by
  refine Met.ofW (cc := prog_8_method_21_code) (maxL := 5) (ret := none) (by decide) rfl ?_
  intro p e s m args below meth c s₁ B hml hv
  obtain ⟨rfl, hsz, hP, hK, hN, hD0⟩ := hv
  have hx := B.exec
  have hb := B.bytes
  have hr := B.returns
  have hts0 := atoms_spec (ws := kwX5_named) B.pre
  have hts : ∀ w ∈ kwA, w.before _ s = true := fun w h => hts0 w (List.mem_cons_of_mem _ h)
  have hown : s.vm.findClass kRX5 = some m.cls := findClass_of_methodNamed B.named
  have hlocks := B.notSynchronized
  subst hsz
  have hD := hD0.self (sz := s.heap.size)
  generalize hAe : va_A (kWX5_named_start224 cB cI cL cBB cII cSh h_this a_this this_taped this_code this_kind this_rate this_filled this_total this_bitAt this_k this_e1 this_du this_dv f_this_roots f_this_cubes f_this_start224 f_this_start256 f_this_turns f_this_round f_this_state f_this_other f_this_column f_this_words f_this_block) s.heap.size = A at hD ⊢
  have hA : ∀ q : Nat, s.heap.size ≤ q → A q := fun q h => by rw [← hAe]; exact Or.inr h
  have hS : va_S A s.heap s.heap [] := va_S.rf
  have C0 : CallFix p m c prog_8_method_21_code 5 s _ kwA kRX5 := ⟨hx, hb, hml, hown, hts⟩
  have hl := lv_entry ([.ref h_this, .ref (a_this 7), .int p2, .int p3]) (n := 5) (Nat.le_of_ble_eq_true rfl)
  rw [lg_entry_eq]
  generalize (lg_sl ([.ref h_this, .ref (a_this 7), .int p2, .int p3]) ++ List.replicate (5 - (lg_sl ([.ref h_this, .ref (a_this 7), .int p2, .int p3])).length) Slot.unset).toArray = ls at hl ⊢
  have hl : lv_has ls 5 [(0, .ref h_this), (1, .ref (a_this 7)), (2, .int p2), (3, .int p3)] := hl
  unfold kFX5_named_start224 at h
  refine lv_aload_n hx hb kdX5_named_0 rfl (lv_at hl 0 rfl) ?_
  refine lv_iconst (v := 3) hx hb kdX5_named_1 (by decide) ?_
  obtain ⟨u_6, hu_6, h⟩ := kb_o_s h
  obtain ⟨w_1, w_2, w_3, w_4, f_5⟩ := u_6
  have hC := (show ([0, 1, 3, 4, 7] : List Nat).map (fun i : Nat => (kWX5_named_start224 cB cI cL cBB cII cSh h_this a_this this_taped this_code this_kind this_rate this_filled this_total this_bitAt this_k this_e1 this_du this_dv f_this_roots f_this_cubes f_this_start224 f_this_start256 f_this_turns f_this_round f_this_state f_this_other f_this_column f_this_words f_this_block)[i]?) = List.map some (kWX5_begin cB cI cL cBB cII cSh h_this a_this this_taped this_code this_kind this_rate this_filled this_total this_bitAt this_k this_e1 this_du this_dv f_this_roots f_this_start224 f_this_start256 f_this_state) from rfl)
  have hPc := kb_Psub hP ([0, 1, 3, 4, 7] : List Nat) hC
  have hDc := kb_Dsub hD ([0, 1, 3, 4, 7] : List Nat) hC (by simp [kb_nd])
  refine kb_call0 (va_runV (As := [.int (3 : Int32)]) (rest := []) C0 (kcX5_begin l D cB cI cL cBB cII cSh h_this a_this _ (3 : Int32) this_taped this_code this_kind this_rate this_filled this_total this_bitAt this_k this_e1 this_du this_dv f_this_roots f_this_start224 f_this_start256 f_this_state (w_1, w_2, w_3, w_4, f_5) hu_6) (cwV 1 hts (kb_gV km_629 km_631 kp_4 km_6 km_632) rfl rfl rfl (by decide +kernel) ⟨Nat.le_of_ble_eq_true rfl, Nat.le_of_ble_eq_true rfl⟩) ⟨kb_P_bl, va_recv hK hP (ci := 5) (q0 := 0) rfl rfl, (fun U hU hW => ⟨rfl, by rw [hU], by rw [hU]; exact hPc, va_K.moved hW.alike hK, kb_N_to hW hN, hDc.weaken (fun _ _ _ _ => trivial)⟩)⟩ rfl rfl hl.1 rfl (lv_room (Nat.le_of_ble_eq_true rfl)) kdX5_named_2 ⟨Nat.le_of_ble_eq_true rfl, Nat.le_of_ble_eq_true rfl⟩) hP hD hS hA ([0, 1, 3, 4, 7] : List Nat) hC rfl (fun H locs hP hD hS => ?_)
  have hP : va_P D kCl (kWX5_named_start224 cB cI cL cBB cII cSh h_this a_this this_taped this_code w_2 w_3 w_1 w_4 this_bitAt this_k this_e1 this_du this_dv f_this_roots f_this_cubes f_this_start224 f_this_start256 f_this_turns f_this_round f_5 f_this_other f_this_column f_this_words f_this_block) H := hP
  have hD : va_D A (kWX5_named_start224 cB cI cL cBB cII cSh h_this a_this this_taped this_code w_2 w_3 w_1 w_4 this_bitAt this_k this_e1 this_du this_dv f_this_roots f_this_cubes f_this_start224 f_this_start256 f_this_turns f_this_round f_5 f_this_other f_this_column f_this_words f_this_block) := hD
  refine lv_iconst (v := 0) hx hb kdX5_named_5 (by decide) ?_
  refine lv_istore (lv' := [(4, .int (0 : Int32)), (0, .ref h_this), (1, .ref (a_this 7)), (2, .int p2), (3, .int p3)]) hx hb kdX5_named_6 hl (by decide) rfl (fun ls hl => ?_)
  obtain ⟨r_118, hr_118, h⟩ := kb_o_s h
  refine klX5_named_start224_8 C0 hlocks hK hN hA (by decide) (by decide) h_this a_this p2 p3 this_taped this_code w_2 w_3 w_1 w_4 this_bitAt this_k this_e1 this_du this_dv f_this_roots f_this_cubes f_this_start224 f_this_start256 f_this_turns f_this_round f_this_other f_this_column f_this_words f_this_block 100000 (0 : Int32) f_5 r_118 hr_118 _ _ _ hP hD hS (lv_sub hl [1, 2, 3, 4, 0] rfl) (fun x4p8_12 f_this_statep8_13 er_118 H locs ls hP hD hS hl => ?_)
  subst er_118
  refine lv_aload_n hx hb kdX5_named_34 rfl (lv_at hl 0 rfl) ?_
  refine lv_bipush (v := 83) hx hb kdX5_named_35 (by decide) ?_
  obtain ⟨u_21, hu_21, h⟩ := kb_o_s h
  obtain ⟨w_14, w_15, f_16, f_17, f_18, f_19, f_20⟩ := u_21
  have hC := (show ([0, 2, 5, 6, 7, 8, 9, 10, 11] : List Nat).map (fun i : Nat => (kWX5_named_start224 cB cI cL cBB cII cSh h_this a_this this_taped this_code w_2 w_3 w_1 w_4 this_bitAt this_k this_e1 this_du this_dv f_this_roots f_this_cubes f_this_start224 f_this_start256 f_this_turns f_this_round f_this_statep8_13 f_this_other f_this_column f_this_words f_this_block)[i]?) = List.map some (kWX5_put cB cI cL cBB cII cSh h_this a_this this_taped this_code w_2 w_3 w_1 w_4 this_bitAt this_k this_e1 this_du this_dv f_this_cubes f_this_turns f_this_round f_this_statep8_13 f_this_other f_this_column f_this_words f_this_block) from rfl)
  have hPc := kb_Psub hP ([0, 2, 5, 6, 7, 8, 9, 10, 11] : List Nat) hC
  have hDc := kb_Dsub hD ([0, 2, 5, 6, 7, 8, 9, 10, 11] : List Nat) hC (by simp [kb_nd])
  refine kb_call0 (va_runV (As := [.int (83 : Int32)]) (rest := []) C0 (kcX5_put l D cB cI cL cBB cII cSh h_this a_this _ (83 : Int32) this_taped this_code w_2 w_3 w_1 w_4 this_bitAt this_k this_e1 this_du this_dv f_this_cubes f_this_turns f_this_round f_this_statep8_13 f_this_other f_this_column f_this_words f_this_block (w_14, w_15, f_16, f_17, f_18, f_19, f_20) hu_21) (cwV 1 hts (kb_gV km_641 km_643 kp_22 km_6 km_644) rfl rfl rfl (by decide +kernel) ⟨Nat.le_of_ble_eq_true rfl, Nat.le_of_ble_eq_true rfl⟩) ⟨kb_P_bl, va_recv hK hP (ci := 5) (q0 := 0) rfl rfl, (fun U hU hW => ⟨rfl, by rw [hU], by rw [hU]; exact hPc, va_K.moved hW.alike hK, kb_N_to hW hN, hDc.weaken (fun _ _ _ _ => trivial)⟩)⟩ rfl rfl hl.1 rfl (lv_room (Nat.le_of_ble_eq_true rfl)) kdX5_named_37 ⟨Nat.le_of_ble_eq_true rfl, Nat.le_of_ble_eq_true rfl⟩) hP hD hS hA ([0, 2, 5, 6, 7, 8, 9, 10, 11] : List Nat) hC rfl (fun H locs hP hD hS => ?_)
  have hP : va_P D kCl (kWX5_named_start224 cB cI cL cBB cII cSh h_this a_this this_taped this_code w_2 w_3 w_14 w_15 this_bitAt this_k this_e1 this_du this_dv f_this_roots f_this_cubes f_this_start224 f_this_start256 f_this_turns f_this_round f_16 f_17 f_18 f_19 f_20) H := hP
  have hD : va_D A (kWX5_named_start224 cB cI cL cBB cII cSh h_this a_this this_taped this_code w_2 w_3 w_14 w_15 this_bitAt this_k this_e1 this_du this_dv f_this_roots f_this_cubes f_this_start224 f_this_start256 f_this_turns f_this_round f_16 f_17 f_18 f_19 f_20) := hD
  refine lv_aload_n hx hb kdX5_named_40 rfl (lv_at hl 0 rfl) ?_
  refine lv_bipush (v := 72) hx hb kdX5_named_41 (by decide) ?_
  obtain ⟨u_29, hu_29, h⟩ := kb_o_s h
  obtain ⟨w_22, w_23, f_24, f_25, f_26, f_27, f_28⟩ := u_29
  have hC := (show ([0, 2, 5, 6, 7, 8, 9, 10, 11] : List Nat).map (fun i : Nat => (kWX5_named_start224 cB cI cL cBB cII cSh h_this a_this this_taped this_code w_2 w_3 w_14 w_15 this_bitAt this_k this_e1 this_du this_dv f_this_roots f_this_cubes f_this_start224 f_this_start256 f_this_turns f_this_round f_16 f_17 f_18 f_19 f_20)[i]?) = List.map some (kWX5_put cB cI cL cBB cII cSh h_this a_this this_taped this_code w_2 w_3 w_14 w_15 this_bitAt this_k this_e1 this_du this_dv f_this_cubes f_this_turns f_this_round f_16 f_17 f_18 f_19 f_20) from rfl)
  have hPc := kb_Psub hP ([0, 2, 5, 6, 7, 8, 9, 10, 11] : List Nat) hC
  have hDc := kb_Dsub hD ([0, 2, 5, 6, 7, 8, 9, 10, 11] : List Nat) hC (by simp [kb_nd])
  refine kb_call0 (va_runV (As := [.int (72 : Int32)]) (rest := []) C0 (kcX5_put l D cB cI cL cBB cII cSh h_this a_this _ (72 : Int32) this_taped this_code w_2 w_3 w_14 w_15 this_bitAt this_k this_e1 this_du this_dv f_this_cubes f_this_turns f_this_round f_16 f_17 f_18 f_19 f_20 (w_22, w_23, f_24, f_25, f_26, f_27, f_28) hu_29) (cwV 1 hts (kb_gV km_641 km_643 kp_22 km_6 km_644) rfl rfl rfl (by decide +kernel) ⟨Nat.le_of_ble_eq_true rfl, Nat.le_of_ble_eq_true rfl⟩) ⟨kb_P_bl, va_recv hK hP (ci := 5) (q0 := 0) rfl rfl, (fun U hU hW => ⟨rfl, by rw [hU], by rw [hU]; exact hPc, va_K.moved hW.alike hK, kb_N_to hW hN, hDc.weaken (fun _ _ _ _ => trivial)⟩)⟩ rfl rfl hl.1 rfl (lv_room (Nat.le_of_ble_eq_true rfl)) kdX5_named_43 ⟨Nat.le_of_ble_eq_true rfl, Nat.le_of_ble_eq_true rfl⟩) hP hD hS hA ([0, 2, 5, 6, 7, 8, 9, 10, 11] : List Nat) hC rfl (fun H locs hP hD hS => ?_)
  have hP : va_P D kCl (kWX5_named_start224 cB cI cL cBB cII cSh h_this a_this this_taped this_code w_2 w_3 w_22 w_23 this_bitAt this_k this_e1 this_du this_dv f_this_roots f_this_cubes f_this_start224 f_this_start256 f_this_turns f_this_round f_24 f_25 f_26 f_27 f_28) H := hP
  have hD : va_D A (kWX5_named_start224 cB cI cL cBB cII cSh h_this a_this this_taped this_code w_2 w_3 w_22 w_23 this_bitAt this_k this_e1 this_du this_dv f_this_roots f_this_cubes f_this_start224 f_this_start256 f_this_turns f_this_round f_24 f_25 f_26 f_27 f_28) := hD
  refine lv_aload_n hx hb kdX5_named_46 rfl (lv_at hl 0 rfl) ?_
  refine lv_bipush (v := 65) hx hb kdX5_named_47 (by decide) ?_
  obtain ⟨u_37, hu_37, h⟩ := kb_o_s h
  obtain ⟨w_30, w_31, f_32, f_33, f_34, f_35, f_36⟩ := u_37
  have hC := (show ([0, 2, 5, 6, 7, 8, 9, 10, 11] : List Nat).map (fun i : Nat => (kWX5_named_start224 cB cI cL cBB cII cSh h_this a_this this_taped this_code w_2 w_3 w_22 w_23 this_bitAt this_k this_e1 this_du this_dv f_this_roots f_this_cubes f_this_start224 f_this_start256 f_this_turns f_this_round f_24 f_25 f_26 f_27 f_28)[i]?) = List.map some (kWX5_put cB cI cL cBB cII cSh h_this a_this this_taped this_code w_2 w_3 w_22 w_23 this_bitAt this_k this_e1 this_du this_dv f_this_cubes f_this_turns f_this_round f_24 f_25 f_26 f_27 f_28) from rfl)
  have hPc := kb_Psub hP ([0, 2, 5, 6, 7, 8, 9, 10, 11] : List Nat) hC
  have hDc := kb_Dsub hD ([0, 2, 5, 6, 7, 8, 9, 10, 11] : List Nat) hC (by simp [kb_nd])
  refine kb_call0 (va_runV (As := [.int (65 : Int32)]) (rest := []) C0 (kcX5_put l D cB cI cL cBB cII cSh h_this a_this _ (65 : Int32) this_taped this_code w_2 w_3 w_22 w_23 this_bitAt this_k this_e1 this_du this_dv f_this_cubes f_this_turns f_this_round f_24 f_25 f_26 f_27 f_28 (w_30, w_31, f_32, f_33, f_34, f_35, f_36) hu_37) (cwV 1 hts (kb_gV km_641 km_643 kp_22 km_6 km_644) rfl rfl rfl (by decide +kernel) ⟨Nat.le_of_ble_eq_true rfl, Nat.le_of_ble_eq_true rfl⟩) ⟨kb_P_bl, va_recv hK hP (ci := 5) (q0 := 0) rfl rfl, (fun U hU hW => ⟨rfl, by rw [hU], by rw [hU]; exact hPc, va_K.moved hW.alike hK, kb_N_to hW hN, hDc.weaken (fun _ _ _ _ => trivial)⟩)⟩ rfl rfl hl.1 rfl (lv_room (Nat.le_of_ble_eq_true rfl)) kdX5_named_49 ⟨Nat.le_of_ble_eq_true rfl, Nat.le_of_ble_eq_true rfl⟩) hP hD hS hA ([0, 2, 5, 6, 7, 8, 9, 10, 11] : List Nat) hC rfl (fun H locs hP hD hS => ?_)
  have hP : va_P D kCl (kWX5_named_start224 cB cI cL cBB cII cSh h_this a_this this_taped this_code w_2 w_3 w_30 w_31 this_bitAt this_k this_e1 this_du this_dv f_this_roots f_this_cubes f_this_start224 f_this_start256 f_this_turns f_this_round f_32 f_33 f_34 f_35 f_36) H := hP
  have hD : va_D A (kWX5_named_start224 cB cI cL cBB cII cSh h_this a_this this_taped this_code w_2 w_3 w_30 w_31 this_bitAt this_k this_e1 this_du this_dv f_this_roots f_this_cubes f_this_start224 f_this_start256 f_this_turns f_this_round f_32 f_33 f_34 f_35 f_36) := hD
  refine lv_aload_n hx hb kdX5_named_52 rfl (lv_at hl 0 rfl) ?_
  refine lv_bipush (v := 45) hx hb kdX5_named_53 (by decide) ?_
  obtain ⟨u_45, hu_45, h⟩ := kb_o_s h
  obtain ⟨w_38, w_39, f_40, f_41, f_42, f_43, f_44⟩ := u_45
  have hC := (show ([0, 2, 5, 6, 7, 8, 9, 10, 11] : List Nat).map (fun i : Nat => (kWX5_named_start224 cB cI cL cBB cII cSh h_this a_this this_taped this_code w_2 w_3 w_30 w_31 this_bitAt this_k this_e1 this_du this_dv f_this_roots f_this_cubes f_this_start224 f_this_start256 f_this_turns f_this_round f_32 f_33 f_34 f_35 f_36)[i]?) = List.map some (kWX5_put cB cI cL cBB cII cSh h_this a_this this_taped this_code w_2 w_3 w_30 w_31 this_bitAt this_k this_e1 this_du this_dv f_this_cubes f_this_turns f_this_round f_32 f_33 f_34 f_35 f_36) from rfl)
  have hPc := kb_Psub hP ([0, 2, 5, 6, 7, 8, 9, 10, 11] : List Nat) hC
  have hDc := kb_Dsub hD ([0, 2, 5, 6, 7, 8, 9, 10, 11] : List Nat) hC (by simp [kb_nd])
  refine kb_call0 (va_runV (As := [.int (45 : Int32)]) (rest := []) C0 (kcX5_put l D cB cI cL cBB cII cSh h_this a_this _ (45 : Int32) this_taped this_code w_2 w_3 w_30 w_31 this_bitAt this_k this_e1 this_du this_dv f_this_cubes f_this_turns f_this_round f_32 f_33 f_34 f_35 f_36 (w_38, w_39, f_40, f_41, f_42, f_43, f_44) hu_45) (cwV 1 hts (kb_gV km_641 km_643 kp_22 km_6 km_644) rfl rfl rfl (by decide +kernel) ⟨Nat.le_of_ble_eq_true rfl, Nat.le_of_ble_eq_true rfl⟩) ⟨kb_P_bl, va_recv hK hP (ci := 5) (q0 := 0) rfl rfl, (fun U hU hW => ⟨rfl, by rw [hU], by rw [hU]; exact hPc, va_K.moved hW.alike hK, kb_N_to hW hN, hDc.weaken (fun _ _ _ _ => trivial)⟩)⟩ rfl rfl hl.1 rfl (lv_room (Nat.le_of_ble_eq_true rfl)) kdX5_named_55 ⟨Nat.le_of_ble_eq_true rfl, Nat.le_of_ble_eq_true rfl⟩) hP hD hS hA ([0, 2, 5, 6, 7, 8, 9, 10, 11] : List Nat) hC rfl (fun H locs hP hD hS => ?_)
  have hP : va_P D kCl (kWX5_named_start224 cB cI cL cBB cII cSh h_this a_this this_taped this_code w_2 w_3 w_38 w_39 this_bitAt this_k this_e1 this_du this_dv f_this_roots f_this_cubes f_this_start224 f_this_start256 f_this_turns f_this_round f_40 f_41 f_42 f_43 f_44) H := hP
  have hD : va_D A (kWX5_named_start224 cB cI cL cBB cII cSh h_this a_this this_taped this_code w_2 w_3 w_38 w_39 this_bitAt this_k this_e1 this_du this_dv f_this_roots f_this_cubes f_this_start224 f_this_start256 f_this_turns f_this_round f_40 f_41 f_42 f_43 f_44) := hD
  refine lv_aload_n hx hb kdX5_named_58 rfl (lv_at hl 0 rfl) ?_
  refine lv_bipush (v := 53) hx hb kdX5_named_59 (by decide) ?_
  obtain ⟨u_53, hu_53, h⟩ := kb_o_s h
  obtain ⟨w_46, w_47, f_48, f_49, f_50, f_51, f_52⟩ := u_53
  have hC := (show ([0, 2, 5, 6, 7, 8, 9, 10, 11] : List Nat).map (fun i : Nat => (kWX5_named_start224 cB cI cL cBB cII cSh h_this a_this this_taped this_code w_2 w_3 w_38 w_39 this_bitAt this_k this_e1 this_du this_dv f_this_roots f_this_cubes f_this_start224 f_this_start256 f_this_turns f_this_round f_40 f_41 f_42 f_43 f_44)[i]?) = List.map some (kWX5_put cB cI cL cBB cII cSh h_this a_this this_taped this_code w_2 w_3 w_38 w_39 this_bitAt this_k this_e1 this_du this_dv f_this_cubes f_this_turns f_this_round f_40 f_41 f_42 f_43 f_44) from rfl)
  have hPc := kb_Psub hP ([0, 2, 5, 6, 7, 8, 9, 10, 11] : List Nat) hC
  have hDc := kb_Dsub hD ([0, 2, 5, 6, 7, 8, 9, 10, 11] : List Nat) hC (by simp [kb_nd])
  refine kb_call0 (va_runV (As := [.int (53 : Int32)]) (rest := []) C0 (kcX5_put l D cB cI cL cBB cII cSh h_this a_this _ (53 : Int32) this_taped this_code w_2 w_3 w_38 w_39 this_bitAt this_k this_e1 this_du this_dv f_this_cubes f_this_turns f_this_round f_40 f_41 f_42 f_43 f_44 (w_46, w_47, f_48, f_49, f_50, f_51, f_52) hu_53) (cwV 1 hts (kb_gV km_641 km_643 kp_22 km_6 km_644) rfl rfl rfl (by decide +kernel) ⟨Nat.le_of_ble_eq_true rfl, Nat.le_of_ble_eq_true rfl⟩) ⟨kb_P_bl, va_recv hK hP (ci := 5) (q0 := 0) rfl rfl, (fun U hU hW => ⟨rfl, by rw [hU], by rw [hU]; exact hPc, va_K.moved hW.alike hK, kb_N_to hW hN, hDc.weaken (fun _ _ _ _ => trivial)⟩)⟩ rfl rfl hl.1 rfl (lv_room (Nat.le_of_ble_eq_true rfl)) kdX5_named_61 ⟨Nat.le_of_ble_eq_true rfl, Nat.le_of_ble_eq_true rfl⟩) hP hD hS hA ([0, 2, 5, 6, 7, 8, 9, 10, 11] : List Nat) hC rfl (fun H locs hP hD hS => ?_)
  have hP : va_P D kCl (kWX5_named_start224 cB cI cL cBB cII cSh h_this a_this this_taped this_code w_2 w_3 w_46 w_47 this_bitAt this_k this_e1 this_du this_dv f_this_roots f_this_cubes f_this_start224 f_this_start256 f_this_turns f_this_round f_48 f_49 f_50 f_51 f_52) H := hP
  have hD : va_D A (kWX5_named_start224 cB cI cL cBB cII cSh h_this a_this this_taped this_code w_2 w_3 w_46 w_47 this_bitAt this_k this_e1 this_du this_dv f_this_roots f_this_cubes f_this_start224 f_this_start256 f_this_turns f_this_round f_48 f_49 f_50 f_51 f_52) := hD
  refine lv_aload_n hx hb kdX5_named_64 rfl (lv_at hl 0 rfl) ?_
  refine lv_bipush (v := 49) hx hb kdX5_named_65 (by decide) ?_
  obtain ⟨u_61, hu_61, h⟩ := kb_o_s h
  obtain ⟨w_54, w_55, f_56, f_57, f_58, f_59, f_60⟩ := u_61
  have hC := (show ([0, 2, 5, 6, 7, 8, 9, 10, 11] : List Nat).map (fun i : Nat => (kWX5_named_start224 cB cI cL cBB cII cSh h_this a_this this_taped this_code w_2 w_3 w_46 w_47 this_bitAt this_k this_e1 this_du this_dv f_this_roots f_this_cubes f_this_start224 f_this_start256 f_this_turns f_this_round f_48 f_49 f_50 f_51 f_52)[i]?) = List.map some (kWX5_put cB cI cL cBB cII cSh h_this a_this this_taped this_code w_2 w_3 w_46 w_47 this_bitAt this_k this_e1 this_du this_dv f_this_cubes f_this_turns f_this_round f_48 f_49 f_50 f_51 f_52) from rfl)
  have hPc := kb_Psub hP ([0, 2, 5, 6, 7, 8, 9, 10, 11] : List Nat) hC
  have hDc := kb_Dsub hD ([0, 2, 5, 6, 7, 8, 9, 10, 11] : List Nat) hC (by simp [kb_nd])
  refine kb_call0 (va_runV (As := [.int (49 : Int32)]) (rest := []) C0 (kcX5_put l D cB cI cL cBB cII cSh h_this a_this _ (49 : Int32) this_taped this_code w_2 w_3 w_46 w_47 this_bitAt this_k this_e1 this_du this_dv f_this_cubes f_this_turns f_this_round f_48 f_49 f_50 f_51 f_52 (w_54, w_55, f_56, f_57, f_58, f_59, f_60) hu_61) (cwV 1 hts (kb_gV km_641 km_643 kp_22 km_6 km_644) rfl rfl rfl (by decide +kernel) ⟨Nat.le_of_ble_eq_true rfl, Nat.le_of_ble_eq_true rfl⟩) ⟨kb_P_bl, va_recv hK hP (ci := 5) (q0 := 0) rfl rfl, (fun U hU hW => ⟨rfl, by rw [hU], by rw [hU]; exact hPc, va_K.moved hW.alike hK, kb_N_to hW hN, hDc.weaken (fun _ _ _ _ => trivial)⟩)⟩ rfl rfl hl.1 rfl (lv_room (Nat.le_of_ble_eq_true rfl)) kdX5_named_67 ⟨Nat.le_of_ble_eq_true rfl, Nat.le_of_ble_eq_true rfl⟩) hP hD hS hA ([0, 2, 5, 6, 7, 8, 9, 10, 11] : List Nat) hC rfl (fun H locs hP hD hS => ?_)
  have hP : va_P D kCl (kWX5_named_start224 cB cI cL cBB cII cSh h_this a_this this_taped this_code w_2 w_3 w_54 w_55 this_bitAt this_k this_e1 this_du this_dv f_this_roots f_this_cubes f_this_start224 f_this_start256 f_this_turns f_this_round f_56 f_57 f_58 f_59 f_60) H := hP
  have hD : va_D A (kWX5_named_start224 cB cI cL cBB cII cSh h_this a_this this_taped this_code w_2 w_3 w_54 w_55 this_bitAt this_k this_e1 this_du this_dv f_this_roots f_this_cubes f_this_start224 f_this_start256 f_this_turns f_this_round f_56 f_57 f_58 f_59 f_60) := hD
  refine lv_aload_n hx hb kdX5_named_70 rfl (lv_at hl 0 rfl) ?_
  refine lv_bipush (v := 50) hx hb kdX5_named_71 (by decide) ?_
  obtain ⟨u_69, hu_69, h⟩ := kb_o_s h
  obtain ⟨w_62, w_63, f_64, f_65, f_66, f_67, f_68⟩ := u_69
  have hC := (show ([0, 2, 5, 6, 7, 8, 9, 10, 11] : List Nat).map (fun i : Nat => (kWX5_named_start224 cB cI cL cBB cII cSh h_this a_this this_taped this_code w_2 w_3 w_54 w_55 this_bitAt this_k this_e1 this_du this_dv f_this_roots f_this_cubes f_this_start224 f_this_start256 f_this_turns f_this_round f_56 f_57 f_58 f_59 f_60)[i]?) = List.map some (kWX5_put cB cI cL cBB cII cSh h_this a_this this_taped this_code w_2 w_3 w_54 w_55 this_bitAt this_k this_e1 this_du this_dv f_this_cubes f_this_turns f_this_round f_56 f_57 f_58 f_59 f_60) from rfl)
  have hPc := kb_Psub hP ([0, 2, 5, 6, 7, 8, 9, 10, 11] : List Nat) hC
  have hDc := kb_Dsub hD ([0, 2, 5, 6, 7, 8, 9, 10, 11] : List Nat) hC (by simp [kb_nd])
  refine kb_call0 (va_runV (As := [.int (50 : Int32)]) (rest := []) C0 (kcX5_put l D cB cI cL cBB cII cSh h_this a_this _ (50 : Int32) this_taped this_code w_2 w_3 w_54 w_55 this_bitAt this_k this_e1 this_du this_dv f_this_cubes f_this_turns f_this_round f_56 f_57 f_58 f_59 f_60 (w_62, w_63, f_64, f_65, f_66, f_67, f_68) hu_69) (cwV 1 hts (kb_gV km_641 km_643 kp_22 km_6 km_644) rfl rfl rfl (by decide +kernel) ⟨Nat.le_of_ble_eq_true rfl, Nat.le_of_ble_eq_true rfl⟩) ⟨kb_P_bl, va_recv hK hP (ci := 5) (q0 := 0) rfl rfl, (fun U hU hW => ⟨rfl, by rw [hU], by rw [hU]; exact hPc, va_K.moved hW.alike hK, kb_N_to hW hN, hDc.weaken (fun _ _ _ _ => trivial)⟩)⟩ rfl rfl hl.1 rfl (lv_room (Nat.le_of_ble_eq_true rfl)) kdX5_named_73 ⟨Nat.le_of_ble_eq_true rfl, Nat.le_of_ble_eq_true rfl⟩) hP hD hS hA ([0, 2, 5, 6, 7, 8, 9, 10, 11] : List Nat) hC rfl (fun H locs hP hD hS => ?_)
  have hP : va_P D kCl (kWX5_named_start224 cB cI cL cBB cII cSh h_this a_this this_taped this_code w_2 w_3 w_62 w_63 this_bitAt this_k this_e1 this_du this_dv f_this_roots f_this_cubes f_this_start224 f_this_start256 f_this_turns f_this_round f_64 f_65 f_66 f_67 f_68) H := hP
  have hD : va_D A (kWX5_named_start224 cB cI cL cBB cII cSh h_this a_this this_taped this_code w_2 w_3 w_62 w_63 this_bitAt this_k this_e1 this_du this_dv f_this_roots f_this_cubes f_this_start224 f_this_start256 f_this_turns f_this_round f_64 f_65 f_66 f_67 f_68) := hD
  refine lv_aload_n hx hb kdX5_named_76 rfl (lv_at hl 0 rfl) ?_
  refine lv_bipush (v := 47) hx hb kdX5_named_77 (by decide) ?_
  obtain ⟨u_77, hu_77, h⟩ := kb_o_s h
  obtain ⟨w_70, w_71, f_72, f_73, f_74, f_75, f_76⟩ := u_77
  have hC := (show ([0, 2, 5, 6, 7, 8, 9, 10, 11] : List Nat).map (fun i : Nat => (kWX5_named_start224 cB cI cL cBB cII cSh h_this a_this this_taped this_code w_2 w_3 w_62 w_63 this_bitAt this_k this_e1 this_du this_dv f_this_roots f_this_cubes f_this_start224 f_this_start256 f_this_turns f_this_round f_64 f_65 f_66 f_67 f_68)[i]?) = List.map some (kWX5_put cB cI cL cBB cII cSh h_this a_this this_taped this_code w_2 w_3 w_62 w_63 this_bitAt this_k this_e1 this_du this_dv f_this_cubes f_this_turns f_this_round f_64 f_65 f_66 f_67 f_68) from rfl)
  have hPc := kb_Psub hP ([0, 2, 5, 6, 7, 8, 9, 10, 11] : List Nat) hC
  have hDc := kb_Dsub hD ([0, 2, 5, 6, 7, 8, 9, 10, 11] : List Nat) hC (by simp [kb_nd])
  refine kb_call0 (va_runV (As := [.int (47 : Int32)]) (rest := []) C0 (kcX5_put l D cB cI cL cBB cII cSh h_this a_this _ (47 : Int32) this_taped this_code w_2 w_3 w_62 w_63 this_bitAt this_k this_e1 this_du this_dv f_this_cubes f_this_turns f_this_round f_64 f_65 f_66 f_67 f_68 (w_70, w_71, f_72, f_73, f_74, f_75, f_76) hu_77) (cwV 1 hts (kb_gV km_641 km_643 kp_22 km_6 km_644) rfl rfl rfl (by decide +kernel) ⟨Nat.le_of_ble_eq_true rfl, Nat.le_of_ble_eq_true rfl⟩) ⟨kb_P_bl, va_recv hK hP (ci := 5) (q0 := 0) rfl rfl, (fun U hU hW => ⟨rfl, by rw [hU], by rw [hU]; exact hPc, va_K.moved hW.alike hK, kb_N_to hW hN, hDc.weaken (fun _ _ _ _ => trivial)⟩)⟩ rfl rfl hl.1 rfl (lv_room (Nat.le_of_ble_eq_true rfl)) kdX5_named_79 ⟨Nat.le_of_ble_eq_true rfl, Nat.le_of_ble_eq_true rfl⟩) hP hD hS hA ([0, 2, 5, 6, 7, 8, 9, 10, 11] : List Nat) hC rfl (fun H locs hP hD hS => ?_)
  have hP : va_P D kCl (kWX5_named_start224 cB cI cL cBB cII cSh h_this a_this this_taped this_code w_2 w_3 w_70 w_71 this_bitAt this_k this_e1 this_du this_dv f_this_roots f_this_cubes f_this_start224 f_this_start256 f_this_turns f_this_round f_72 f_73 f_74 f_75 f_76) H := hP
  have hD : va_D A (kWX5_named_start224 cB cI cL cBB cII cSh h_this a_this this_taped this_code w_2 w_3 w_70 w_71 this_bitAt this_k this_e1 this_du this_dv f_this_roots f_this_cubes f_this_start224 f_this_start256 f_this_turns f_this_round f_72 f_73 f_74 f_75 f_76) := hD
  refine lv_aload_n hx hb kdX5_named_82 rfl (lv_at hl 0 rfl) ?_
  refine lv_bipush (v := 50) hx hb kdX5_named_83 (by decide) ?_
  obtain ⟨u_85, hu_85, h⟩ := kb_o_s h
  obtain ⟨w_78, w_79, f_80, f_81, f_82, f_83, f_84⟩ := u_85
  have hC := (show ([0, 2, 5, 6, 7, 8, 9, 10, 11] : List Nat).map (fun i : Nat => (kWX5_named_start224 cB cI cL cBB cII cSh h_this a_this this_taped this_code w_2 w_3 w_70 w_71 this_bitAt this_k this_e1 this_du this_dv f_this_roots f_this_cubes f_this_start224 f_this_start256 f_this_turns f_this_round f_72 f_73 f_74 f_75 f_76)[i]?) = List.map some (kWX5_put cB cI cL cBB cII cSh h_this a_this this_taped this_code w_2 w_3 w_70 w_71 this_bitAt this_k this_e1 this_du this_dv f_this_cubes f_this_turns f_this_round f_72 f_73 f_74 f_75 f_76) from rfl)
  have hPc := kb_Psub hP ([0, 2, 5, 6, 7, 8, 9, 10, 11] : List Nat) hC
  have hDc := kb_Dsub hD ([0, 2, 5, 6, 7, 8, 9, 10, 11] : List Nat) hC (by simp [kb_nd])
  refine kb_call0 (va_runV (As := [.int (50 : Int32)]) (rest := []) C0 (kcX5_put l D cB cI cL cBB cII cSh h_this a_this _ (50 : Int32) this_taped this_code w_2 w_3 w_70 w_71 this_bitAt this_k this_e1 this_du this_dv f_this_cubes f_this_turns f_this_round f_72 f_73 f_74 f_75 f_76 (w_78, w_79, f_80, f_81, f_82, f_83, f_84) hu_85) (cwV 1 hts (kb_gV km_641 km_643 kp_22 km_6 km_644) rfl rfl rfl (by decide +kernel) ⟨Nat.le_of_ble_eq_true rfl, Nat.le_of_ble_eq_true rfl⟩) ⟨kb_P_bl, va_recv hK hP (ci := 5) (q0 := 0) rfl rfl, (fun U hU hW => ⟨rfl, by rw [hU], by rw [hU]; exact hPc, va_K.moved hW.alike hK, kb_N_to hW hN, hDc.weaken (fun _ _ _ _ => trivial)⟩)⟩ rfl rfl hl.1 rfl (lv_room (Nat.le_of_ble_eq_true rfl)) kdX5_named_85 ⟨Nat.le_of_ble_eq_true rfl, Nat.le_of_ble_eq_true rfl⟩) hP hD hS hA ([0, 2, 5, 6, 7, 8, 9, 10, 11] : List Nat) hC rfl (fun H locs hP hD hS => ?_)
  have hP : va_P D kCl (kWX5_named_start224 cB cI cL cBB cII cSh h_this a_this this_taped this_code w_2 w_3 w_78 w_79 this_bitAt this_k this_e1 this_du this_dv f_this_roots f_this_cubes f_this_start224 f_this_start256 f_this_turns f_this_round f_80 f_81 f_82 f_83 f_84) H := hP
  have hD : va_D A (kWX5_named_start224 cB cI cL cBB cII cSh h_this a_this this_taped this_code w_2 w_3 w_78 w_79 this_bitAt this_k this_e1 this_du this_dv f_this_roots f_this_cubes f_this_start224 f_this_start256 f_this_turns f_this_round f_80 f_81 f_82 f_83 f_84) := hD
  refine lv_aload_n hx hb kdX5_named_88 rfl (lv_at hl 0 rfl) ?_
  refine lv_iload_n hx hb kdX5_named_89 rfl (lv_at hl 2 rfl) ?_
  obtain ⟨u_93, hu_93, h⟩ := kb_o_s h
  obtain ⟨w_86, w_87, f_88, f_89, f_90, f_91, f_92⟩ := u_93
  have hC := (show ([0, 2, 5, 6, 7, 8, 9, 10, 11] : List Nat).map (fun i : Nat => (kWX5_named_start224 cB cI cL cBB cII cSh h_this a_this this_taped this_code w_2 w_3 w_78 w_79 this_bitAt this_k this_e1 this_du this_dv f_this_roots f_this_cubes f_this_start224 f_this_start256 f_this_turns f_this_round f_80 f_81 f_82 f_83 f_84)[i]?) = List.map some (kWX5_put cB cI cL cBB cII cSh h_this a_this this_taped this_code w_2 w_3 w_78 w_79 this_bitAt this_k this_e1 this_du this_dv f_this_cubes f_this_turns f_this_round f_80 f_81 f_82 f_83 f_84) from rfl)
  have hPc := kb_Psub hP ([0, 2, 5, 6, 7, 8, 9, 10, 11] : List Nat) hC
  have hDc := kb_Dsub hD ([0, 2, 5, 6, 7, 8, 9, 10, 11] : List Nat) hC (by simp [kb_nd])
  refine kb_call0 (va_runV (As := [.int p2]) (rest := []) C0 (kcX5_put l D cB cI cL cBB cII cSh h_this a_this _ p2 this_taped this_code w_2 w_3 w_78 w_79 this_bitAt this_k this_e1 this_du this_dv f_this_cubes f_this_turns f_this_round f_80 f_81 f_82 f_83 f_84 (w_86, w_87, f_88, f_89, f_90, f_91, f_92) hu_93) (cwV 1 hts (kb_gV km_641 km_643 kp_22 km_6 km_644) rfl rfl rfl (by decide +kernel) ⟨Nat.le_of_ble_eq_true rfl, Nat.le_of_ble_eq_true rfl⟩) ⟨kb_P_bl, va_recv hK hP (ci := 5) (q0 := 0) rfl rfl, (fun U hU hW => ⟨rfl, by rw [hU], by rw [hU]; exact hPc, va_K.moved hW.alike hK, kb_N_to hW hN, hDc.weaken (fun _ _ _ _ => trivial)⟩)⟩ rfl rfl hl.1 rfl (lv_room (Nat.le_of_ble_eq_true rfl)) kdX5_named_90 ⟨Nat.le_of_ble_eq_true rfl, Nat.le_of_ble_eq_true rfl⟩) hP hD hS hA ([0, 2, 5, 6, 7, 8, 9, 10, 11] : List Nat) hC rfl (fun H locs hP hD hS => ?_)
  have hP : va_P D kCl (kWX5_named_start224 cB cI cL cBB cII cSh h_this a_this this_taped this_code w_2 w_3 w_86 w_87 this_bitAt this_k this_e1 this_du this_dv f_this_roots f_this_cubes f_this_start224 f_this_start256 f_this_turns f_this_round f_88 f_89 f_90 f_91 f_92) H := hP
  have hD : va_D A (kWX5_named_start224 cB cI cL cBB cII cSh h_this a_this this_taped this_code w_2 w_3 w_86 w_87 this_bitAt this_k this_e1 this_du this_dv f_this_roots f_this_cubes f_this_start224 f_this_start256 f_this_turns f_this_round f_88 f_89 f_90 f_91 f_92) := hD
  refine lv_aload_n hx hb kdX5_named_93 rfl (lv_at hl 0 rfl) ?_
  refine lv_iload_n hx hb kdX5_named_94 rfl (lv_at hl 3 rfl) ?_
  obtain ⟨u_101, hu_101, h⟩ := kb_o_s h
  obtain ⟨w_94, w_95, f_96, f_97, f_98, f_99, f_100⟩ := u_101
  have hC := (show ([0, 2, 5, 6, 7, 8, 9, 10, 11] : List Nat).map (fun i : Nat => (kWX5_named_start224 cB cI cL cBB cII cSh h_this a_this this_taped this_code w_2 w_3 w_86 w_87 this_bitAt this_k this_e1 this_du this_dv f_this_roots f_this_cubes f_this_start224 f_this_start256 f_this_turns f_this_round f_88 f_89 f_90 f_91 f_92)[i]?) = List.map some (kWX5_put cB cI cL cBB cII cSh h_this a_this this_taped this_code w_2 w_3 w_86 w_87 this_bitAt this_k this_e1 this_du this_dv f_this_cubes f_this_turns f_this_round f_88 f_89 f_90 f_91 f_92) from rfl)
  have hPc := kb_Psub hP ([0, 2, 5, 6, 7, 8, 9, 10, 11] : List Nat) hC
  have hDc := kb_Dsub hD ([0, 2, 5, 6, 7, 8, 9, 10, 11] : List Nat) hC (by simp [kb_nd])
  refine kb_call0 (va_runV (As := [.int p3]) (rest := []) C0 (kcX5_put l D cB cI cL cBB cII cSh h_this a_this _ p3 this_taped this_code w_2 w_3 w_86 w_87 this_bitAt this_k this_e1 this_du this_dv f_this_cubes f_this_turns f_this_round f_88 f_89 f_90 f_91 f_92 (w_94, w_95, f_96, f_97, f_98, f_99, f_100) hu_101) (cwV 1 hts (kb_gV km_641 km_643 kp_22 km_6 km_644) rfl rfl rfl (by decide +kernel) ⟨Nat.le_of_ble_eq_true rfl, Nat.le_of_ble_eq_true rfl⟩) ⟨kb_P_bl, va_recv hK hP (ci := 5) (q0 := 0) rfl rfl, (fun U hU hW => ⟨rfl, by rw [hU], by rw [hU]; exact hPc, va_K.moved hW.alike hK, kb_N_to hW hN, hDc.weaken (fun _ _ _ _ => trivial)⟩)⟩ rfl rfl hl.1 rfl (lv_room (Nat.le_of_ble_eq_true rfl)) kdX5_named_95 ⟨Nat.le_of_ble_eq_true rfl, Nat.le_of_ble_eq_true rfl⟩) hP hD hS hA ([0, 2, 5, 6, 7, 8, 9, 10, 11] : List Nat) hC rfl (fun H locs hP hD hS => ?_)
  have hP : va_P D kCl (kWX5_named_start224 cB cI cL cBB cII cSh h_this a_this this_taped this_code w_2 w_3 w_94 w_95 this_bitAt this_k this_e1 this_du this_dv f_this_roots f_this_cubes f_this_start224 f_this_start256 f_this_turns f_this_round f_96 f_97 f_98 f_99 f_100) H := hP
  have hD : va_D A (kWX5_named_start224 cB cI cL cBB cII cSh h_this a_this this_taped this_code w_2 w_3 w_94 w_95 this_bitAt this_k this_e1 this_du this_dv f_this_roots f_this_cubes f_this_start224 f_this_start256 f_this_turns f_this_round f_96 f_97 f_98 f_99 f_100) := hD
  refine lv_aload_n hx hb kdX5_named_98 rfl (lv_at hl 0 rfl) ?_
  obtain ⟨u_109, hu_109, h⟩ := kb_o_s h
  obtain ⟨w_102, w_103, f_104, f_105, f_106, f_107, f_108⟩ := u_109
  have hC := (show ([0, 2, 5, 6, 7, 8, 9, 10, 11] : List Nat).map (fun i : Nat => (kWX5_named_start224 cB cI cL cBB cII cSh h_this a_this this_taped this_code w_2 w_3 w_94 w_95 this_bitAt this_k this_e1 this_du this_dv f_this_roots f_this_cubes f_this_start224 f_this_start256 f_this_turns f_this_round f_96 f_97 f_98 f_99 f_100)[i]?) = List.map some (kWX5_finish cB cI cL cBB cII cSh h_this a_this this_taped this_code w_2 w_3 w_94 w_95 this_bitAt this_k this_e1 this_du this_dv f_this_cubes f_this_turns f_this_round f_96 f_97 f_98 f_99 f_100) from rfl)
  have hPc := kb_Psub hP ([0, 2, 5, 6, 7, 8, 9, 10, 11] : List Nat) hC
  have hDc := kb_Dsub hD ([0, 2, 5, 6, 7, 8, 9, 10, 11] : List Nat) hC (by simp [kb_nd])
  refine kb_call0 (va_runV (As := []) (rest := []) C0 (kcX5_finish l D cB cI cL cBB cII cSh h_this a_this _ this_taped this_code w_2 w_3 w_94 w_95 this_bitAt this_k this_e1 this_du this_dv f_this_cubes f_this_turns f_this_round f_96 f_97 f_98 f_99 f_100 (w_102, w_103, f_104, f_105, f_106, f_107, f_108) hu_109) (cwV 0 hts (kb_gV km_676 km_678 kp_23 km_6 km_679) rfl rfl rfl (by decide +kernel) ⟨Nat.le_of_ble_eq_true rfl, Nat.le_of_ble_eq_true rfl⟩) ⟨kb_P_bl, va_recv hK hP (ci := 5) (q0 := 0) rfl rfl, (fun U hU hW => ⟨rfl, by rw [hU], by rw [hU]; exact hPc, va_K.moved hW.alike hK, kb_N_to hW hN, hDc.weaken (fun _ _ _ _ => trivial)⟩)⟩ rfl rfl hl.1 rfl (lv_room (Nat.le_of_ble_eq_true rfl)) kdX5_named_99 ⟨Nat.le_of_ble_eq_true rfl, Nat.le_of_ble_eq_true rfl⟩) hP hD hS hA ([0, 2, 5, 6, 7, 8, 9, 10, 11] : List Nat) hC rfl (fun H locs hP hD hS => ?_)
  have hP : va_P D kCl (kWX5_named_start224 cB cI cL cBB cII cSh h_this a_this this_taped this_code w_2 w_3 w_102 w_103 this_bitAt this_k this_e1 this_du this_dv f_this_roots f_this_cubes f_this_start224 f_this_start256 f_this_turns f_this_round f_104 f_105 f_106 f_107 f_108) H := hP
  have hD : va_D A (kWX5_named_start224 cB cI cL cBB cII cSh h_this a_this this_taped this_code w_2 w_3 w_102 w_103 this_bitAt this_k this_e1 this_du this_dv f_this_roots f_this_cubes f_this_start224 f_this_start256 f_this_turns f_this_round f_104 f_105 f_106 f_107 f_108) := hD
  refine lv_iconst (v := 0) hx hb kdX5_named_102 (by decide) ?_
  refine lv_istore (lv' := [(4, .int (0 : Int32)), (0, .ref h_this), (1, .ref (a_this 7)), (2, .int p2), (3, .int p3)]) hx hb kdX5_named_103 hl (by decide) rfl (fun ls hl => ?_)
  obtain ⟨r_117, hr_117, h⟩ := kb_o_s h
  refine klX5_named_start224_105 C0 hlocks hK hN hA (by decide) (by decide) h_this a_this this_taped this_code w_2 w_3 w_102 w_103 this_bitAt this_k this_e1 this_du this_dv f_this_roots f_this_cubes f_this_start256 f_this_turns f_this_round f_104 f_105 f_106 f_107 f_108 100000 (0 : Int32) f_this_start224 r_117 hr_117 _ _ _ hP hD hS (lv_sub hl [1, 2, 0] rfl) (fun x4p105_115 f_this_start224p105_116 er_117 H locs ls hP hD hS hl => ?_)
  subst er_117
  obtain rfl := Option.some.inj h
  exact W.vret hx hb hr (fun t ht hW => ⟨⟨rfl, by rw [ht]; exact hP, va_K.moved hW.alike hK, hD⟩, hS.F ht⟩) hS.2.2 kdX5_named_129
abbrev kWX5_named_start256 (cB cI cL cBB cII cSh : ClassId) (h_this : Nat) (a_this : Nat → Nat) (this_taped : Int32) (this_code : Int32) (this_kind : Int32) (this_rate : Int32) (this_filled : Int32) (this_total : Int64) (this_bitAt : Int32) (this_k : Int32) (this_e1 : Int32) (this_du : Int32) (this_dv : Int32) (f_this_roots : Nat → Int64) (f_this_cubes : Nat → Int64) (f_this_start224 : Nat → Int64) (f_this_start256 : Nat → Int64) (f_this_turns : Nat → Int32) (f_this_round : Nat → Int64) (f_this_state : Nat → Int64) (f_this_other : Nat → Int64) (f_this_column : Nat → Int64) (f_this_words : Nat → Int64) (f_this_block : Nat → Int32) : va_W := [(h_this, koX5 a_this this_taped this_code this_kind this_rate this_filled this_total this_bitAt this_k this_e1 this_du this_dv), ((a_this 5), .inl (cL, 16, .inr (.inl f_this_roots))), ((a_this 6), .inl (cL, 80, .inr (.inl f_this_cubes))), ((a_this 7), .inl (cL, 8, .inr (.inl f_this_start224))), ((a_this 8), .inl (cL, 8, .inr (.inl f_this_start256))), ((a_this 11), .inl (cI, 25, .inl f_this_turns)), ((a_this 12), .inl (cL, 24, .inr (.inl f_this_round))), ((a_this 13), .inl (cL, 25, .inr (.inl f_this_state))), ((a_this 14), .inl (cL, 25, .inr (.inl f_this_other))), ((a_this 15), .inl (cL, 5, .inr (.inl f_this_column))), ((a_this 16), .inl (cL, 80, .inr (.inl f_this_words))), ((a_this 17), .inl (cB, 128, .inl f_this_block))]
def krX5_named_start256 : Room := { frames := 4, cells := 0, slots := 0, locals := 107 }
set_option maxHeartbeats 4000000 in
set_option maxRecDepth 100000 in
theorem klX5_named_start256_8 {p : Program} {l : Launch} {e : Env} {s : State} {m : MethodId} {args : Array Value} {below : List Frame} {meth : Method} {c : Code} {cells slots : Nat} {Q : State → Prop} {D : va_G} {cB cI cL cBB cII cSh : ClassId} {A : Nat → Prop} (C0 : CallFix p m c prog_8_method_21_code 5 s args kwA kRX5) (hlocks : meth.locks = false) (hK : va_K D kCl (kb_T cB cI cL cBB cII cSh) s) (hN : kb_N s) (hA : ∀ q, s.heap.size ≤ q → A q) (hcR : cells ≤ krX5_named_start256.cells) (hsR : slots ≤ krX5_named_start256.slots) (h_this : Nat) (a_this : Nat → Nat) (p2 : Int32) (p3 : Int32) (this_taped : Int32) (this_code : Int32) (w_2 : Int32) (w_3 : Int32) (w_1 : Int32) (w_4 : Int64) (this_bitAt : Int32) (this_k : Int32) (this_e1 : Int32) (this_du : Int32) (this_dv : Int32) (f_this_roots : Nat → Int64) (f_this_cubes : Nat → Int64) (f_this_start224 : Nat → Int64) (f_this_start256 : Nat → Int64) (f_this_turns : Nat → Int32) (f_this_round : Nat → Int64) (f_this_other : Nat → Int64) (f_this_column : Nat → Int64) (f_this_words : Nat → Int64) (f_this_block : Nat → Int32) :
    ∀ (fuel : Nat) (x4p8 : Int32) (f_this_statep8 : Nat → Int64) (r : Int32 × (Nat → Int64)), kb_w (fun u : Int32 × (Nat → Int64) => kSX5_named_start256_8 u.1 u.2) fuel (x4p8, f_this_statep8) = some r → ∀ (H : Heap) (locs : List Loc) (ls : Array Slot), va_P D kCl (kWX5_named_start256 cB cI cL cBB cII cSh h_this a_this this_taped this_code w_2 w_3 w_1 w_4 this_bitAt this_k this_e1 this_du this_dv f_this_roots f_this_cubes f_this_start224 f_this_start256 f_this_turns f_this_round f_this_statep8 f_this_other f_this_column f_this_words f_this_block) H → va_D A (kWX5_named_start256 cB cI cL cBB cII cSh h_this a_this this_taped this_code w_2 w_3 w_1 w_4 this_bitAt this_k this_e1 this_du this_dv f_this_roots f_this_cubes f_this_start224 f_this_start256 f_this_turns f_this_round f_this_statep8 f_this_other f_this_column f_this_words f_this_block) → va_S A s.heap H locs → lv_has ls 5 [(0, .ref h_this), (1, .ref (a_this 8)), (2, .int p2), (3, .int p3), (4, .int x4p8)] → (∀ (x4p8' : Int32) (f_this_statep8' : Nat → Int64), r = (x4p8', f_this_statep8') → ∀ (H : Heap) (locs : List Loc) (ls : Array Slot), va_P D kCl (kWX5_named_start256 cB cI cL cBB cII cSh h_this a_this this_taped this_code w_2 w_3 w_1 w_4 this_bitAt this_k this_e1 this_du this_dv f_this_roots f_this_cubes f_this_start224 f_this_start256 f_this_turns f_this_round f_this_statep8' f_this_other f_this_column f_this_words f_this_block) H → va_D A (kWX5_named_start256 cB cI cL cBB cII cSh h_this a_this this_taped this_code w_2 w_3 w_1 w_4 this_bitAt this_k this_e1 this_du this_dv f_this_roots f_this_cubes f_this_start224 f_this_start256 f_this_turns f_this_round f_this_statep8' f_this_other f_this_column f_this_words f_this_block) → va_S A s.heap H locs → lv_has ls 5 [(0, .ref h_this), (1, .ref (a_this 8)), (2, .int p2), (3, .int p3), (4, .int x4p8')] → W p l e krX5_named_start256 s m args below meth c H locs cells slots Q (F0 m 34 ls [])) → W p l e krX5_named_start256 s m args below meth c H locs cells slots Q (F0 m 8 ls []) := by
  obtain ⟨hx, hb, hml, hown, hts⟩ := id C0
  intro fuel
  induction fuel with
  | zero =>
    intro x4p8 f_this_statep8 r h
    exact absurd h (kb_w_z _ _ _)
  | succ fuel ih =>
    intro x4p8 f_this_statep8 r h H locs ls hP hD hS hl hk0
    obtain ⟨o, h, ho⟩ := kb_w_s h
    have h : kSX5_named_start256_8 x4p8 f_this_statep8 = some o := h
    unfold kSX5_named_start256_8 at h
    refine lv_iload hx hb kdX5_named_8 (lv_at hl 4 rfl) ?_
    refine lv_bipush (v := 8) hx hb kdX5_named_10 (by decide) ?_
    refine lv_icmp_ge (tgt := 34) hx hb kdX5_named_12 (by decide) (fun c_7 => ?_) (fun c_7 => ?_)
    · have h := kb_b_t c_7 h
      obtain rfl := Option.some.inj h
      exact hk0 x4p8 f_this_statep8 ho.symm _ _ _ hP hD hS (lv_sub hl [0, 1, 2, 3, 4] rfl)
    · have h := kb_b_f c_7 h
      refine lv_aload_n hx hb kdX5_named_15 rfl (lv_at hl 0 rfl) ?_
      refine va_get (ci := 5) (v := .ref (a_this 13)) (C := kRX5) (T := kTX5) (N := 35) hx hb hts kinX5 hown hK hP 0 rfl rfl 13 (by decide) (hts _ km_694) (fun _ h9 => h9) rfl kdX5_named_16 ?_
      refine lv_iload hx hb kdX5_named_19 (lv_at hl 4 rfl) ?_
      refine lv_dup2_11 hx hb kdX5_named_21 rfl rfl ?_
      obtain ⟨g_8, h⟩ := kb_g_s h
      refine va_lald hx hb hK hP 7 2 rfl rfl (kb_in_v g_8) kdX5_named_22 ?_
      refine lv_ldc2 (v := -6510615555426900571) hx hb hown (hts _ km_640) kdX5_named_23 ?_
      refine lv_lxor hx hb kdX5_named_26 ?_
      obtain ⟨g_9, h⟩ := kb_g_s h
      refine va_last hx hb hK hP hD hS 7 2 rfl rfl (kb_in_v g_9) kdX5_named_27 (fun H locs hP hD hS => ?_)
      obtain ⟨f_10, ef_10⟩ : ∃ y, y = vp_updL f_this_statep8 x4p8.toNatClampNeg ((f_this_statep8 x4p8.toNatClampNeg) ^^^ (-6510615555426900571 : Int64)) := ⟨_, rfl⟩
      have h := kb_n_s ef_10 h
      have hP : va_P D kCl (kWX5_named_start256 cB cI cL cBB cII cSh h_this a_this this_taped this_code w_2 w_3 w_1 w_4 this_bitAt this_k this_e1 this_du this_dv f_this_roots f_this_cubes f_this_start224 f_this_start256 f_this_turns f_this_round f_10 f_this_other f_this_column f_this_words f_this_block) H := by rw [ef_10]; exact hP
      have hD : va_D A (kWX5_named_start256 cB cI cL cBB cII cSh h_this a_this this_taped this_code w_2 w_3 w_1 w_4 this_bitAt this_k this_e1 this_du this_dv f_this_roots f_this_cubes f_this_start224 f_this_start256 f_this_turns f_this_round f_10 f_this_other f_this_column f_this_words f_this_block) := by rw [ef_10]; exact hD
      obtain ⟨x4_11, ex4_11⟩ : ∃ y : Int32, y = x4p8 + Int32.ofInt 1 := ⟨_, rfl⟩
      have h := kb_n_s ex4_11 h
      refine lv_iinc (v := x4_11) (lv' := [(4, .int x4_11), (0, .ref h_this), (1, .ref (a_this 8)), (2, .int p2), (3, .int p3)]) hx hb kdX5_named_28 hl (k := 4) rfl ex4_11.symm (by decide) rfl (fun ls hl => ?_)
      refine lv_goto (tgt := 8) hx hb kdX5_named_31 (by decide) ?_
      obtain rfl := Option.some.inj h
      exact ih x4_11 f_10 r ho _ _ _ hP hD hS (lv_sub hl [1, 2, 3, 4, 0] rfl) hk0
set_option maxHeartbeats 4000000 in
set_option maxRecDepth 100000 in
theorem klX5_named_start256_105 {p : Program} {l : Launch} {e : Env} {s : State} {m : MethodId} {args : Array Value} {below : List Frame} {meth : Method} {c : Code} {cells slots : Nat} {Q : State → Prop} {D : va_G} {cB cI cL cBB cII cSh : ClassId} {A : Nat → Prop} (C0 : CallFix p m c prog_8_method_21_code 5 s args kwA kRX5) (hlocks : meth.locks = false) (hK : va_K D kCl (kb_T cB cI cL cBB cII cSh) s) (hN : kb_N s) (hA : ∀ q, s.heap.size ≤ q → A q) (hcR : cells ≤ krX5_named_start256.cells) (hsR : slots ≤ krX5_named_start256.slots) (h_this : Nat) (a_this : Nat → Nat) (this_taped : Int32) (this_code : Int32) (w_2 : Int32) (w_3 : Int32) (w_102 : Int32) (w_103 : Int64) (this_bitAt : Int32) (this_k : Int32) (this_e1 : Int32) (this_du : Int32) (this_dv : Int32) (f_this_roots : Nat → Int64) (f_this_cubes : Nat → Int64) (f_this_start224 : Nat → Int64) (f_this_turns : Nat → Int32) (f_this_round : Nat → Int64) (f_104 : Nat → Int64) (f_105 : Nat → Int64) (f_106 : Nat → Int64) (f_107 : Nat → Int64) (f_108 : Nat → Int32) :
    ∀ (fuel : Nat) (x4p105 : Int32) (f_this_start256p105 : Nat → Int64) (r : Int32 × (Nat → Int64)), kb_w (fun u : Int32 × (Nat → Int64) => kSX5_named_start256_105 f_104 u.1 u.2) fuel (x4p105, f_this_start256p105) = some r → ∀ (H : Heap) (locs : List Loc) (ls : Array Slot), va_P D kCl (kWX5_named_start256 cB cI cL cBB cII cSh h_this a_this this_taped this_code w_2 w_3 w_102 w_103 this_bitAt this_k this_e1 this_du this_dv f_this_roots f_this_cubes f_this_start224 f_this_start256p105 f_this_turns f_this_round f_104 f_105 f_106 f_107 f_108) H → va_D A (kWX5_named_start256 cB cI cL cBB cII cSh h_this a_this this_taped this_code w_2 w_3 w_102 w_103 this_bitAt this_k this_e1 this_du this_dv f_this_roots f_this_cubes f_this_start224 f_this_start256p105 f_this_turns f_this_round f_104 f_105 f_106 f_107 f_108) → va_S A s.heap H locs → lv_has ls 5 [(0, .ref h_this), (1, .ref (a_this 8)), (4, .int x4p105)] → (∀ (x4p105' : Int32) (f_this_start256p105' : Nat → Int64), r = (x4p105', f_this_start256p105') → ∀ (H : Heap) (locs : List Loc) (ls : Array Slot), va_P D kCl (kWX5_named_start256 cB cI cL cBB cII cSh h_this a_this this_taped this_code w_2 w_3 w_102 w_103 this_bitAt this_k this_e1 this_du this_dv f_this_roots f_this_cubes f_this_start224 f_this_start256p105' f_this_turns f_this_round f_104 f_105 f_106 f_107 f_108) H → va_D A (kWX5_named_start256 cB cI cL cBB cII cSh h_this a_this this_taped this_code w_2 w_3 w_102 w_103 this_bitAt this_k this_e1 this_du this_dv f_this_roots f_this_cubes f_this_start224 f_this_start256p105' f_this_turns f_this_round f_104 f_105 f_106 f_107 f_108) → va_S A s.heap H locs → lv_has ls 5 [(0, .ref h_this), (1, .ref (a_this 8)), (4, .int x4p105')] → W p l e krX5_named_start256 s m args below meth c H locs cells slots Q (F0 m 129 ls [])) → W p l e krX5_named_start256 s m args below meth c H locs cells slots Q (F0 m 105 ls []) := by
  obtain ⟨hx, hb, hml, hown, hts⟩ := id C0
  intro fuel
  induction fuel with
  | zero =>
    intro x4p105 f_this_start256p105 r h
    exact absurd h (kb_w_z _ _ _)
  | succ fuel ih =>
    intro x4p105 f_this_start256p105 r h H locs ls hP hD hS hl hk0
    obtain ⟨o, h, ho⟩ := kb_w_s h
    have h : kSX5_named_start256_105 f_104 x4p105 f_this_start256p105 = some o := h
    unfold kSX5_named_start256_105 at h
    refine lv_iload hx hb kdX5_named_105 (lv_at hl 2 rfl) ?_
    refine lv_bipush (v := 8) hx hb kdX5_named_107 (by decide) ?_
    refine lv_icmp_ge (tgt := 129) hx hb kdX5_named_109 (by decide) (fun c_110 => ?_) (fun c_110 => ?_)
    · have h := kb_b_t c_110 h
      obtain rfl := Option.some.inj h
      exact hk0 x4p105 f_this_start256p105 ho.symm _ _ _ hP hD hS (lv_sub hl [0, 1, 2] rfl)
    · have h := kb_b_f c_110 h
      refine lv_aload_n hx hb kdX5_named_112 rfl (lv_at hl 1 rfl) ?_
      refine lv_iload hx hb kdX5_named_113 (lv_at hl 2 rfl) ?_
      refine lv_aload_n hx hb kdX5_named_115 rfl (lv_at hl 0 rfl) ?_
      refine va_get (ci := 5) (v := .ref (a_this 13)) (C := kRX5) (T := kTX5) (N := 35) hx hb hts kinX5 hown hK hP 0 rfl rfl 13 (by decide) (hts _ km_694) (fun _ h9 => h9) rfl kdX5_named_116 ?_
      refine lv_iload hx hb kdX5_named_119 (lv_at hl 2 rfl) ?_
      obtain ⟨g_111, h⟩ := kb_g_s h
      refine va_lald hx hb hK hP 7 2 rfl rfl (kb_in_v g_111) kdX5_named_121 ?_
      obtain ⟨g_112, h⟩ := kb_g_s h
      refine va_last hx hb hK hP hD hS 4 2 rfl rfl (kb_in_v g_112) kdX5_named_122 (fun H locs hP hD hS => ?_)
      obtain ⟨f_113, ef_113⟩ : ∃ y, y = vp_updL f_this_start256p105 x4p105.toNatClampNeg (f_104 x4p105.toNatClampNeg) := ⟨_, rfl⟩
      have h := kb_n_s ef_113 h
      have hP : va_P D kCl (kWX5_named_start256 cB cI cL cBB cII cSh h_this a_this this_taped this_code w_2 w_3 w_102 w_103 this_bitAt this_k this_e1 this_du this_dv f_this_roots f_this_cubes f_this_start224 f_113 f_this_turns f_this_round f_104 f_105 f_106 f_107 f_108) H := by rw [ef_113]; exact hP
      have hD : va_D A (kWX5_named_start256 cB cI cL cBB cII cSh h_this a_this this_taped this_code w_2 w_3 w_102 w_103 this_bitAt this_k this_e1 this_du this_dv f_this_roots f_this_cubes f_this_start224 f_113 f_this_turns f_this_round f_104 f_105 f_106 f_107 f_108) := by rw [ef_113]; exact hD
      obtain ⟨x4_114, ex4_114⟩ : ∃ y : Int32, y = x4p105 + Int32.ofInt 1 := ⟨_, rfl⟩
      have h := kb_n_s ex4_114 h
      refine lv_iinc (v := x4_114) (lv' := [(4, .int x4_114), (0, .ref h_this), (1, .ref (a_this 8))]) hx hb kdX5_named_123 hl (k := 2) rfl ex4_114.symm (by decide) rfl (fun ls hl => ?_)
      refine lv_goto (tgt := 105) hx hb kdX5_named_126 (by decide) ?_
      obtain rfl := Option.some.inj h
      exact ih x4_114 f_113 r ho _ _ _ hP hD hS (lv_sub hl [1, 2, 0] rfl) hk0
set_option maxHeartbeats 4000000 in
set_option maxRecDepth 100000 in
theorem kcX5_named_start256 (l : Launch) (D : va_G) (cB cI cL cBB cII cSh : ClassId) (h_this : Nat) (a_this : Nat → Nat) (sz : Nat) (p2 : Int32) (p3 : Int32) (this_taped : Int32) (this_code : Int32) (this_kind : Int32) (this_rate : Int32) (this_filled : Int32) (this_total : Int64) (this_bitAt : Int32) (this_k : Int32) (this_e1 : Int32) (this_du : Int32) (this_dv : Int32) (f_this_roots : Nat → Int64) (f_this_cubes : Nat → Int64) (f_this_start224 : Nat → Int64) (f_this_start256 : Nat → Int64) (f_this_turns : Nat → Int32) (f_this_round : Nat → Int64) (f_this_state : Nat → Int64) (f_this_other : Nat → Int64) (f_this_column : Nat → Int64) (f_this_words : Nat → Int64) (f_this_block : Nat → Int32) (out : Int32 × Int32 × Int32 × Int64 × (Nat → Int64) × (Nat → Int64) × (Nat → Int64) × (Nat → Int64) × (Nat → Int64) × (Nat → Int32)) (h : kFX5_named_start256 p2 p3 f_this_roots f_this_cubes f_this_start224 f_this_start256 f_this_turns f_this_round f_this_state f_this_other f_this_column f_this_words f_this_block = some out) : Met l kyX5_named kwX5_named krX5_named_start256 (kb_P D kCl (kb_T cB cI cL cBB cII cSh) [.ref h_this, .ref (a_this 8), .int p2, .int p3] (kWX5_named_start256 cB cI cL cBB cII cSh h_this a_this this_taped this_code this_kind this_rate this_filled this_total this_bitAt this_k this_e1 this_du this_dv f_this_roots f_this_cubes f_this_start224 f_this_start256 f_this_turns f_this_round f_this_state f_this_other f_this_column f_this_words f_this_block) sz) (kb_Q D kCl (kb_T cB cI cL cBB cII cSh) (va_A (kWX5_named_start256 cB cI cL cBB cII cSh h_this a_this this_taped this_code this_kind this_rate this_filled this_total this_bitAt this_k this_e1 this_du this_dv f_this_roots f_this_cubes f_this_start224 f_this_start256 f_this_turns f_this_round f_this_state f_this_other f_this_column f_this_words f_this_block) sz) none (kWX5_named_start256 cB cI cL cBB cII cSh h_this a_this this_taped this_code out.2.1 out.2.2.1 out.1 out.2.2.2.1 this_bitAt this_k this_e1 this_du this_dv f_this_roots f_this_cubes f_this_start224 out.2.2.2.2.1 f_this_turns f_this_round out.2.2.2.2.2.1 out.2.2.2.2.2.2.1 out.2.2.2.2.2.2.2.1 out.2.2.2.2.2.2.2.2.1 out.2.2.2.2.2.2.2.2.2)) 0 0 (va_A (kWX5_named_start256 cB cI cL cBB cII cSh h_this a_this this_taped this_code this_kind this_rate this_filled this_total this_bitAt this_k this_e1 this_du this_dv f_this_roots f_this_cubes f_this_start224 f_this_start256 f_this_turns f_this_round f_this_state f_this_other f_this_column f_this_words f_this_block) sz) := by
  refine Met.ofW (cc := prog_8_method_21_code) (maxL := 5) (ret := none) (by decide) rfl ?_
  intro p e s m args below meth c s₁ B hml hv
  obtain ⟨rfl, hsz, hP, hK, hN, hD0⟩ := hv
  have hx := B.exec
  have hb := B.bytes
  have hr := B.returns
  have hts0 := atoms_spec (ws := kwX5_named) B.pre
  have hts : ∀ w ∈ kwA, w.before _ s = true := fun w h => hts0 w (List.mem_cons_of_mem _ h)
  have hown : s.vm.findClass kRX5 = some m.cls := findClass_of_methodNamed B.named
  have hlocks := B.notSynchronized
  subst hsz
  have hD := hD0.self (sz := s.heap.size)
  generalize hAe : va_A (kWX5_named_start256 cB cI cL cBB cII cSh h_this a_this this_taped this_code this_kind this_rate this_filled this_total this_bitAt this_k this_e1 this_du this_dv f_this_roots f_this_cubes f_this_start224 f_this_start256 f_this_turns f_this_round f_this_state f_this_other f_this_column f_this_words f_this_block) s.heap.size = A at hD ⊢
  have hA : ∀ q : Nat, s.heap.size ≤ q → A q := fun q h => by rw [← hAe]; exact Or.inr h
  have hS : va_S A s.heap s.heap [] := va_S.rf
  have C0 : CallFix p m c prog_8_method_21_code 5 s _ kwA kRX5 := ⟨hx, hb, hml, hown, hts⟩
  have hl := lv_entry ([.ref h_this, .ref (a_this 8), .int p2, .int p3]) (n := 5) (Nat.le_of_ble_eq_true rfl)
  rw [lg_entry_eq]
  generalize (lg_sl ([.ref h_this, .ref (a_this 8), .int p2, .int p3]) ++ List.replicate (5 - (lg_sl ([.ref h_this, .ref (a_this 8), .int p2, .int p3])).length) Slot.unset).toArray = ls at hl ⊢
  have hl : lv_has ls 5 [(0, .ref h_this), (1, .ref (a_this 8)), (2, .int p2), (3, .int p3)] := hl
  unfold kFX5_named_start256 at h
  refine lv_aload_n hx hb kdX5_named_0 rfl (lv_at hl 0 rfl) ?_
  refine lv_iconst (v := 3) hx hb kdX5_named_1 (by decide) ?_
  obtain ⟨u_6, hu_6, h⟩ := kb_o_s h
  obtain ⟨w_1, w_2, w_3, w_4, f_5⟩ := u_6
  have hC := (show ([0, 1, 3, 4, 7] : List Nat).map (fun i : Nat => (kWX5_named_start256 cB cI cL cBB cII cSh h_this a_this this_taped this_code this_kind this_rate this_filled this_total this_bitAt this_k this_e1 this_du this_dv f_this_roots f_this_cubes f_this_start224 f_this_start256 f_this_turns f_this_round f_this_state f_this_other f_this_column f_this_words f_this_block)[i]?) = List.map some (kWX5_begin cB cI cL cBB cII cSh h_this a_this this_taped this_code this_kind this_rate this_filled this_total this_bitAt this_k this_e1 this_du this_dv f_this_roots f_this_start224 f_this_start256 f_this_state) from rfl)
  have hPc := kb_Psub hP ([0, 1, 3, 4, 7] : List Nat) hC
  have hDc := kb_Dsub hD ([0, 1, 3, 4, 7] : List Nat) hC (by simp [kb_nd])
  refine kb_call0 (va_runV (As := [.int (3 : Int32)]) (rest := []) C0 (kcX5_begin l D cB cI cL cBB cII cSh h_this a_this _ (3 : Int32) this_taped this_code this_kind this_rate this_filled this_total this_bitAt this_k this_e1 this_du this_dv f_this_roots f_this_start224 f_this_start256 f_this_state (w_1, w_2, w_3, w_4, f_5) hu_6) (cwV 1 hts (kb_gV km_629 km_631 kp_4 km_6 km_632) rfl rfl rfl (by decide +kernel) ⟨Nat.le_of_ble_eq_true rfl, Nat.le_of_ble_eq_true rfl⟩) ⟨kb_P_bl, va_recv hK hP (ci := 5) (q0 := 0) rfl rfl, (fun U hU hW => ⟨rfl, by rw [hU], by rw [hU]; exact hPc, va_K.moved hW.alike hK, kb_N_to hW hN, hDc.weaken (fun _ _ _ _ => trivial)⟩)⟩ rfl rfl hl.1 rfl (lv_room (Nat.le_of_ble_eq_true rfl)) kdX5_named_2 ⟨Nat.le_of_ble_eq_true rfl, Nat.le_of_ble_eq_true rfl⟩) hP hD hS hA ([0, 1, 3, 4, 7] : List Nat) hC rfl (fun H locs hP hD hS => ?_)
  have hP : va_P D kCl (kWX5_named_start256 cB cI cL cBB cII cSh h_this a_this this_taped this_code w_2 w_3 w_1 w_4 this_bitAt this_k this_e1 this_du this_dv f_this_roots f_this_cubes f_this_start224 f_this_start256 f_this_turns f_this_round f_5 f_this_other f_this_column f_this_words f_this_block) H := hP
  have hD : va_D A (kWX5_named_start256 cB cI cL cBB cII cSh h_this a_this this_taped this_code w_2 w_3 w_1 w_4 this_bitAt this_k this_e1 this_du this_dv f_this_roots f_this_cubes f_this_start224 f_this_start256 f_this_turns f_this_round f_5 f_this_other f_this_column f_this_words f_this_block) := hD
  refine lv_iconst (v := 0) hx hb kdX5_named_5 (by decide) ?_
  refine lv_istore (lv' := [(4, .int (0 : Int32)), (0, .ref h_this), (1, .ref (a_this 8)), (2, .int p2), (3, .int p3)]) hx hb kdX5_named_6 hl (by decide) rfl (fun ls hl => ?_)
  obtain ⟨r_118, hr_118, h⟩ := kb_o_s h
  refine klX5_named_start256_8 C0 hlocks hK hN hA (by decide) (by decide) h_this a_this p2 p3 this_taped this_code w_2 w_3 w_1 w_4 this_bitAt this_k this_e1 this_du this_dv f_this_roots f_this_cubes f_this_start224 f_this_start256 f_this_turns f_this_round f_this_other f_this_column f_this_words f_this_block 100000 (0 : Int32) f_5 r_118 hr_118 _ _ _ hP hD hS (lv_sub hl [1, 2, 3, 4, 0] rfl) (fun x4p8_12 f_this_statep8_13 er_118 H locs ls hP hD hS hl => ?_)
  subst er_118
  refine lv_aload_n hx hb kdX5_named_34 rfl (lv_at hl 0 rfl) ?_
  refine lv_bipush (v := 83) hx hb kdX5_named_35 (by decide) ?_
  obtain ⟨u_21, hu_21, h⟩ := kb_o_s h
  obtain ⟨w_14, w_15, f_16, f_17, f_18, f_19, f_20⟩ := u_21
  have hC := (show ([0, 2, 5, 6, 7, 8, 9, 10, 11] : List Nat).map (fun i : Nat => (kWX5_named_start256 cB cI cL cBB cII cSh h_this a_this this_taped this_code w_2 w_3 w_1 w_4 this_bitAt this_k this_e1 this_du this_dv f_this_roots f_this_cubes f_this_start224 f_this_start256 f_this_turns f_this_round f_this_statep8_13 f_this_other f_this_column f_this_words f_this_block)[i]?) = List.map some (kWX5_put cB cI cL cBB cII cSh h_this a_this this_taped this_code w_2 w_3 w_1 w_4 this_bitAt this_k this_e1 this_du this_dv f_this_cubes f_this_turns f_this_round f_this_statep8_13 f_this_other f_this_column f_this_words f_this_block) from rfl)
  have hPc := kb_Psub hP ([0, 2, 5, 6, 7, 8, 9, 10, 11] : List Nat) hC
  have hDc := kb_Dsub hD ([0, 2, 5, 6, 7, 8, 9, 10, 11] : List Nat) hC (by simp [kb_nd])
  refine kb_call0 (va_runV (As := [.int (83 : Int32)]) (rest := []) C0 (kcX5_put l D cB cI cL cBB cII cSh h_this a_this _ (83 : Int32) this_taped this_code w_2 w_3 w_1 w_4 this_bitAt this_k this_e1 this_du this_dv f_this_cubes f_this_turns f_this_round f_this_statep8_13 f_this_other f_this_column f_this_words f_this_block (w_14, w_15, f_16, f_17, f_18, f_19, f_20) hu_21) (cwV 1 hts (kb_gV km_641 km_643 kp_22 km_6 km_644) rfl rfl rfl (by decide +kernel) ⟨Nat.le_of_ble_eq_true rfl, Nat.le_of_ble_eq_true rfl⟩) ⟨kb_P_bl, va_recv hK hP (ci := 5) (q0 := 0) rfl rfl, (fun U hU hW => ⟨rfl, by rw [hU], by rw [hU]; exact hPc, va_K.moved hW.alike hK, kb_N_to hW hN, hDc.weaken (fun _ _ _ _ => trivial)⟩)⟩ rfl rfl hl.1 rfl (lv_room (Nat.le_of_ble_eq_true rfl)) kdX5_named_37 ⟨Nat.le_of_ble_eq_true rfl, Nat.le_of_ble_eq_true rfl⟩) hP hD hS hA ([0, 2, 5, 6, 7, 8, 9, 10, 11] : List Nat) hC rfl (fun H locs hP hD hS => ?_)
  have hP : va_P D kCl (kWX5_named_start256 cB cI cL cBB cII cSh h_this a_this this_taped this_code w_2 w_3 w_14 w_15 this_bitAt this_k this_e1 this_du this_dv f_this_roots f_this_cubes f_this_start224 f_this_start256 f_this_turns f_this_round f_16 f_17 f_18 f_19 f_20) H := hP
  have hD : va_D A (kWX5_named_start256 cB cI cL cBB cII cSh h_this a_this this_taped this_code w_2 w_3 w_14 w_15 this_bitAt this_k this_e1 this_du this_dv f_this_roots f_this_cubes f_this_start224 f_this_start256 f_this_turns f_this_round f_16 f_17 f_18 f_19 f_20) := hD
  refine lv_aload_n hx hb kdX5_named_40 rfl (lv_at hl 0 rfl) ?_
  refine lv_bipush (v := 72) hx hb kdX5_named_41 (by decide) ?_
  obtain ⟨u_29, hu_29, h⟩ := kb_o_s h
  obtain ⟨w_22, w_23, f_24, f_25, f_26, f_27, f_28⟩ := u_29
  have hC := (show ([0, 2, 5, 6, 7, 8, 9, 10, 11] : List Nat).map (fun i : Nat => (kWX5_named_start256 cB cI cL cBB cII cSh h_this a_this this_taped this_code w_2 w_3 w_14 w_15 this_bitAt this_k this_e1 this_du this_dv f_this_roots f_this_cubes f_this_start224 f_this_start256 f_this_turns f_this_round f_16 f_17 f_18 f_19 f_20)[i]?) = List.map some (kWX5_put cB cI cL cBB cII cSh h_this a_this this_taped this_code w_2 w_3 w_14 w_15 this_bitAt this_k this_e1 this_du this_dv f_this_cubes f_this_turns f_this_round f_16 f_17 f_18 f_19 f_20) from rfl)
  have hPc := kb_Psub hP ([0, 2, 5, 6, 7, 8, 9, 10, 11] : List Nat) hC
  have hDc := kb_Dsub hD ([0, 2, 5, 6, 7, 8, 9, 10, 11] : List Nat) hC (by simp [kb_nd])
  refine kb_call0 (va_runV (As := [.int (72 : Int32)]) (rest := []) C0 (kcX5_put l D cB cI cL cBB cII cSh h_this a_this _ (72 : Int32) this_taped this_code w_2 w_3 w_14 w_15 this_bitAt this_k this_e1 this_du this_dv f_this_cubes f_this_turns f_this_round f_16 f_17 f_18 f_19 f_20 (w_22, w_23, f_24, f_25, f_26, f_27, f_28) hu_29) (cwV 1 hts (kb_gV km_641 km_643 kp_22 km_6 km_644) rfl rfl rfl (by decide +kernel) ⟨Nat.le_of_ble_eq_true rfl, Nat.le_of_ble_eq_true rfl⟩) ⟨kb_P_bl, va_recv hK hP (ci := 5) (q0 := 0) rfl rfl, (fun U hU hW => ⟨rfl, by rw [hU], by rw [hU]; exact hPc, va_K.moved hW.alike hK, kb_N_to hW hN, hDc.weaken (fun _ _ _ _ => trivial)⟩)⟩ rfl rfl hl.1 rfl (lv_room (Nat.le_of_ble_eq_true rfl)) kdX5_named_43 ⟨Nat.le_of_ble_eq_true rfl, Nat.le_of_ble_eq_true rfl⟩) hP hD hS hA ([0, 2, 5, 6, 7, 8, 9, 10, 11] : List Nat) hC rfl (fun H locs hP hD hS => ?_)
  have hP : va_P D kCl (kWX5_named_start256 cB cI cL cBB cII cSh h_this a_this this_taped this_code w_2 w_3 w_22 w_23 this_bitAt this_k this_e1 this_du this_dv f_this_roots f_this_cubes f_this_start224 f_this_start256 f_this_turns f_this_round f_24 f_25 f_26 f_27 f_28) H := hP
  have hD : va_D A (kWX5_named_start256 cB cI cL cBB cII cSh h_this a_this this_taped this_code w_2 w_3 w_22 w_23 this_bitAt this_k this_e1 this_du this_dv f_this_roots f_this_cubes f_this_start224 f_this_start256 f_this_turns f_this_round f_24 f_25 f_26 f_27 f_28) := hD
  refine lv_aload_n hx hb kdX5_named_46 rfl (lv_at hl 0 rfl) ?_
  refine lv_bipush (v := 65) hx hb kdX5_named_47 (by decide) ?_
  obtain ⟨u_37, hu_37, h⟩ := kb_o_s h
  obtain ⟨w_30, w_31, f_32, f_33, f_34, f_35, f_36⟩ := u_37
  have hC := (show ([0, 2, 5, 6, 7, 8, 9, 10, 11] : List Nat).map (fun i : Nat => (kWX5_named_start256 cB cI cL cBB cII cSh h_this a_this this_taped this_code w_2 w_3 w_22 w_23 this_bitAt this_k this_e1 this_du this_dv f_this_roots f_this_cubes f_this_start224 f_this_start256 f_this_turns f_this_round f_24 f_25 f_26 f_27 f_28)[i]?) = List.map some (kWX5_put cB cI cL cBB cII cSh h_this a_this this_taped this_code w_2 w_3 w_22 w_23 this_bitAt this_k this_e1 this_du this_dv f_this_cubes f_this_turns f_this_round f_24 f_25 f_26 f_27 f_28) from rfl)
  have hPc := kb_Psub hP ([0, 2, 5, 6, 7, 8, 9, 10, 11] : List Nat) hC
  have hDc := kb_Dsub hD ([0, 2, 5, 6, 7, 8, 9, 10, 11] : List Nat) hC (by simp [kb_nd])
  refine kb_call0 (va_runV (As := [.int (65 : Int32)]) (rest := []) C0 (kcX5_put l D cB cI cL cBB cII cSh h_this a_this _ (65 : Int32) this_taped this_code w_2 w_3 w_22 w_23 this_bitAt this_k this_e1 this_du this_dv f_this_cubes f_this_turns f_this_round f_24 f_25 f_26 f_27 f_28 (w_30, w_31, f_32, f_33, f_34, f_35, f_36) hu_37) (cwV 1 hts (kb_gV km_641 km_643 kp_22 km_6 km_644) rfl rfl rfl (by decide +kernel) ⟨Nat.le_of_ble_eq_true rfl, Nat.le_of_ble_eq_true rfl⟩) ⟨kb_P_bl, va_recv hK hP (ci := 5) (q0 := 0) rfl rfl, (fun U hU hW => ⟨rfl, by rw [hU], by rw [hU]; exact hPc, va_K.moved hW.alike hK, kb_N_to hW hN, hDc.weaken (fun _ _ _ _ => trivial)⟩)⟩ rfl rfl hl.1 rfl (lv_room (Nat.le_of_ble_eq_true rfl)) kdX5_named_49 ⟨Nat.le_of_ble_eq_true rfl, Nat.le_of_ble_eq_true rfl⟩) hP hD hS hA ([0, 2, 5, 6, 7, 8, 9, 10, 11] : List Nat) hC rfl (fun H locs hP hD hS => ?_)
  have hP : va_P D kCl (kWX5_named_start256 cB cI cL cBB cII cSh h_this a_this this_taped this_code w_2 w_3 w_30 w_31 this_bitAt this_k this_e1 this_du this_dv f_this_roots f_this_cubes f_this_start224 f_this_start256 f_this_turns f_this_round f_32 f_33 f_34 f_35 f_36) H := hP
  have hD : va_D A (kWX5_named_start256 cB cI cL cBB cII cSh h_this a_this this_taped this_code w_2 w_3 w_30 w_31 this_bitAt this_k this_e1 this_du this_dv f_this_roots f_this_cubes f_this_start224 f_this_start256 f_this_turns f_this_round f_32 f_33 f_34 f_35 f_36) := hD
  refine lv_aload_n hx hb kdX5_named_52 rfl (lv_at hl 0 rfl) ?_
  refine lv_bipush (v := 45) hx hb kdX5_named_53 (by decide) ?_
  obtain ⟨u_45, hu_45, h⟩ := kb_o_s h
  obtain ⟨w_38, w_39, f_40, f_41, f_42, f_43, f_44⟩ := u_45
  have hC := (show ([0, 2, 5, 6, 7, 8, 9, 10, 11] : List Nat).map (fun i : Nat => (kWX5_named_start256 cB cI cL cBB cII cSh h_this a_this this_taped this_code w_2 w_3 w_30 w_31 this_bitAt this_k this_e1 this_du this_dv f_this_roots f_this_cubes f_this_start224 f_this_start256 f_this_turns f_this_round f_32 f_33 f_34 f_35 f_36)[i]?) = List.map some (kWX5_put cB cI cL cBB cII cSh h_this a_this this_taped this_code w_2 w_3 w_30 w_31 this_bitAt this_k this_e1 this_du this_dv f_this_cubes f_this_turns f_this_round f_32 f_33 f_34 f_35 f_36) from rfl)
  have hPc := kb_Psub hP ([0, 2, 5, 6, 7, 8, 9, 10, 11] : List Nat) hC
  have hDc := kb_Dsub hD ([0, 2, 5, 6, 7, 8, 9, 10, 11] : List Nat) hC (by simp [kb_nd])
  refine kb_call0 (va_runV (As := [.int (45 : Int32)]) (rest := []) C0 (kcX5_put l D cB cI cL cBB cII cSh h_this a_this _ (45 : Int32) this_taped this_code w_2 w_3 w_30 w_31 this_bitAt this_k this_e1 this_du this_dv f_this_cubes f_this_turns f_this_round f_32 f_33 f_34 f_35 f_36 (w_38, w_39, f_40, f_41, f_42, f_43, f_44) hu_45) (cwV 1 hts (kb_gV km_641 km_643 kp_22 km_6 km_644) rfl rfl rfl (by decide +kernel) ⟨Nat.le_of_ble_eq_true rfl, Nat.le_of_ble_eq_true rfl⟩) ⟨kb_P_bl, va_recv hK hP (ci := 5) (q0 := 0) rfl rfl, (fun U hU hW => ⟨rfl, by rw [hU], by rw [hU]; exact hPc, va_K.moved hW.alike hK, kb_N_to hW hN, hDc.weaken (fun _ _ _ _ => trivial)⟩)⟩ rfl rfl hl.1 rfl (lv_room (Nat.le_of_ble_eq_true rfl)) kdX5_named_55 ⟨Nat.le_of_ble_eq_true rfl, Nat.le_of_ble_eq_true rfl⟩) hP hD hS hA ([0, 2, 5, 6, 7, 8, 9, 10, 11] : List Nat) hC rfl (fun H locs hP hD hS => ?_)
  have hP : va_P D kCl (kWX5_named_start256 cB cI cL cBB cII cSh h_this a_this this_taped this_code w_2 w_3 w_38 w_39 this_bitAt this_k this_e1 this_du this_dv f_this_roots f_this_cubes f_this_start224 f_this_start256 f_this_turns f_this_round f_40 f_41 f_42 f_43 f_44) H := hP
  have hD : va_D A (kWX5_named_start256 cB cI cL cBB cII cSh h_this a_this this_taped this_code w_2 w_3 w_38 w_39 this_bitAt this_k this_e1 this_du this_dv f_this_roots f_this_cubes f_this_start224 f_this_start256 f_this_turns f_this_round f_40 f_41 f_42 f_43 f_44) := hD
  refine lv_aload_n hx hb kdX5_named_58 rfl (lv_at hl 0 rfl) ?_
  refine lv_bipush (v := 53) hx hb kdX5_named_59 (by decide) ?_
  obtain ⟨u_53, hu_53, h⟩ := kb_o_s h
  obtain ⟨w_46, w_47, f_48, f_49, f_50, f_51, f_52⟩ := u_53
  have hC := (show ([0, 2, 5, 6, 7, 8, 9, 10, 11] : List Nat).map (fun i : Nat => (kWX5_named_start256 cB cI cL cBB cII cSh h_this a_this this_taped this_code w_2 w_3 w_38 w_39 this_bitAt this_k this_e1 this_du this_dv f_this_roots f_this_cubes f_this_start224 f_this_start256 f_this_turns f_this_round f_40 f_41 f_42 f_43 f_44)[i]?) = List.map some (kWX5_put cB cI cL cBB cII cSh h_this a_this this_taped this_code w_2 w_3 w_38 w_39 this_bitAt this_k this_e1 this_du this_dv f_this_cubes f_this_turns f_this_round f_40 f_41 f_42 f_43 f_44) from rfl)
  have hPc := kb_Psub hP ([0, 2, 5, 6, 7, 8, 9, 10, 11] : List Nat) hC
  have hDc := kb_Dsub hD ([0, 2, 5, 6, 7, 8, 9, 10, 11] : List Nat) hC (by simp [kb_nd])
  refine kb_call0 (va_runV (As := [.int (53 : Int32)]) (rest := []) C0 (kcX5_put l D cB cI cL cBB cII cSh h_this a_this _ (53 : Int32) this_taped this_code w_2 w_3 w_38 w_39 this_bitAt this_k this_e1 this_du this_dv f_this_cubes f_this_turns f_this_round f_40 f_41 f_42 f_43 f_44 (w_46, w_47, f_48, f_49, f_50, f_51, f_52) hu_53) (cwV 1 hts (kb_gV km_641 km_643 kp_22 km_6 km_644) rfl rfl rfl (by decide +kernel) ⟨Nat.le_of_ble_eq_true rfl, Nat.le_of_ble_eq_true rfl⟩) ⟨kb_P_bl, va_recv hK hP (ci := 5) (q0 := 0) rfl rfl, (fun U hU hW => ⟨rfl, by rw [hU], by rw [hU]; exact hPc, va_K.moved hW.alike hK, kb_N_to hW hN, hDc.weaken (fun _ _ _ _ => trivial)⟩)⟩ rfl rfl hl.1 rfl (lv_room (Nat.le_of_ble_eq_true rfl)) kdX5_named_61 ⟨Nat.le_of_ble_eq_true rfl, Nat.le_of_ble_eq_true rfl⟩) hP hD hS hA ([0, 2, 5, 6, 7, 8, 9, 10, 11] : List Nat) hC rfl (fun H locs hP hD hS => ?_)
  have hP : va_P D kCl (kWX5_named_start256 cB cI cL cBB cII cSh h_this a_this this_taped this_code w_2 w_3 w_46 w_47 this_bitAt this_k this_e1 this_du this_dv f_this_roots f_this_cubes f_this_start224 f_this_start256 f_this_turns f_this_round f_48 f_49 f_50 f_51 f_52) H := hP
  have hD : va_D A (kWX5_named_start256 cB cI cL cBB cII cSh h_this a_this this_taped this_code w_2 w_3 w_46 w_47 this_bitAt this_k this_e1 this_du this_dv f_this_roots f_this_cubes f_this_start224 f_this_start256 f_this_turns f_this_round f_48 f_49 f_50 f_51 f_52) := hD
  refine lv_aload_n hx hb kdX5_named_64 rfl (lv_at hl 0 rfl) ?_
  refine lv_bipush (v := 49) hx hb kdX5_named_65 (by decide) ?_
  obtain ⟨u_61, hu_61, h⟩ := kb_o_s h
  obtain ⟨w_54, w_55, f_56, f_57, f_58, f_59, f_60⟩ := u_61
  have hC := (show ([0, 2, 5, 6, 7, 8, 9, 10, 11] : List Nat).map (fun i : Nat => (kWX5_named_start256 cB cI cL cBB cII cSh h_this a_this this_taped this_code w_2 w_3 w_46 w_47 this_bitAt this_k this_e1 this_du this_dv f_this_roots f_this_cubes f_this_start224 f_this_start256 f_this_turns f_this_round f_48 f_49 f_50 f_51 f_52)[i]?) = List.map some (kWX5_put cB cI cL cBB cII cSh h_this a_this this_taped this_code w_2 w_3 w_46 w_47 this_bitAt this_k this_e1 this_du this_dv f_this_cubes f_this_turns f_this_round f_48 f_49 f_50 f_51 f_52) from rfl)
  have hPc := kb_Psub hP ([0, 2, 5, 6, 7, 8, 9, 10, 11] : List Nat) hC
  have hDc := kb_Dsub hD ([0, 2, 5, 6, 7, 8, 9, 10, 11] : List Nat) hC (by simp [kb_nd])
  refine kb_call0 (va_runV (As := [.int (49 : Int32)]) (rest := []) C0 (kcX5_put l D cB cI cL cBB cII cSh h_this a_this _ (49 : Int32) this_taped this_code w_2 w_3 w_46 w_47 this_bitAt this_k this_e1 this_du this_dv f_this_cubes f_this_turns f_this_round f_48 f_49 f_50 f_51 f_52 (w_54, w_55, f_56, f_57, f_58, f_59, f_60) hu_61) (cwV 1 hts (kb_gV km_641 km_643 kp_22 km_6 km_644) rfl rfl rfl (by decide +kernel) ⟨Nat.le_of_ble_eq_true rfl, Nat.le_of_ble_eq_true rfl⟩) ⟨kb_P_bl, va_recv hK hP (ci := 5) (q0 := 0) rfl rfl, (fun U hU hW => ⟨rfl, by rw [hU], by rw [hU]; exact hPc, va_K.moved hW.alike hK, kb_N_to hW hN, hDc.weaken (fun _ _ _ _ => trivial)⟩)⟩ rfl rfl hl.1 rfl (lv_room (Nat.le_of_ble_eq_true rfl)) kdX5_named_67 ⟨Nat.le_of_ble_eq_true rfl, Nat.le_of_ble_eq_true rfl⟩) hP hD hS hA ([0, 2, 5, 6, 7, 8, 9, 10, 11] : List Nat) hC rfl (fun H locs hP hD hS => ?_)
  have hP : va_P D kCl (kWX5_named_start256 cB cI cL cBB cII cSh h_this a_this this_taped this_code w_2 w_3 w_54 w_55 this_bitAt this_k this_e1 this_du this_dv f_this_roots f_this_cubes f_this_start224 f_this_start256 f_this_turns f_this_round f_56 f_57 f_58 f_59 f_60) H := hP
  have hD : va_D A (kWX5_named_start256 cB cI cL cBB cII cSh h_this a_this this_taped this_code w_2 w_3 w_54 w_55 this_bitAt this_k this_e1 this_du this_dv f_this_roots f_this_cubes f_this_start224 f_this_start256 f_this_turns f_this_round f_56 f_57 f_58 f_59 f_60) := hD
  refine lv_aload_n hx hb kdX5_named_70 rfl (lv_at hl 0 rfl) ?_
  refine lv_bipush (v := 50) hx hb kdX5_named_71 (by decide) ?_
  obtain ⟨u_69, hu_69, h⟩ := kb_o_s h
  obtain ⟨w_62, w_63, f_64, f_65, f_66, f_67, f_68⟩ := u_69
  have hC := (show ([0, 2, 5, 6, 7, 8, 9, 10, 11] : List Nat).map (fun i : Nat => (kWX5_named_start256 cB cI cL cBB cII cSh h_this a_this this_taped this_code w_2 w_3 w_54 w_55 this_bitAt this_k this_e1 this_du this_dv f_this_roots f_this_cubes f_this_start224 f_this_start256 f_this_turns f_this_round f_56 f_57 f_58 f_59 f_60)[i]?) = List.map some (kWX5_put cB cI cL cBB cII cSh h_this a_this this_taped this_code w_2 w_3 w_54 w_55 this_bitAt this_k this_e1 this_du this_dv f_this_cubes f_this_turns f_this_round f_56 f_57 f_58 f_59 f_60) from rfl)
  have hPc := kb_Psub hP ([0, 2, 5, 6, 7, 8, 9, 10, 11] : List Nat) hC
  have hDc := kb_Dsub hD ([0, 2, 5, 6, 7, 8, 9, 10, 11] : List Nat) hC (by simp [kb_nd])
  refine kb_call0 (va_runV (As := [.int (50 : Int32)]) (rest := []) C0 (kcX5_put l D cB cI cL cBB cII cSh h_this a_this _ (50 : Int32) this_taped this_code w_2 w_3 w_54 w_55 this_bitAt this_k this_e1 this_du this_dv f_this_cubes f_this_turns f_this_round f_56 f_57 f_58 f_59 f_60 (w_62, w_63, f_64, f_65, f_66, f_67, f_68) hu_69) (cwV 1 hts (kb_gV km_641 km_643 kp_22 km_6 km_644) rfl rfl rfl (by decide +kernel) ⟨Nat.le_of_ble_eq_true rfl, Nat.le_of_ble_eq_true rfl⟩) ⟨kb_P_bl, va_recv hK hP (ci := 5) (q0 := 0) rfl rfl, (fun U hU hW => ⟨rfl, by rw [hU], by rw [hU]; exact hPc, va_K.moved hW.alike hK, kb_N_to hW hN, hDc.weaken (fun _ _ _ _ => trivial)⟩)⟩ rfl rfl hl.1 rfl (lv_room (Nat.le_of_ble_eq_true rfl)) kdX5_named_73 ⟨Nat.le_of_ble_eq_true rfl, Nat.le_of_ble_eq_true rfl⟩) hP hD hS hA ([0, 2, 5, 6, 7, 8, 9, 10, 11] : List Nat) hC rfl (fun H locs hP hD hS => ?_)
  have hP : va_P D kCl (kWX5_named_start256 cB cI cL cBB cII cSh h_this a_this this_taped this_code w_2 w_3 w_62 w_63 this_bitAt this_k this_e1 this_du this_dv f_this_roots f_this_cubes f_this_start224 f_this_start256 f_this_turns f_this_round f_64 f_65 f_66 f_67 f_68) H := hP
  have hD : va_D A (kWX5_named_start256 cB cI cL cBB cII cSh h_this a_this this_taped this_code w_2 w_3 w_62 w_63 this_bitAt this_k this_e1 this_du this_dv f_this_roots f_this_cubes f_this_start224 f_this_start256 f_this_turns f_this_round f_64 f_65 f_66 f_67 f_68) := hD
  refine lv_aload_n hx hb kdX5_named_76 rfl (lv_at hl 0 rfl) ?_
  refine lv_bipush (v := 47) hx hb kdX5_named_77 (by decide) ?_
  obtain ⟨u_77, hu_77, h⟩ := kb_o_s h
  obtain ⟨w_70, w_71, f_72, f_73, f_74, f_75, f_76⟩ := u_77
  have hC := (show ([0, 2, 5, 6, 7, 8, 9, 10, 11] : List Nat).map (fun i : Nat => (kWX5_named_start256 cB cI cL cBB cII cSh h_this a_this this_taped this_code w_2 w_3 w_62 w_63 this_bitAt this_k this_e1 this_du this_dv f_this_roots f_this_cubes f_this_start224 f_this_start256 f_this_turns f_this_round f_64 f_65 f_66 f_67 f_68)[i]?) = List.map some (kWX5_put cB cI cL cBB cII cSh h_this a_this this_taped this_code w_2 w_3 w_62 w_63 this_bitAt this_k this_e1 this_du this_dv f_this_cubes f_this_turns f_this_round f_64 f_65 f_66 f_67 f_68) from rfl)
  have hPc := kb_Psub hP ([0, 2, 5, 6, 7, 8, 9, 10, 11] : List Nat) hC
  have hDc := kb_Dsub hD ([0, 2, 5, 6, 7, 8, 9, 10, 11] : List Nat) hC (by simp [kb_nd])
  refine kb_call0 (va_runV (As := [.int (47 : Int32)]) (rest := []) C0 (kcX5_put l D cB cI cL cBB cII cSh h_this a_this _ (47 : Int32) this_taped this_code w_2 w_3 w_62 w_63 this_bitAt this_k this_e1 this_du this_dv f_this_cubes f_this_turns f_this_round f_64 f_65 f_66 f_67 f_68 (w_70, w_71, f_72, f_73, f_74, f_75, f_76) hu_77) (cwV 1 hts (kb_gV km_641 km_643 kp_22 km_6 km_644) rfl rfl rfl (by decide +kernel) ⟨Nat.le_of_ble_eq_true rfl, Nat.le_of_ble_eq_true rfl⟩) ⟨kb_P_bl, va_recv hK hP (ci := 5) (q0 := 0) rfl rfl, (fun U hU hW => ⟨rfl, by rw [hU], by rw [hU]; exact hPc, va_K.moved hW.alike hK, kb_N_to hW hN, hDc.weaken (fun _ _ _ _ => trivial)⟩)⟩ rfl rfl hl.1 rfl (lv_room (Nat.le_of_ble_eq_true rfl)) kdX5_named_79 ⟨Nat.le_of_ble_eq_true rfl, Nat.le_of_ble_eq_true rfl⟩) hP hD hS hA ([0, 2, 5, 6, 7, 8, 9, 10, 11] : List Nat) hC rfl (fun H locs hP hD hS => ?_)
  have hP : va_P D kCl (kWX5_named_start256 cB cI cL cBB cII cSh h_this a_this this_taped this_code w_2 w_3 w_70 w_71 this_bitAt this_k this_e1 this_du this_dv f_this_roots f_this_cubes f_this_start224 f_this_start256 f_this_turns f_this_round f_72 f_73 f_74 f_75 f_76) H := hP
  have hD : va_D A (kWX5_named_start256 cB cI cL cBB cII cSh h_this a_this this_taped this_code w_2 w_3 w_70 w_71 this_bitAt this_k this_e1 this_du this_dv f_this_roots f_this_cubes f_this_start224 f_this_start256 f_this_turns f_this_round f_72 f_73 f_74 f_75 f_76) := hD
  refine lv_aload_n hx hb kdX5_named_82 rfl (lv_at hl 0 rfl) ?_
  refine lv_bipush (v := 50) hx hb kdX5_named_83 (by decide) ?_
  obtain ⟨u_85, hu_85, h⟩ := kb_o_s h
  obtain ⟨w_78, w_79, f_80, f_81, f_82, f_83, f_84⟩ := u_85
  have hC := (show ([0, 2, 5, 6, 7, 8, 9, 10, 11] : List Nat).map (fun i : Nat => (kWX5_named_start256 cB cI cL cBB cII cSh h_this a_this this_taped this_code w_2 w_3 w_70 w_71 this_bitAt this_k this_e1 this_du this_dv f_this_roots f_this_cubes f_this_start224 f_this_start256 f_this_turns f_this_round f_72 f_73 f_74 f_75 f_76)[i]?) = List.map some (kWX5_put cB cI cL cBB cII cSh h_this a_this this_taped this_code w_2 w_3 w_70 w_71 this_bitAt this_k this_e1 this_du this_dv f_this_cubes f_this_turns f_this_round f_72 f_73 f_74 f_75 f_76) from rfl)
  have hPc := kb_Psub hP ([0, 2, 5, 6, 7, 8, 9, 10, 11] : List Nat) hC
  have hDc := kb_Dsub hD ([0, 2, 5, 6, 7, 8, 9, 10, 11] : List Nat) hC (by simp [kb_nd])
  refine kb_call0 (va_runV (As := [.int (50 : Int32)]) (rest := []) C0 (kcX5_put l D cB cI cL cBB cII cSh h_this a_this _ (50 : Int32) this_taped this_code w_2 w_3 w_70 w_71 this_bitAt this_k this_e1 this_du this_dv f_this_cubes f_this_turns f_this_round f_72 f_73 f_74 f_75 f_76 (w_78, w_79, f_80, f_81, f_82, f_83, f_84) hu_85) (cwV 1 hts (kb_gV km_641 km_643 kp_22 km_6 km_644) rfl rfl rfl (by decide +kernel) ⟨Nat.le_of_ble_eq_true rfl, Nat.le_of_ble_eq_true rfl⟩) ⟨kb_P_bl, va_recv hK hP (ci := 5) (q0 := 0) rfl rfl, (fun U hU hW => ⟨rfl, by rw [hU], by rw [hU]; exact hPc, va_K.moved hW.alike hK, kb_N_to hW hN, hDc.weaken (fun _ _ _ _ => trivial)⟩)⟩ rfl rfl hl.1 rfl (lv_room (Nat.le_of_ble_eq_true rfl)) kdX5_named_85 ⟨Nat.le_of_ble_eq_true rfl, Nat.le_of_ble_eq_true rfl⟩) hP hD hS hA ([0, 2, 5, 6, 7, 8, 9, 10, 11] : List Nat) hC rfl (fun H locs hP hD hS => ?_)
  have hP : va_P D kCl (kWX5_named_start256 cB cI cL cBB cII cSh h_this a_this this_taped this_code w_2 w_3 w_78 w_79 this_bitAt this_k this_e1 this_du this_dv f_this_roots f_this_cubes f_this_start224 f_this_start256 f_this_turns f_this_round f_80 f_81 f_82 f_83 f_84) H := hP
  have hD : va_D A (kWX5_named_start256 cB cI cL cBB cII cSh h_this a_this this_taped this_code w_2 w_3 w_78 w_79 this_bitAt this_k this_e1 this_du this_dv f_this_roots f_this_cubes f_this_start224 f_this_start256 f_this_turns f_this_round f_80 f_81 f_82 f_83 f_84) := hD
  refine lv_aload_n hx hb kdX5_named_88 rfl (lv_at hl 0 rfl) ?_
  refine lv_iload_n hx hb kdX5_named_89 rfl (lv_at hl 2 rfl) ?_
  obtain ⟨u_93, hu_93, h⟩ := kb_o_s h
  obtain ⟨w_86, w_87, f_88, f_89, f_90, f_91, f_92⟩ := u_93
  have hC := (show ([0, 2, 5, 6, 7, 8, 9, 10, 11] : List Nat).map (fun i : Nat => (kWX5_named_start256 cB cI cL cBB cII cSh h_this a_this this_taped this_code w_2 w_3 w_78 w_79 this_bitAt this_k this_e1 this_du this_dv f_this_roots f_this_cubes f_this_start224 f_this_start256 f_this_turns f_this_round f_80 f_81 f_82 f_83 f_84)[i]?) = List.map some (kWX5_put cB cI cL cBB cII cSh h_this a_this this_taped this_code w_2 w_3 w_78 w_79 this_bitAt this_k this_e1 this_du this_dv f_this_cubes f_this_turns f_this_round f_80 f_81 f_82 f_83 f_84) from rfl)
  have hPc := kb_Psub hP ([0, 2, 5, 6, 7, 8, 9, 10, 11] : List Nat) hC
  have hDc := kb_Dsub hD ([0, 2, 5, 6, 7, 8, 9, 10, 11] : List Nat) hC (by simp [kb_nd])
  refine kb_call0 (va_runV (As := [.int p2]) (rest := []) C0 (kcX5_put l D cB cI cL cBB cII cSh h_this a_this _ p2 this_taped this_code w_2 w_3 w_78 w_79 this_bitAt this_k this_e1 this_du this_dv f_this_cubes f_this_turns f_this_round f_80 f_81 f_82 f_83 f_84 (w_86, w_87, f_88, f_89, f_90, f_91, f_92) hu_93) (cwV 1 hts (kb_gV km_641 km_643 kp_22 km_6 km_644) rfl rfl rfl (by decide +kernel) ⟨Nat.le_of_ble_eq_true rfl, Nat.le_of_ble_eq_true rfl⟩) ⟨kb_P_bl, va_recv hK hP (ci := 5) (q0 := 0) rfl rfl, (fun U hU hW => ⟨rfl, by rw [hU], by rw [hU]; exact hPc, va_K.moved hW.alike hK, kb_N_to hW hN, hDc.weaken (fun _ _ _ _ => trivial)⟩)⟩ rfl rfl hl.1 rfl (lv_room (Nat.le_of_ble_eq_true rfl)) kdX5_named_90 ⟨Nat.le_of_ble_eq_true rfl, Nat.le_of_ble_eq_true rfl⟩) hP hD hS hA ([0, 2, 5, 6, 7, 8, 9, 10, 11] : List Nat) hC rfl (fun H locs hP hD hS => ?_)
  have hP : va_P D kCl (kWX5_named_start256 cB cI cL cBB cII cSh h_this a_this this_taped this_code w_2 w_3 w_86 w_87 this_bitAt this_k this_e1 this_du this_dv f_this_roots f_this_cubes f_this_start224 f_this_start256 f_this_turns f_this_round f_88 f_89 f_90 f_91 f_92) H := hP
  have hD : va_D A (kWX5_named_start256 cB cI cL cBB cII cSh h_this a_this this_taped this_code w_2 w_3 w_86 w_87 this_bitAt this_k this_e1 this_du this_dv f_this_roots f_this_cubes f_this_start224 f_this_start256 f_this_turns f_this_round f_88 f_89 f_90 f_91 f_92) := hD
  refine lv_aload_n hx hb kdX5_named_93 rfl (lv_at hl 0 rfl) ?_
  refine lv_iload_n hx hb kdX5_named_94 rfl (lv_at hl 3 rfl) ?_
  obtain ⟨u_101, hu_101, h⟩ := kb_o_s h
  obtain ⟨w_94, w_95, f_96, f_97, f_98, f_99, f_100⟩ := u_101
  have hC := (show ([0, 2, 5, 6, 7, 8, 9, 10, 11] : List Nat).map (fun i : Nat => (kWX5_named_start256 cB cI cL cBB cII cSh h_this a_this this_taped this_code w_2 w_3 w_86 w_87 this_bitAt this_k this_e1 this_du this_dv f_this_roots f_this_cubes f_this_start224 f_this_start256 f_this_turns f_this_round f_88 f_89 f_90 f_91 f_92)[i]?) = List.map some (kWX5_put cB cI cL cBB cII cSh h_this a_this this_taped this_code w_2 w_3 w_86 w_87 this_bitAt this_k this_e1 this_du this_dv f_this_cubes f_this_turns f_this_round f_88 f_89 f_90 f_91 f_92) from rfl)
  have hPc := kb_Psub hP ([0, 2, 5, 6, 7, 8, 9, 10, 11] : List Nat) hC
  have hDc := kb_Dsub hD ([0, 2, 5, 6, 7, 8, 9, 10, 11] : List Nat) hC (by simp [kb_nd])
  refine kb_call0 (va_runV (As := [.int p3]) (rest := []) C0 (kcX5_put l D cB cI cL cBB cII cSh h_this a_this _ p3 this_taped this_code w_2 w_3 w_86 w_87 this_bitAt this_k this_e1 this_du this_dv f_this_cubes f_this_turns f_this_round f_88 f_89 f_90 f_91 f_92 (w_94, w_95, f_96, f_97, f_98, f_99, f_100) hu_101) (cwV 1 hts (kb_gV km_641 km_643 kp_22 km_6 km_644) rfl rfl rfl (by decide +kernel) ⟨Nat.le_of_ble_eq_true rfl, Nat.le_of_ble_eq_true rfl⟩) ⟨kb_P_bl, va_recv hK hP (ci := 5) (q0 := 0) rfl rfl, (fun U hU hW => ⟨rfl, by rw [hU], by rw [hU]; exact hPc, va_K.moved hW.alike hK, kb_N_to hW hN, hDc.weaken (fun _ _ _ _ => trivial)⟩)⟩ rfl rfl hl.1 rfl (lv_room (Nat.le_of_ble_eq_true rfl)) kdX5_named_95 ⟨Nat.le_of_ble_eq_true rfl, Nat.le_of_ble_eq_true rfl⟩) hP hD hS hA ([0, 2, 5, 6, 7, 8, 9, 10, 11] : List Nat) hC rfl (fun H locs hP hD hS => ?_)
  have hP : va_P D kCl (kWX5_named_start256 cB cI cL cBB cII cSh h_this a_this this_taped this_code w_2 w_3 w_94 w_95 this_bitAt this_k this_e1 this_du this_dv f_this_roots f_this_cubes f_this_start224 f_this_start256 f_this_turns f_this_round f_96 f_97 f_98 f_99 f_100) H := hP
  have hD : va_D A (kWX5_named_start256 cB cI cL cBB cII cSh h_this a_this this_taped this_code w_2 w_3 w_94 w_95 this_bitAt this_k this_e1 this_du this_dv f_this_roots f_this_cubes f_this_start224 f_this_start256 f_this_turns f_this_round f_96 f_97 f_98 f_99 f_100) := hD
  refine lv_aload_n hx hb kdX5_named_98 rfl (lv_at hl 0 rfl) ?_
  obtain ⟨u_109, hu_109, h⟩ := kb_o_s h
  obtain ⟨w_102, w_103, f_104, f_105, f_106, f_107, f_108⟩ := u_109
  have hC := (show ([0, 2, 5, 6, 7, 8, 9, 10, 11] : List Nat).map (fun i : Nat => (kWX5_named_start256 cB cI cL cBB cII cSh h_this a_this this_taped this_code w_2 w_3 w_94 w_95 this_bitAt this_k this_e1 this_du this_dv f_this_roots f_this_cubes f_this_start224 f_this_start256 f_this_turns f_this_round f_96 f_97 f_98 f_99 f_100)[i]?) = List.map some (kWX5_finish cB cI cL cBB cII cSh h_this a_this this_taped this_code w_2 w_3 w_94 w_95 this_bitAt this_k this_e1 this_du this_dv f_this_cubes f_this_turns f_this_round f_96 f_97 f_98 f_99 f_100) from rfl)
  have hPc := kb_Psub hP ([0, 2, 5, 6, 7, 8, 9, 10, 11] : List Nat) hC
  have hDc := kb_Dsub hD ([0, 2, 5, 6, 7, 8, 9, 10, 11] : List Nat) hC (by simp [kb_nd])
  refine kb_call0 (va_runV (As := []) (rest := []) C0 (kcX5_finish l D cB cI cL cBB cII cSh h_this a_this _ this_taped this_code w_2 w_3 w_94 w_95 this_bitAt this_k this_e1 this_du this_dv f_this_cubes f_this_turns f_this_round f_96 f_97 f_98 f_99 f_100 (w_102, w_103, f_104, f_105, f_106, f_107, f_108) hu_109) (cwV 0 hts (kb_gV km_676 km_678 kp_23 km_6 km_679) rfl rfl rfl (by decide +kernel) ⟨Nat.le_of_ble_eq_true rfl, Nat.le_of_ble_eq_true rfl⟩) ⟨kb_P_bl, va_recv hK hP (ci := 5) (q0 := 0) rfl rfl, (fun U hU hW => ⟨rfl, by rw [hU], by rw [hU]; exact hPc, va_K.moved hW.alike hK, kb_N_to hW hN, hDc.weaken (fun _ _ _ _ => trivial)⟩)⟩ rfl rfl hl.1 rfl (lv_room (Nat.le_of_ble_eq_true rfl)) kdX5_named_99 ⟨Nat.le_of_ble_eq_true rfl, Nat.le_of_ble_eq_true rfl⟩) hP hD hS hA ([0, 2, 5, 6, 7, 8, 9, 10, 11] : List Nat) hC rfl (fun H locs hP hD hS => ?_)
  have hP : va_P D kCl (kWX5_named_start256 cB cI cL cBB cII cSh h_this a_this this_taped this_code w_2 w_3 w_102 w_103 this_bitAt this_k this_e1 this_du this_dv f_this_roots f_this_cubes f_this_start224 f_this_start256 f_this_turns f_this_round f_104 f_105 f_106 f_107 f_108) H := hP
  have hD : va_D A (kWX5_named_start256 cB cI cL cBB cII cSh h_this a_this this_taped this_code w_2 w_3 w_102 w_103 this_bitAt this_k this_e1 this_du this_dv f_this_roots f_this_cubes f_this_start224 f_this_start256 f_this_turns f_this_round f_104 f_105 f_106 f_107 f_108) := hD
  refine lv_iconst (v := 0) hx hb kdX5_named_102 (by decide) ?_
  refine lv_istore (lv' := [(4, .int (0 : Int32)), (0, .ref h_this), (1, .ref (a_this 8)), (2, .int p2), (3, .int p3)]) hx hb kdX5_named_103 hl (by decide) rfl (fun ls hl => ?_)
  obtain ⟨r_117, hr_117, h⟩ := kb_o_s h
  refine klX5_named_start256_105 C0 hlocks hK hN hA (by decide) (by decide) h_this a_this this_taped this_code w_2 w_3 w_102 w_103 this_bitAt this_k this_e1 this_du this_dv f_this_roots f_this_cubes f_this_start224 f_this_turns f_this_round f_104 f_105 f_106 f_107 f_108 100000 (0 : Int32) f_this_start256 r_117 hr_117 _ _ _ hP hD hS (lv_sub hl [1, 2, 0] rfl) (fun x4p105_115 f_this_start256p105_116 er_117 H locs ls hP hD hS hl => ?_)
  subst er_117
  obtain rfl := Option.some.inj h
  exact W.vret hx hb hr (fun t ht hW => ⟨⟨rfl, by rw [ht]; exact hP, va_K.moved hW.alike hK, hD⟩, hS.F ht⟩) hS.2.2 kdX5_named_129
abbrev kWX5_constantsT (cB cI cL cBB cII cSh : ClassId) (h_this : Nat) (a_this : Nat → Nat) (this_taped : Int32) (this_code : Int32) (this_kind : Int32) (this_rate : Int32) (this_filled : Int32) (this_total : Int64) (this_bitAt : Int32) (this_k : Int32) (this_e1 : Int32) (this_du : Int32) (this_dv : Int32) (f_this_roots : Nat → Int64) (f_this_cubes : Nat → Int64) (f_this_start224 : Nat → Int64) (f_this_start256 : Nat → Int64) (f_this_limbs : Nat → Int64) (f_this_product : Nat → Int64) (f_this_turns : Nat → Int32) (f_this_round : Nat → Int64) (f_this_state : Nat → Int64) (f_this_other : Nat → Int64) (f_this_column : Nat → Int64) (f_this_words : Nat → Int64) (f_this_block : Nat → Int32) : va_W := [(h_this, koX5 a_this this_taped this_code this_kind this_rate this_filled this_total this_bitAt this_k this_e1 this_du this_dv), ((a_this 5), .inl (cL, 16, .inr (.inl f_this_roots))), ((a_this 6), .inl (cL, 80, .inr (.inl f_this_cubes))), ((a_this 7), .inl (cL, 8, .inr (.inl f_this_start224))), ((a_this 8), .inl (cL, 8, .inr (.inl f_this_start256))), ((a_this 9), .inl (cL, 16, .inr (.inl f_this_limbs))), ((a_this 10), .inl (cL, 16, .inr (.inl f_this_product))), ((a_this 11), .inl (cI, 25, .inl f_this_turns)), ((a_this 12), .inl (cL, 24, .inr (.inl f_this_round))), ((a_this 13), .inl (cL, 25, .inr (.inl f_this_state))), ((a_this 14), .inl (cL, 25, .inr (.inl f_this_other))), ((a_this 15), .inl (cL, 5, .inr (.inl f_this_column))), ((a_this 16), .inl (cL, 80, .inr (.inl f_this_words))), ((a_this 17), .inl (cB, 128, .inl f_this_block))]
def krX5_constantsT : Room := { frames := 5, cells := 0, slots := 0, locals := 131 }
set_option maxHeartbeats 4000000 in
set_option maxRecDepth 100000 in
theorem klX5_constantsT_4 {p : Program} {l : Launch} {e : Env} {s : State} {m : MethodId} {args : Array Value} {below : List Frame} {meth : Method} {c : Code} {cells slots : Nat} {Q : State → Prop} {D : va_G} {cB cI cL cBB cII cSh : ClassId} {A : Nat → Prop} (C0 : CallFix p m c prog_8_method_19_code 6 s args kwA kRX5) (hlocks : meth.locks = false) (hK : va_K D kCl (kb_T cB cI cL cBB cII cSh) s) (hN : kb_N s) (hA : ∀ q, s.heap.size ≤ q → A q) (hcR : cells ≤ krX5_constantsT.cells) (hsR : slots ≤ krX5_constantsT.slots) (h_this : Nat) (a_this : Nat → Nat) (this_taped : Int32) (this_code : Int32) (this_kind : Int32) (this_rate : Int32) (this_filled : Int32) (this_total : Int64) (this_bitAt : Int32) (this_k : Int32) (this_e1 : Int32) (this_du : Int32) (this_dv : Int32) (f_this_start224 : Nat → Int64) (f_this_start256 : Nat → Int64) (f_this_turns : Nat → Int32) (f_this_round : Nat → Int64) (f_this_state : Nat → Int64) (f_this_other : Nat → Int64) (f_this_column : Nat → Int64) (f_this_words : Nat → Int64) (f_this_block : Nat → Int32) :
    ∀ (fuel : Nat) (x1p4 : Int32) (x2p4 : Int32) (f_this_cubesp4 : Nat → Int64) (f_this_limbsp4 : Nat → Int64) (f_this_productp4 : Nat → Int64) (f_this_rootsp4 : Nat → Int64) (r : Int32 × Int32 × (Nat → Int64) × (Nat → Int64) × (Nat → Int64) × (Nat → Int64)), kb_w (fun u : Int32 × Int32 × (Nat → Int64) × (Nat → Int64) × (Nat → Int64) × (Nat → Int64) => kSX5_constantsT_4 u.1 u.2.1 u.2.2.1 u.2.2.2.1 u.2.2.2.2.1 u.2.2.2.2.2) fuel (x1p4, x2p4, f_this_cubesp4, f_this_limbsp4, f_this_productp4, f_this_rootsp4) = some r → ∀ (H : Heap) (locs : List Loc) (ls : Array Slot), va_P D kCl (kWX5_constantsT cB cI cL cBB cII cSh h_this a_this this_taped this_code this_kind this_rate this_filled this_total this_bitAt this_k this_e1 this_du this_dv f_this_rootsp4 f_this_cubesp4 f_this_start224 f_this_start256 f_this_limbsp4 f_this_productp4 f_this_turns f_this_round f_this_state f_this_other f_this_column f_this_words f_this_block) H → va_D A (kWX5_constantsT cB cI cL cBB cII cSh h_this a_this this_taped this_code this_kind this_rate this_filled this_total this_bitAt this_k this_e1 this_du this_dv f_this_rootsp4 f_this_cubesp4 f_this_start224 f_this_start256 f_this_limbsp4 f_this_productp4 f_this_turns f_this_round f_this_state f_this_other f_this_column f_this_words f_this_block) → va_S A s.heap H locs → lv_has ls 6 [(0, .ref h_this), (1, .int x1p4), (2, .int x2p4)] → (∀ (x1p4' : Int32) (x2p4' : Int32) (f_this_cubesp4' : Nat → Int64) (f_this_limbsp4' : Nat → Int64) (f_this_productp4' : Nat → Int64) (f_this_rootsp4' : Nat → Int64), r = (x1p4', x2p4', f_this_cubesp4', f_this_limbsp4', f_this_productp4', f_this_rootsp4') → ∀ (H : Heap) (locs : List Loc) (ls : Array Slot), va_P D kCl (kWX5_constantsT cB cI cL cBB cII cSh h_this a_this this_taped this_code this_kind this_rate this_filled this_total this_bitAt this_k this_e1 this_du this_dv f_this_rootsp4' f_this_cubesp4' f_this_start224 f_this_start256 f_this_limbsp4' f_this_productp4' f_this_turns f_this_round f_this_state f_this_other f_this_column f_this_words f_this_block) H → va_D A (kWX5_constantsT cB cI cL cBB cII cSh h_this a_this this_taped this_code this_kind this_rate this_filled this_total this_bitAt this_k this_e1 this_du this_dv f_this_rootsp4' f_this_cubesp4' f_this_start224 f_this_start256 f_this_limbsp4' f_this_productp4' f_this_turns f_this_round f_this_state f_this_other f_this_column f_this_words f_this_block) → va_S A s.heap H locs → lv_has ls 6 [(0, .ref h_this), (1, .int x1p4'), (2, .int x2p4')] → W p l e krX5_constantsT s m args below meth c H locs cells slots Q (F0 m 59 ls [])) → W p l e krX5_constantsT s m args below meth c H locs cells slots Q (F0 m 4 ls []) := by
  obtain ⟨hx, hb, hml, hown, hts⟩ := id C0
  intro fuel
  induction fuel with
  | zero =>
    intro x1p4 x2p4 f_this_cubesp4 f_this_limbsp4 f_this_productp4 f_this_rootsp4 r h
    exact absurd h (kb_w_z _ _ _)
  | succ fuel ih =>
    intro x1p4 x2p4 f_this_cubesp4 f_this_limbsp4 f_this_productp4 f_this_rootsp4 r h H locs ls hP hD hS hl hk0
    obtain ⟨o, h, ho⟩ := kb_w_s h
    have h : kSX5_constantsT_4 x1p4 x2p4 f_this_cubesp4 f_this_limbsp4 f_this_productp4 f_this_rootsp4 = some o := h
    unfold kSX5_constantsT_4 at h
    refine lv_iload_n hx hb kdX5_constants_4 rfl (lv_at hl 1 rfl) ?_
    refine lv_bipush (v := 80) hx hb kdX5_constants_5 (by decide) ?_
    refine lv_icmp_ge (tgt := 59) hx hb kdX5_constants_7 (by decide) (fun c_1 => ?_) (fun c_1 => ?_)
    · have h := kb_b_t c_1 h
      obtain rfl := Option.some.inj h
      exact hk0 x1p4 x2p4 f_this_cubesp4 f_this_limbsp4 f_this_productp4 f_this_rootsp4 ho.symm _ _ _ hP hD hS (lv_sub hl [0, 1, 2] rfl)
    · have h := kb_b_f c_1 h
      refine lv_iload_n hx hb kdX5_constants_10 rfl (lv_at hl 2 rfl) ?_
      obtain ⟨u_3, hu_3, h⟩ := kb_o_s h
      obtain ⟨r_2, rfl⟩ : ∃ z, z = u_3 := ⟨_, rfl⟩
      have hC := (show ([] : List Nat).map (fun i : Nat => (kWX5_constantsT cB cI cL cBB cII cSh h_this a_this this_taped this_code this_kind this_rate this_filled this_total this_bitAt this_k this_e1 this_du this_dv f_this_rootsp4 f_this_cubesp4 f_this_start224 f_this_start256 f_this_limbsp4 f_this_productp4 f_this_turns f_this_round f_this_state f_this_other f_this_column f_this_words f_this_block)[i]?) = List.map some (kWX5_prime cB cI cL cBB cII cSh) from rfl)
      have hPc := kb_Psub hP ([] : List Nat) hC
      have hDc := kb_Dsub hD ([] : List Nat) hC (by simp [kb_nd])
      refine kb_call0 (va_runS (As := [.int x2p4]) (rest := []) C0 (kcX5_prime l D cB cI cL cBB cII cSh  _ x2p4 r_2 hu_3) (va_cwS 1 hts (kb_gS km_610 km_611 km_6 km_612) rfl rfl rfl (by decide +kernel) ⟨Nat.le_of_ble_eq_true rfl, Nat.le_of_ble_eq_true rfl⟩) ⟨kb_P_bl, (fun U hU hW => ⟨rfl, by rw [hU], by rw [hU]; exact hPc, va_K.moved hW.alike hK, kb_N_to hW hN, hDc.weaken (fun _ _ _ _ => trivial)⟩)⟩ rfl rfl hl.1 rfl (lv_room (Nat.le_of_ble_eq_true rfl)) kdX5_constants_11 ⟨hcR, hsR⟩) hP hD hS hA ([] : List Nat) hC rfl (fun H locs hP hD hS => ?_)
      have hP : va_P D kCl (kWX5_constantsT cB cI cL cBB cII cSh h_this a_this this_taped this_code this_kind this_rate this_filled this_total this_bitAt this_k this_e1 this_du this_dv f_this_rootsp4 f_this_cubesp4 f_this_start224 f_this_start256 f_this_limbsp4 f_this_productp4 f_this_turns f_this_round f_this_state f_this_other f_this_column f_this_words f_this_block) H := hP
      have hD : va_D A (kWX5_constantsT cB cI cL cBB cII cSh h_this a_this this_taped this_code this_kind this_rate this_filled this_total this_bitAt this_k this_e1 this_du this_dv f_this_rootsp4 f_this_cubesp4 f_this_start224 f_this_start256 f_this_limbsp4 f_this_productp4 f_this_turns f_this_round f_this_state f_this_other f_this_column f_this_words f_this_block) := hD
      refine lv_if_ne (tgt := 20) hx hb kdX5_constants_14 (by decide) (fun c_4 => ?_) (fun c_4 => ?_)
      · have h := kb_b_f c_4 h
        refine lv_iload_n hx hb kdX5_constants_20 rfl (lv_at hl 1 rfl) ?_
        refine lv_bipush (v := 16) hx hb kdX5_constants_21 (by decide) ?_
        refine lv_icmp_ge (tgt := 38) hx hb kdX5_constants_23 (by decide) (fun c_5 => ?_) (fun c_5 => ?_)
        · have h := kb_b_t c_5 h
          refine lv_aload_n hx hb kdX5_constants_38 rfl (lv_at hl 0 rfl) ?_
          refine va_get (ci := 5) (v := .ref (a_this 6)) (C := kRX5) (T := kTX5) (N := 35) hx hb hts kinX5 hown hK hP 0 rfl rfl 6 (by decide) (hts _ km_687) (fun _ h9 => h9) rfl kdX5_constants_39 ?_
          refine lv_iload_n hx hb kdX5_constants_42 rfl (lv_at hl 1 rfl) ?_
          refine lv_aload_n hx hb kdX5_constants_43 rfl (lv_at hl 0 rfl) ?_
          refine lv_iload_n hx hb kdX5_constants_44 rfl (lv_at hl 2 rfl) ?_
          refine lv_iconst (v := 3) hx hb kdX5_constants_45 (by decide) ?_
          obtain ⟨u_9, hu_9, h⟩ := kb_o_s h
          obtain ⟨r_6, f_7, f_8⟩ := u_9
          have hC := (show ([0, 5, 6] : List Nat).map (fun i : Nat => (kWX5_constantsT cB cI cL cBB cII cSh h_this a_this this_taped this_code this_kind this_rate this_filled this_total this_bitAt this_k this_e1 this_du this_dv f_this_rootsp4 f_this_cubesp4 f_this_start224 f_this_start256 f_this_limbsp4 f_this_productp4 f_this_turns f_this_round f_this_state f_this_other f_this_column f_this_words f_this_block)[i]?) = List.map some (kWX5_root cB cI cL cBB cII cSh h_this a_this this_taped this_code this_kind this_rate this_filled this_total this_bitAt this_k this_e1 this_du this_dv f_this_limbsp4 f_this_productp4) from rfl)
          have hPc := kb_Psub hP ([0, 5, 6] : List Nat) hC
          have hDc := kb_Dsub hD ([0, 5, 6] : List Nat) hC (by simp [kb_nd])
          refine kb_call0 (va_runV (As := [.int x2p4, .int (3 : Int32)]) (rest := [.int x1p4, .ref (a_this 6)]) C0 (kcX5_root l D cB cI cL cBB cII cSh h_this a_this _ x2p4 (3 : Int32) this_taped this_code this_kind this_rate this_filled this_total this_bitAt this_k this_e1 this_du this_dv f_this_limbsp4 f_this_productp4 (r_6, f_7, f_8) hu_9) (cwV 2 hts (kb_gV km_613 km_615 kp_2 km_6 km_616) rfl rfl rfl (by decide +kernel) ⟨Nat.le_of_ble_eq_true rfl, Nat.le_of_ble_eq_true rfl⟩) ⟨kb_P_bl, va_recv hK hP (ci := 5) (q0 := 0) rfl rfl, (fun U hU hW => ⟨rfl, by rw [hU], by rw [hU]; exact hPc, va_K.moved hW.alike hK, kb_N_to hW hN, hDc.weaken (fun _ _ _ _ => trivial)⟩)⟩ rfl rfl hl.1 rfl (lv_room (Nat.le_of_ble_eq_true rfl)) kdX5_constants_46 ⟨hcR, hsR⟩) hP hD hS hA ([0, 5, 6] : List Nat) hC rfl (fun H locs hP hD hS => ?_)
          have hP : va_P D kCl (kWX5_constantsT cB cI cL cBB cII cSh h_this a_this this_taped this_code this_kind this_rate this_filled this_total this_bitAt this_k this_e1 this_du this_dv f_this_rootsp4 f_this_cubesp4 f_this_start224 f_this_start256 f_7 f_8 f_this_turns f_this_round f_this_state f_this_other f_this_column f_this_words f_this_block) H := hP
          have hD : va_D A (kWX5_constantsT cB cI cL cBB cII cSh h_this a_this this_taped this_code this_kind this_rate this_filled this_total this_bitAt this_k this_e1 this_du this_dv f_this_rootsp4 f_this_cubesp4 f_this_start224 f_this_start256 f_7 f_8 f_this_turns f_this_round f_this_state f_this_other f_this_column f_this_words f_this_block) := hD
          obtain ⟨g_10, h⟩ := kb_g_s h
          refine va_last hx hb hK hP hD hS 2 2 rfl rfl (kb_in_v g_10) kdX5_constants_49 (fun H locs hP hD hS => ?_)
          obtain ⟨f_11, ef_11⟩ : ∃ y, y = vp_updL f_this_cubesp4 x1p4.toNatClampNeg r_6 := ⟨_, rfl⟩
          have h := kb_n_s ef_11 h
          have hP : va_P D kCl (kWX5_constantsT cB cI cL cBB cII cSh h_this a_this this_taped this_code this_kind this_rate this_filled this_total this_bitAt this_k this_e1 this_du this_dv f_this_rootsp4 f_11 f_this_start224 f_this_start256 f_7 f_8 f_this_turns f_this_round f_this_state f_this_other f_this_column f_this_words f_this_block) H := by rw [ef_11]; exact hP
          have hD : va_D A (kWX5_constantsT cB cI cL cBB cII cSh h_this a_this this_taped this_code this_kind this_rate this_filled this_total this_bitAt this_k this_e1 this_du this_dv f_this_rootsp4 f_11 f_this_start224 f_this_start256 f_7 f_8 f_this_turns f_this_round f_this_state f_this_other f_this_column f_this_words f_this_block) := by rw [ef_11]; exact hD
          obtain ⟨x1_12, ex1_12⟩ : ∃ y : Int32, y = x1p4 + Int32.ofInt 1 := ⟨_, rfl⟩
          have h := kb_n_s ex1_12 h
          refine lv_iinc (v := x1_12) (lv' := [(1, .int x1_12), (0, .ref h_this), (2, .int x2p4)]) hx hb kdX5_constants_50 hl (k := 1) rfl ex1_12.symm (by decide) rfl (fun ls hl => ?_)
          obtain ⟨x2_13, ex2_13⟩ : ∃ y : Int32, y = x2p4 + Int32.ofInt 1 := ⟨_, rfl⟩
          have h := kb_n_s ex2_13 h
          refine lv_iinc (v := x2_13) (lv' := [(2, .int x2_13), (1, .int x1_12), (0, .ref h_this)]) hx hb kdX5_constants_53 hl (k := 2) rfl ex2_13.symm (by decide) rfl (fun ls hl => ?_)
          refine lv_goto (tgt := 4) hx hb kdX5_constants_56 (by decide) ?_
          obtain rfl := Option.some.inj h
          exact ih x1_12 x2_13 f_11 f_7 f_8 f_this_rootsp4 r ho _ _ _ hP hD hS (lv_sub hl [2, 1, 0] rfl) hk0
        · have h := kb_b_f c_5 h
          refine lv_aload_n hx hb kdX5_constants_26 rfl (lv_at hl 0 rfl) ?_
          refine va_get (ci := 5) (v := .ref (a_this 5)) (C := kRX5) (T := kTX5) (N := 35) hx hb hts kinX5 hown hK hP 0 rfl rfl 5 (by decide) (hts _ km_686) (fun _ h9 => h9) rfl kdX5_constants_27 ?_
          refine lv_iload_n hx hb kdX5_constants_30 rfl (lv_at hl 1 rfl) ?_
          refine lv_aload_n hx hb kdX5_constants_31 rfl (lv_at hl 0 rfl) ?_
          refine lv_iload_n hx hb kdX5_constants_32 rfl (lv_at hl 2 rfl) ?_
          refine lv_iconst (v := 2) hx hb kdX5_constants_33 (by decide) ?_
          obtain ⟨u_17, hu_17, h⟩ := kb_o_s h
          obtain ⟨r_14, f_15, f_16⟩ := u_17
          have hC := (show ([0, 5, 6] : List Nat).map (fun i : Nat => (kWX5_constantsT cB cI cL cBB cII cSh h_this a_this this_taped this_code this_kind this_rate this_filled this_total this_bitAt this_k this_e1 this_du this_dv f_this_rootsp4 f_this_cubesp4 f_this_start224 f_this_start256 f_this_limbsp4 f_this_productp4 f_this_turns f_this_round f_this_state f_this_other f_this_column f_this_words f_this_block)[i]?) = List.map some (kWX5_root cB cI cL cBB cII cSh h_this a_this this_taped this_code this_kind this_rate this_filled this_total this_bitAt this_k this_e1 this_du this_dv f_this_limbsp4 f_this_productp4) from rfl)
          have hPc := kb_Psub hP ([0, 5, 6] : List Nat) hC
          have hDc := kb_Dsub hD ([0, 5, 6] : List Nat) hC (by simp [kb_nd])
          refine kb_call0 (va_runV (As := [.int x2p4, .int (2 : Int32)]) (rest := [.int x1p4, .ref (a_this 5)]) C0 (kcX5_root l D cB cI cL cBB cII cSh h_this a_this _ x2p4 (2 : Int32) this_taped this_code this_kind this_rate this_filled this_total this_bitAt this_k this_e1 this_du this_dv f_this_limbsp4 f_this_productp4 (r_14, f_15, f_16) hu_17) (cwV 2 hts (kb_gV km_613 km_615 kp_2 km_6 km_616) rfl rfl rfl (by decide +kernel) ⟨Nat.le_of_ble_eq_true rfl, Nat.le_of_ble_eq_true rfl⟩) ⟨kb_P_bl, va_recv hK hP (ci := 5) (q0 := 0) rfl rfl, (fun U hU hW => ⟨rfl, by rw [hU], by rw [hU]; exact hPc, va_K.moved hW.alike hK, kb_N_to hW hN, hDc.weaken (fun _ _ _ _ => trivial)⟩)⟩ rfl rfl hl.1 rfl (lv_room (Nat.le_of_ble_eq_true rfl)) kdX5_constants_34 ⟨hcR, hsR⟩) hP hD hS hA ([0, 5, 6] : List Nat) hC rfl (fun H locs hP hD hS => ?_)
          have hP : va_P D kCl (kWX5_constantsT cB cI cL cBB cII cSh h_this a_this this_taped this_code this_kind this_rate this_filled this_total this_bitAt this_k this_e1 this_du this_dv f_this_rootsp4 f_this_cubesp4 f_this_start224 f_this_start256 f_15 f_16 f_this_turns f_this_round f_this_state f_this_other f_this_column f_this_words f_this_block) H := hP
          have hD : va_D A (kWX5_constantsT cB cI cL cBB cII cSh h_this a_this this_taped this_code this_kind this_rate this_filled this_total this_bitAt this_k this_e1 this_du this_dv f_this_rootsp4 f_this_cubesp4 f_this_start224 f_this_start256 f_15 f_16 f_this_turns f_this_round f_this_state f_this_other f_this_column f_this_words f_this_block) := hD
          obtain ⟨g_18, h⟩ := kb_g_s h
          refine va_last hx hb hK hP hD hS 1 2 rfl rfl (kb_in_v g_18) kdX5_constants_37 (fun H locs hP hD hS => ?_)
          obtain ⟨f_19, ef_19⟩ : ∃ y, y = vp_updL f_this_rootsp4 x1p4.toNatClampNeg r_14 := ⟨_, rfl⟩
          have h := kb_n_s ef_19 h
          have hP : va_P D kCl (kWX5_constantsT cB cI cL cBB cII cSh h_this a_this this_taped this_code this_kind this_rate this_filled this_total this_bitAt this_k this_e1 this_du this_dv f_19 f_this_cubesp4 f_this_start224 f_this_start256 f_15 f_16 f_this_turns f_this_round f_this_state f_this_other f_this_column f_this_words f_this_block) H := by rw [ef_19]; exact hP
          have hD : va_D A (kWX5_constantsT cB cI cL cBB cII cSh h_this a_this this_taped this_code this_kind this_rate this_filled this_total this_bitAt this_k this_e1 this_du this_dv f_19 f_this_cubesp4 f_this_start224 f_this_start256 f_15 f_16 f_this_turns f_this_round f_this_state f_this_other f_this_column f_this_words f_this_block) := by rw [ef_19]; exact hD
          refine lv_aload_n hx hb kdX5_constants_38 rfl (lv_at hl 0 rfl) ?_
          refine va_get (ci := 5) (v := .ref (a_this 6)) (C := kRX5) (T := kTX5) (N := 35) hx hb hts kinX5 hown hK hP 0 rfl rfl 6 (by decide) (hts _ km_687) (fun _ h9 => h9) rfl kdX5_constants_39 ?_
          refine lv_iload_n hx hb kdX5_constants_42 rfl (lv_at hl 1 rfl) ?_
          refine lv_aload_n hx hb kdX5_constants_43 rfl (lv_at hl 0 rfl) ?_
          refine lv_iload_n hx hb kdX5_constants_44 rfl (lv_at hl 2 rfl) ?_
          refine lv_iconst (v := 3) hx hb kdX5_constants_45 (by decide) ?_
          obtain ⟨u_23, hu_23, h⟩ := kb_o_s h
          obtain ⟨r_20, f_21, f_22⟩ := u_23
          have hC := (show ([0, 5, 6] : List Nat).map (fun i : Nat => (kWX5_constantsT cB cI cL cBB cII cSh h_this a_this this_taped this_code this_kind this_rate this_filled this_total this_bitAt this_k this_e1 this_du this_dv f_19 f_this_cubesp4 f_this_start224 f_this_start256 f_15 f_16 f_this_turns f_this_round f_this_state f_this_other f_this_column f_this_words f_this_block)[i]?) = List.map some (kWX5_root cB cI cL cBB cII cSh h_this a_this this_taped this_code this_kind this_rate this_filled this_total this_bitAt this_k this_e1 this_du this_dv f_15 f_16) from rfl)
          have hPc := kb_Psub hP ([0, 5, 6] : List Nat) hC
          have hDc := kb_Dsub hD ([0, 5, 6] : List Nat) hC (by simp [kb_nd])
          refine kb_call0 (va_runV (As := [.int x2p4, .int (3 : Int32)]) (rest := [.int x1p4, .ref (a_this 6)]) C0 (kcX5_root l D cB cI cL cBB cII cSh h_this a_this _ x2p4 (3 : Int32) this_taped this_code this_kind this_rate this_filled this_total this_bitAt this_k this_e1 this_du this_dv f_15 f_16 (r_20, f_21, f_22) hu_23) (cwV 2 hts (kb_gV km_613 km_615 kp_2 km_6 km_616) rfl rfl rfl (by decide +kernel) ⟨Nat.le_of_ble_eq_true rfl, Nat.le_of_ble_eq_true rfl⟩) ⟨kb_P_bl, va_recv hK hP (ci := 5) (q0 := 0) rfl rfl, (fun U hU hW => ⟨rfl, by rw [hU], by rw [hU]; exact hPc, va_K.moved hW.alike hK, kb_N_to hW hN, hDc.weaken (fun _ _ _ _ => trivial)⟩)⟩ rfl rfl hl.1 rfl (lv_room (Nat.le_of_ble_eq_true rfl)) kdX5_constants_46 ⟨hcR, hsR⟩) hP hD hS hA ([0, 5, 6] : List Nat) hC rfl (fun H locs hP hD hS => ?_)
          have hP : va_P D kCl (kWX5_constantsT cB cI cL cBB cII cSh h_this a_this this_taped this_code this_kind this_rate this_filled this_total this_bitAt this_k this_e1 this_du this_dv f_19 f_this_cubesp4 f_this_start224 f_this_start256 f_21 f_22 f_this_turns f_this_round f_this_state f_this_other f_this_column f_this_words f_this_block) H := hP
          have hD : va_D A (kWX5_constantsT cB cI cL cBB cII cSh h_this a_this this_taped this_code this_kind this_rate this_filled this_total this_bitAt this_k this_e1 this_du this_dv f_19 f_this_cubesp4 f_this_start224 f_this_start256 f_21 f_22 f_this_turns f_this_round f_this_state f_this_other f_this_column f_this_words f_this_block) := hD
          obtain ⟨g_24, h⟩ := kb_g_s h
          refine va_last hx hb hK hP hD hS 2 2 rfl rfl (kb_in_v g_24) kdX5_constants_49 (fun H locs hP hD hS => ?_)
          obtain ⟨f_25, ef_25⟩ : ∃ y, y = vp_updL f_this_cubesp4 x1p4.toNatClampNeg r_20 := ⟨_, rfl⟩
          have h := kb_n_s ef_25 h
          have hP : va_P D kCl (kWX5_constantsT cB cI cL cBB cII cSh h_this a_this this_taped this_code this_kind this_rate this_filled this_total this_bitAt this_k this_e1 this_du this_dv f_19 f_25 f_this_start224 f_this_start256 f_21 f_22 f_this_turns f_this_round f_this_state f_this_other f_this_column f_this_words f_this_block) H := by rw [ef_25]; exact hP
          have hD : va_D A (kWX5_constantsT cB cI cL cBB cII cSh h_this a_this this_taped this_code this_kind this_rate this_filled this_total this_bitAt this_k this_e1 this_du this_dv f_19 f_25 f_this_start224 f_this_start256 f_21 f_22 f_this_turns f_this_round f_this_state f_this_other f_this_column f_this_words f_this_block) := by rw [ef_25]; exact hD
          obtain ⟨x1_26, ex1_26⟩ : ∃ y : Int32, y = x1p4 + Int32.ofInt 1 := ⟨_, rfl⟩
          have h := kb_n_s ex1_26 h
          refine lv_iinc (v := x1_26) (lv' := [(1, .int x1_26), (0, .ref h_this), (2, .int x2p4)]) hx hb kdX5_constants_50 hl (k := 1) rfl ex1_26.symm (by decide) rfl (fun ls hl => ?_)
          obtain ⟨x2_27, ex2_27⟩ : ∃ y : Int32, y = x2p4 + Int32.ofInt 1 := ⟨_, rfl⟩
          have h := kb_n_s ex2_27 h
          refine lv_iinc (v := x2_27) (lv' := [(2, .int x2_27), (1, .int x1_26), (0, .ref h_this)]) hx hb kdX5_constants_53 hl (k := 2) rfl ex2_27.symm (by decide) rfl (fun ls hl => ?_)
          refine lv_goto (tgt := 4) hx hb kdX5_constants_56 (by decide) ?_
          obtain rfl := Option.some.inj h
          exact ih x1_26 x2_27 f_25 f_21 f_22 f_19 r ho _ _ _ hP hD hS (lv_sub hl [2, 1, 0] rfl) hk0
      · have h := kb_b_t c_4 h
        refine lv_goto (tgt := 53) hx hb kdX5_constants_17 (by decide) ?_
        obtain ⟨x2_28, ex2_28⟩ : ∃ y : Int32, y = x2p4 + Int32.ofInt 1 := ⟨_, rfl⟩
        have h := kb_n_s ex2_28 h
        refine lv_iinc (v := x2_28) (lv' := [(2, .int x2_28), (0, .ref h_this), (1, .int x1p4)]) hx hb kdX5_constants_53 hl (k := 2) rfl ex2_28.symm (by decide) rfl (fun ls hl => ?_)
        refine lv_goto (tgt := 4) hx hb kdX5_constants_56 (by decide) ?_
        obtain rfl := Option.some.inj h
        exact ih x1p4 x2_28 f_this_cubesp4 f_this_limbsp4 f_this_productp4 f_this_rootsp4 r ho _ _ _ hP hD hS (lv_sub hl [1, 2, 0] rfl) hk0
set_option maxHeartbeats 4000000 in
set_option maxRecDepth 100000 in
theorem klX5_constantsT_66 {p : Program} {l : Launch} {e : Env} {s : State} {m : MethodId} {args : Array Value} {below : List Frame} {meth : Method} {c : Code} {cells slots : Nat} {Q : State → Prop} {D : va_G} {cB cI cL cBB cII cSh : ClassId} {A : Nat → Prop} (C0 : CallFix p m c prog_8_method_19_code 6 s args kwA kRX5) (hlocks : meth.locks = false) (hK : va_K D kCl (kb_T cB cI cL cBB cII cSh) s) (hN : kb_N s) (hA : ∀ q, s.heap.size ≤ q → A q) (hcR : cells ≤ krX5_constantsT.cells) (hsR : slots ≤ krX5_constantsT.slots) (h_this : Nat) (a_this : Nat → Nat) (this_taped : Int32) (this_code : Int32) (this_kind : Int32) (this_rate : Int32) (this_filled : Int32) (this_total : Int64) (this_bitAt : Int32) (this_k : Int32) (this_e1 : Int32) (this_du : Int32) (this_dv : Int32) (f_this_rootsp4_34 : Nat → Int64) (f_this_cubesp4_31 : Nat → Int64) (f_this_start224 : Nat → Int64) (f_this_start256 : Nat → Int64) (f_this_limbsp4_32 : Nat → Int64) (f_this_productp4_33 : Nat → Int64) (f_this_round : Nat → Int64) (f_this_state : Nat → Int64) (f_this_other : Nat → Int64) (f_this_column : Nat → Int64) (f_this_words : Nat → Int64) (f_this_block : Nat → Int32) :
    ∀ (fuel : Nat) (x2p66 : Int32) (x3p66 : Int32) (x4p66 : Int32) (f_this_turnsp66 : Nat → Int32) (r : Int32 × Int32 × Int32 × (Nat → Int32)), kb_w (fun u : Int32 × Int32 × Int32 × (Nat → Int32) => kSX5_constantsT_66 u.1 u.2.1 u.2.2.1 u.2.2.2) fuel (x2p66, x3p66, x4p66, f_this_turnsp66) = some r → ∀ (H : Heap) (locs : List Loc) (ls : Array Slot), va_P D kCl (kWX5_constantsT cB cI cL cBB cII cSh h_this a_this this_taped this_code this_kind this_rate this_filled this_total this_bitAt this_k this_e1 this_du this_dv f_this_rootsp4_34 f_this_cubesp4_31 f_this_start224 f_this_start256 f_this_limbsp4_32 f_this_productp4_33 f_this_turnsp66 f_this_round f_this_state f_this_other f_this_column f_this_words f_this_block) H → va_D A (kWX5_constantsT cB cI cL cBB cII cSh h_this a_this this_taped this_code this_kind this_rate this_filled this_total this_bitAt this_k this_e1 this_du this_dv f_this_rootsp4_34 f_this_cubesp4_31 f_this_start224 f_this_start256 f_this_limbsp4_32 f_this_productp4_33 f_this_turnsp66 f_this_round f_this_state f_this_other f_this_column f_this_words f_this_block) → va_S A s.heap H locs → lv_has ls 6 [(0, .ref h_this), (2, .int x2p66), (3, .int x3p66), (4, .int x4p66)] → (∀ (x2p66' : Int32) (x3p66' : Int32) (x4p66' : Int32) (f_this_turnsp66' : Nat → Int32), r = (x2p66', x3p66', x4p66', f_this_turnsp66') → ∀ (H : Heap) (locs : List Loc) (ls : Array Slot), va_P D kCl (kWX5_constantsT cB cI cL cBB cII cSh h_this a_this this_taped this_code this_kind this_rate this_filled this_total this_bitAt this_k this_e1 this_du this_dv f_this_rootsp4_34 f_this_cubesp4_31 f_this_start224 f_this_start256 f_this_limbsp4_32 f_this_productp4_33 f_this_turnsp66' f_this_round f_this_state f_this_other f_this_column f_this_words f_this_block) H → va_D A (kWX5_constantsT cB cI cL cBB cII cSh h_this a_this this_taped this_code this_kind this_rate this_filled this_total this_bitAt this_k this_e1 this_du this_dv f_this_rootsp4_34 f_this_cubesp4_31 f_this_start224 f_this_start256 f_this_limbsp4_32 f_this_productp4_33 f_this_turnsp66' f_this_round f_this_state f_this_other f_this_column f_this_words f_this_block) → va_S A s.heap H locs → lv_has ls 6 [(0, .ref h_this), (2, .int x2p66'), (3, .int x3p66'), (4, .int x4p66')] → W p l e krX5_constantsT s m args below meth c H locs cells slots Q (F0 m 119 ls [])) → W p l e krX5_constantsT s m args below meth c H locs cells slots Q (F0 m 66 ls []) := by
  obtain ⟨hx, hb, hml, hown, hts⟩ := id C0
  intro fuel
  induction fuel with
  | zero =>
    intro x2p66 x3p66 x4p66 f_this_turnsp66 r h
    exact absurd h (kb_w_z _ _ _)
  | succ fuel ih =>
    intro x2p66 x3p66 x4p66 f_this_turnsp66 r h H locs ls hP hD hS hl hk0
    obtain ⟨o, h, ho⟩ := kb_w_s h
    have h : kSX5_constantsT_66 x2p66 x3p66 x4p66 f_this_turnsp66 = some o := h
    unfold kSX5_constantsT_66 at h
    refine lv_iload hx hb kdX5_constants_66 (lv_at hl 3 rfl) ?_
    refine lv_bipush (v := 24) hx hb kdX5_constants_68 (by decide) ?_
    refine lv_icmp_ge (tgt := 119) hx hb kdX5_constants_70 (by decide) (fun c_35 => ?_) (fun c_35 => ?_)
    · have h := kb_b_t c_35 h
      obtain rfl := Option.some.inj h
      exact hk0 x2p66 x3p66 x4p66 f_this_turnsp66 ho.symm _ _ _ hP hD hS (lv_sub hl [0, 1, 2, 3] rfl)
    · have h := kb_b_f c_35 h
      refine lv_aload_n hx hb kdX5_constants_73 rfl (lv_at hl 0 rfl) ?_
      refine va_get (ci := 5) (v := .ref (a_this 11)) (C := kRX5) (T := kTX5) (N := 35) hx hb hts kinX5 hown hK hP 0 rfl rfl 11 (by decide) (hts _ km_692) (fun _ h9 => h9) rfl kdX5_constants_74 ?_
      refine lv_iload_n hx hb kdX5_constants_77 rfl (lv_at hl 1 rfl) ?_
      refine lv_iconst (v := 5) hx hb kdX5_constants_78 (by decide) ?_
      refine lv_iload_n hx hb kdX5_constants_79 rfl (lv_at hl 2 rfl) ?_
      refine lv_imul hx hb kdX5_constants_80 ?_
      refine lv_iadd hx hb kdX5_constants_81 ?_
      refine lv_iload hx hb kdX5_constants_82 (lv_at hl 3 rfl) ?_
      refine lv_iconst (v := 1) hx hb kdX5_constants_84 (by decide) ?_
      refine lv_iadd hx hb kdX5_constants_85 ?_
      refine lv_iload hx hb kdX5_constants_86 (lv_at hl 3 rfl) ?_
      refine lv_iconst (v := 2) hx hb kdX5_constants_88 (by decide) ?_
      refine lv_iadd hx hb kdX5_constants_89 ?_
      refine lv_imul hx hb kdX5_constants_90 ?_
      refine lv_iconst (v := 2) hx hb kdX5_constants_91 (by decide) ?_
      refine lv_idiv hx hb kdX5_constants_92 (by decide) ?_
      refine lv_bipush (v := 64) hx hb kdX5_constants_93 (by decide) ?_
      refine lv_irem hx hb kdX5_constants_95 (by decide) ?_
      refine lv_topi (fun q_36 eq_36 => ?_)
      have h := kb_n_s eq_36 h
      obtain ⟨g_37, h⟩ := kb_g_s h
      refine va_iast hx hb hK hP hD hS 7 1 rfl rfl (kb_in_v g_37) kdX5_constants_96 (fun H locs hP hD hS => ?_)
      obtain ⟨f_38, ef_38⟩ : ∃ y, y = upd f_this_turnsp66 (x2p66 + ((5 : Int32) * x3p66)).toNatClampNeg q_36 := ⟨_, rfl⟩
      have h := kb_n_s ef_38 h
      have hP : va_P D kCl (kWX5_constantsT cB cI cL cBB cII cSh h_this a_this this_taped this_code this_kind this_rate this_filled this_total this_bitAt this_k this_e1 this_du this_dv f_this_rootsp4_34 f_this_cubesp4_31 f_this_start224 f_this_start256 f_this_limbsp4_32 f_this_productp4_33 f_38 f_this_round f_this_state f_this_other f_this_column f_this_words f_this_block) H := by rw [ef_38]; exact hP
      have hD : va_D A (kWX5_constantsT cB cI cL cBB cII cSh h_this a_this this_taped this_code this_kind this_rate this_filled this_total this_bitAt this_k this_e1 this_du this_dv f_this_rootsp4_34 f_this_cubesp4_31 f_this_start224 f_this_start256 f_this_limbsp4_32 f_this_productp4_33 f_38 f_this_round f_this_state f_this_other f_this_column f_this_words f_this_block) := by rw [ef_38]; exact hD
      refine lv_iconst (v := 2) hx hb kdX5_constants_97 (by decide) ?_
      refine lv_iload_n hx hb kdX5_constants_98 rfl (lv_at hl 1 rfl) ?_
      refine lv_imul hx hb kdX5_constants_99 ?_
      refine lv_iconst (v := 3) hx hb kdX5_constants_100 (by decide) ?_
      refine lv_iload_n hx hb kdX5_constants_101 rfl (lv_at hl 2 rfl) ?_
      refine lv_imul hx hb kdX5_constants_102 ?_
      refine lv_iadd hx hb kdX5_constants_103 ?_
      refine lv_iconst (v := 5) hx hb kdX5_constants_104 (by decide) ?_
      refine lv_irem hx hb kdX5_constants_105 (by decide) ?_
      refine lv_topi (fun q_39 eq_39 => ?_)
      have h := kb_n_s eq_39 h
      refine lv_istore (lv' := [(5, .int q_39), (0, .ref h_this), (2, .int x2p66), (3, .int x3p66), (4, .int x4p66)]) hx hb kdX5_constants_106 hl (by decide) rfl (fun ls hl => ?_)
      refine lv_iload_n hx hb kdX5_constants_108 rfl (lv_at hl 3 rfl) ?_
      refine lv_istore_n (lv' := [(2, .int x3p66), (5, .int q_39), (0, .ref h_this), (3, .int x3p66), (4, .int x4p66)]) hx hb kdX5_constants_109 rfl hl (by decide) rfl (fun ls hl => ?_)
      refine lv_iload hx hb kdX5_constants_110 (lv_at hl 1 rfl) ?_
      refine lv_istore_n (lv' := [(3, .int q_39), (2, .int x3p66), (5, .int q_39), (0, .ref h_this), (4, .int x4p66)]) hx hb kdX5_constants_112 rfl hl (by decide) rfl (fun ls hl => ?_)
      obtain ⟨x4_40, ex4_40⟩ : ∃ y : Int32, y = x4p66 + Int32.ofInt 1 := ⟨_, rfl⟩
      have h := kb_n_s ex4_40 h
      refine lv_iinc (v := x4_40) (lv' := [(4, .int x4_40), (3, .int q_39), (2, .int x3p66), (5, .int q_39), (0, .ref h_this)]) hx hb kdX5_constants_113 hl (k := 4) rfl ex4_40.symm (by decide) rfl (fun ls hl => ?_)
      refine lv_goto (tgt := 66) hx hb kdX5_constants_116 (by decide) ?_
      obtain rfl := Option.some.inj h
      exact ih x3p66 q_39 x4_40 f_38 r ho _ _ _ hP hD hS (lv_sub hl [4, 2, 1, 0] rfl) hk0
set_option maxHeartbeats 4000000 in
set_option maxRecDepth 100000 in
theorem klX5_constantsT_132 {p : Program} {l : Launch} {e : Env} {s : State} {m : MethodId} {args : Array Value} {below : List Frame} {meth : Method} {c : Code} {cells slots : Nat} {Q : State → Prop} {D : va_G} {cB cI cL cBB cII cSh : ClassId} {A : Nat → Prop} (C0 : CallFix p m c prog_8_method_19_code 6 s args kwA kRX5) (hlocks : meth.locks = false) (hK : va_K D kCl (kb_T cB cI cL cBB cII cSh) s) (hN : kb_N s) (hA : ∀ q, s.heap.size ≤ q → A q) (hcR : cells ≤ krX5_constantsT.cells) (hsR : slots ≤ krX5_constantsT.slots) (h_this : Nat) (a_this : Nat → Nat) (x4p122 : Int32) (this_taped : Int32) (this_code : Int32) (this_kind : Int32) (this_rate : Int32) (this_filled : Int32) (this_total : Int64) (this_bitAt : Int32) (this_k : Int32) (this_e1 : Int32) (this_du : Int32) (this_dv : Int32) (f_this_rootsp4_34 : Nat → Int64) (f_this_cubesp4_31 : Nat → Int64) (f_this_start224 : Nat → Int64) (f_this_start256 : Nat → Int64) (f_this_limbsp4_32 : Nat → Int64) (f_this_productp4_33 : Nat → Int64) (f_this_turnsp66_44 : Nat → Int32) (f_this_state : Nat → Int64) (f_this_other : Nat → Int64) (f_this_column : Nat → Int64) (f_this_words : Nat → Int64) (f_this_block : Nat → Int32) :
    ∀ (fuel : Nat) (x5p132 : Int32) (f_this_roundp132 : Nat → Int64) (r : Int32 × (Nat → Int64)), kb_w (fun u : Int32 × (Nat → Int64) => kSX5_constantsT_132 x4p122 u.1 u.2) fuel (x5p132, f_this_roundp132) = some r → ∀ (H : Heap) (locs : List Loc) (ls : Array Slot), va_P D kCl (kWX5_constantsT cB cI cL cBB cII cSh h_this a_this this_taped this_code this_kind this_rate this_filled this_total this_bitAt this_k this_e1 this_du this_dv f_this_rootsp4_34 f_this_cubesp4_31 f_this_start224 f_this_start256 f_this_limbsp4_32 f_this_productp4_33 f_this_turnsp66_44 f_this_roundp132 f_this_state f_this_other f_this_column f_this_words f_this_block) H → va_D A (kWX5_constantsT cB cI cL cBB cII cSh h_this a_this this_taped this_code this_kind this_rate this_filled this_total this_bitAt this_k this_e1 this_du this_dv f_this_rootsp4_34 f_this_cubesp4_31 f_this_start224 f_this_start256 f_this_limbsp4_32 f_this_productp4_33 f_this_turnsp66_44 f_this_roundp132 f_this_state f_this_other f_this_column f_this_words f_this_block) → va_S A s.heap H locs → lv_has ls 6 [(0, .ref h_this), (4, .int x4p122), (5, .int x5p132)] → (∀ (x5p132' : Int32) (f_this_roundp132' : Nat → Int64), r = (x5p132', f_this_roundp132') → ∀ (H : Heap) (locs : List Loc) (ls : Array Slot), va_P D kCl (kWX5_constantsT cB cI cL cBB cII cSh h_this a_this this_taped this_code this_kind this_rate this_filled this_total this_bitAt this_k this_e1 this_du this_dv f_this_rootsp4_34 f_this_cubesp4_31 f_this_start224 f_this_start256 f_this_limbsp4_32 f_this_productp4_33 f_this_turnsp66_44 f_this_roundp132' f_this_state f_this_other f_this_column f_this_words f_this_block) H → va_D A (kWX5_constantsT cB cI cL cBB cII cSh h_this a_this this_taped this_code this_kind this_rate this_filled this_total this_bitAt this_k this_e1 this_du this_dv f_this_rootsp4_34 f_this_cubesp4_31 f_this_start224 f_this_start256 f_this_limbsp4_32 f_this_productp4_33 f_this_turnsp66_44 f_this_roundp132' f_this_state f_this_other f_this_column f_this_words f_this_block) → va_S A s.heap H locs → lv_has ls 6 [(0, .ref h_this), (4, .int x4p122), (5, .int x5p132')] → W p l e krX5_constantsT s m args below meth c H locs cells slots Q (F0 m 178 ls [])) → W p l e krX5_constantsT s m args below meth c H locs cells slots Q (F0 m 132 ls []) := by
  obtain ⟨hx, hb, hml, hown, hts⟩ := id C0
  intro fuel
  induction fuel with
  | zero =>
    intro x5p132 f_this_roundp132 r h
    exact absurd h (kb_w_z _ _ _)
  | succ fuel ih =>
    intro x5p132 f_this_roundp132 r h H locs ls hP hD hS hl hk0
    obtain ⟨o, h, ho⟩ := kb_w_s h
    have h : kSX5_constantsT_132 x4p122 x5p132 f_this_roundp132 = some o := h
    unfold kSX5_constantsT_132 at h
    refine lv_iload hx hb kdX5_constants_132 (lv_at hl 2 rfl) ?_
    refine lv_bipush (v := 6) hx hb kdX5_constants_134 (by decide) ?_
    refine lv_icmp_gt (tgt := 178) hx hb kdX5_constants_136 (by decide) (fun c_46 => ?_) (fun c_46 => ?_)
    · have h := kb_b_t c_46 h
      obtain rfl := Option.some.inj h
      exact hk0 x5p132 f_this_roundp132 ho.symm _ _ _ hP hD hS (lv_sub hl [0, 1, 2] rfl)
    · have h := kb_b_f c_46 h
      refine lv_iload hx hb kdX5_constants_139 (lv_at hl 2 rfl) ?_
      refine lv_bipush (v := 7) hx hb kdX5_constants_141 (by decide) ?_
      refine lv_iload hx hb kdX5_constants_143 (lv_at hl 1 rfl) ?_
      refine lv_imul hx hb kdX5_constants_145 ?_
      refine lv_iadd hx hb kdX5_constants_146 ?_
      obtain ⟨u_48, hu_48, h⟩ := kb_o_s h
      obtain ⟨r_47, rfl⟩ : ∃ z, z = u_48 := ⟨_, rfl⟩
      have hC := (show ([] : List Nat).map (fun i : Nat => (kWX5_constantsT cB cI cL cBB cII cSh h_this a_this this_taped this_code this_kind this_rate this_filled this_total this_bitAt this_k this_e1 this_du this_dv f_this_rootsp4_34 f_this_cubesp4_31 f_this_start224 f_this_start256 f_this_limbsp4_32 f_this_productp4_33 f_this_turnsp66_44 f_this_roundp132 f_this_state f_this_other f_this_column f_this_words f_this_block)[i]?) = List.map some (kWX5_bit cB cI cL cBB cII cSh) from rfl)
      have hPc := kb_Psub hP ([] : List Nat) hC
      have hDc := kb_Dsub hD ([] : List Nat) hC (by simp [kb_nd])
      refine kb_call0 (va_runS (As := [.int (x5p132 + ((7 : Int32) * x4p122))]) (rest := []) C0 (kcX5_bit l D cB cI cL cBB cII cSh  _ (x5p132 + ((7 : Int32) * x4p122)) r_47 hu_48) (va_cwS 1 hts (kb_gS km_622 km_623 km_6 km_624) rfl rfl rfl (by decide +kernel) ⟨Nat.le_of_ble_eq_true rfl, Nat.le_of_ble_eq_true rfl⟩) ⟨kb_P_bl, (fun U hU hW => ⟨rfl, by rw [hU], by rw [hU]; exact hPc, va_K.moved hW.alike hK, kb_N_to hW hN, hDc.weaken (fun _ _ _ _ => trivial)⟩)⟩ rfl rfl hl.1 rfl (lv_room (Nat.le_of_ble_eq_true rfl)) kdX5_constants_147 ⟨hcR, hsR⟩) hP hD hS hA ([] : List Nat) hC rfl (fun H locs hP hD hS => ?_)
      have hP : va_P D kCl (kWX5_constantsT cB cI cL cBB cII cSh h_this a_this this_taped this_code this_kind this_rate this_filled this_total this_bitAt this_k this_e1 this_du this_dv f_this_rootsp4_34 f_this_cubesp4_31 f_this_start224 f_this_start256 f_this_limbsp4_32 f_this_productp4_33 f_this_turnsp66_44 f_this_roundp132 f_this_state f_this_other f_this_column f_this_words f_this_block) H := hP
      have hD : va_D A (kWX5_constantsT cB cI cL cBB cII cSh h_this a_this this_taped this_code this_kind this_rate this_filled this_total this_bitAt this_k this_e1 this_du this_dv f_this_rootsp4_34 f_this_cubesp4_31 f_this_start224 f_this_start256 f_this_limbsp4_32 f_this_productp4_33 f_this_turnsp66_44 f_this_roundp132 f_this_state f_this_other f_this_column f_this_words f_this_block) := hD
      refine lv_iconst (v := 1) hx hb kdX5_constants_150 (by decide) ?_
      refine lv_icmp_ne (tgt := 172) hx hb kdX5_constants_151 (by decide) (fun c_49 => ?_) (fun c_49 => ?_)
      · have h := kb_b_f c_49 h
        obtain ⟨x5_50, ex5_50⟩ : ∃ y : Int32, y = x5p132 + Int32.ofInt 1 := ⟨_, rfl⟩
        have h := kb_n_s ex5_50 h
        refine lv_iinc (v := x5_50) (lv' := [(5, .int x5_50), (0, .ref h_this), (4, .int x4p122)]) hx hb kdX5_constants_172 hl (k := 2) rfl ex5_50.symm (by decide) rfl (fun ls hl => ?_)
        refine lv_goto (tgt := 132) hx hb kdX5_constants_175 (by decide) ?_
        obtain rfl := Option.some.inj h
        exact ih x5_50 f_this_roundp132 r ho _ _ _ hP hD hS (lv_sub hl [1, 2, 0] rfl) hk0
      · have h := kb_b_t c_49 h
        refine lv_aload_n hx hb kdX5_constants_154 rfl (lv_at hl 0 rfl) ?_
        refine va_get (ci := 5) (v := .ref (a_this 12)) (C := kRX5) (T := kTX5) (N := 35) hx hb hts kinX5 hown hK hP 0 rfl rfl 12 (by decide) (hts _ km_693) (fun _ h9 => h9) rfl kdX5_constants_155 ?_
        refine lv_iload hx hb kdX5_constants_158 (lv_at hl 1 rfl) ?_
        refine lv_dup2_11 hx hb kdX5_constants_160 rfl rfl ?_
        obtain ⟨g_51, h⟩ := kb_g_s h
        refine va_lald hx hb hK hP 8 2 rfl rfl (kb_in_v g_51) kdX5_constants_161 ?_
        refine lv_lconst (v := 1) hx hb kdX5_constants_162 (by decide) ?_
        refine lv_iconst (v := 1) hx hb kdX5_constants_163 (by decide) ?_
        refine lv_iload hx hb kdX5_constants_164 (lv_at hl 2 rfl) ?_
        refine lv_ishl hx hb kdX5_constants_166 ?_
        refine lv_iconst (v := 1) hx hb kdX5_constants_167 (by decide) ?_
        refine lv_isub hx hb kdX5_constants_168 ?_
        refine lv_lshl (v := ((1 : Int64) <<< ((((1 : Int32) <<< (x5p132 &&& 31)) - (1 : Int32)).toInt64 &&& 63))) hx hb kdX5_constants_169 rfl ?_
        refine lv_lor hx hb kdX5_constants_170 ?_
        obtain ⟨g_52, h⟩ := kb_g_s h
        refine va_last hx hb hK hP hD hS 8 2 rfl rfl (kb_in_v g_52) kdX5_constants_171 (fun H locs hP hD hS => ?_)
        obtain ⟨f_53, ef_53⟩ : ∃ y, y = vp_updL f_this_roundp132 x4p122.toNatClampNeg ((f_this_roundp132 x4p122.toNatClampNeg) ||| ((1 : Int64) <<< ((((1 : Int32) <<< (x5p132 &&& 31)) - (1 : Int32)).toInt64 &&& 63))) := ⟨_, rfl⟩
        have h := kb_n_s ef_53 h
        have hP : va_P D kCl (kWX5_constantsT cB cI cL cBB cII cSh h_this a_this this_taped this_code this_kind this_rate this_filled this_total this_bitAt this_k this_e1 this_du this_dv f_this_rootsp4_34 f_this_cubesp4_31 f_this_start224 f_this_start256 f_this_limbsp4_32 f_this_productp4_33 f_this_turnsp66_44 f_53 f_this_state f_this_other f_this_column f_this_words f_this_block) H := by rw [ef_53]; exact hP
        have hD : va_D A (kWX5_constantsT cB cI cL cBB cII cSh h_this a_this this_taped this_code this_kind this_rate this_filled this_total this_bitAt this_k this_e1 this_du this_dv f_this_rootsp4_34 f_this_cubesp4_31 f_this_start224 f_this_start256 f_this_limbsp4_32 f_this_productp4_33 f_this_turnsp66_44 f_53 f_this_state f_this_other f_this_column f_this_words f_this_block) := by rw [ef_53]; exact hD
        obtain ⟨x5_54, ex5_54⟩ : ∃ y : Int32, y = x5p132 + Int32.ofInt 1 := ⟨_, rfl⟩
        have h := kb_n_s ex5_54 h
        refine lv_iinc (v := x5_54) (lv' := [(5, .int x5_54), (0, .ref h_this), (4, .int x4p122)]) hx hb kdX5_constants_172 hl (k := 2) rfl ex5_54.symm (by decide) rfl (fun ls hl => ?_)
        refine lv_goto (tgt := 132) hx hb kdX5_constants_175 (by decide) ?_
        obtain rfl := Option.some.inj h
        exact ih x5_54 f_53 r ho _ _ _ hP hD hS (lv_sub hl [1, 2, 0] rfl) hk0
set_option maxHeartbeats 4000000 in
set_option maxRecDepth 100000 in
theorem klX5_constantsT_122 {p : Program} {l : Launch} {e : Env} {s : State} {m : MethodId} {args : Array Value} {below : List Frame} {meth : Method} {c : Code} {cells slots : Nat} {Q : State → Prop} {D : va_G} {cB cI cL cBB cII cSh : ClassId} {A : Nat → Prop} (C0 : CallFix p m c prog_8_method_19_code 6 s args kwA kRX5) (hlocks : meth.locks = false) (hK : va_K D kCl (kb_T cB cI cL cBB cII cSh) s) (hN : kb_N s) (hA : ∀ q, s.heap.size ≤ q → A q) (hcR : cells ≤ krX5_constantsT.cells) (hsR : slots ≤ krX5_constantsT.slots) (h_this : Nat) (a_this : Nat → Nat) (this_taped : Int32) (this_code : Int32) (this_kind : Int32) (this_rate : Int32) (this_filled : Int32) (this_total : Int64) (this_bitAt : Int32) (this_k : Int32) (this_e1 : Int32) (this_du : Int32) (this_dv : Int32) (f_this_rootsp4_34 : Nat → Int64) (f_this_cubesp4_31 : Nat → Int64) (f_this_start224 : Nat → Int64) (f_this_start256 : Nat → Int64) (f_this_limbsp4_32 : Nat → Int64) (f_this_productp4_33 : Nat → Int64) (f_this_turnsp66_44 : Nat → Int32) (f_this_state : Nat → Int64) (f_this_other : Nat → Int64) (f_this_column : Nat → Int64) (f_this_words : Nat → Int64) (f_this_block : Nat → Int32) :
    ∀ (fuel : Nat) (x4p122 : Int32) (f_this_roundp122 : Nat → Int64) (r : Int32 × (Nat → Int64)), kb_w (fun u : Int32 × (Nat → Int64) => kSX5_constantsT_122 u.1 u.2) fuel (x4p122, f_this_roundp122) = some r → ∀ (H : Heap) (locs : List Loc) (ls : Array Slot), va_P D kCl (kWX5_constantsT cB cI cL cBB cII cSh h_this a_this this_taped this_code this_kind this_rate this_filled this_total this_bitAt this_k this_e1 this_du this_dv f_this_rootsp4_34 f_this_cubesp4_31 f_this_start224 f_this_start256 f_this_limbsp4_32 f_this_productp4_33 f_this_turnsp66_44 f_this_roundp122 f_this_state f_this_other f_this_column f_this_words f_this_block) H → va_D A (kWX5_constantsT cB cI cL cBB cII cSh h_this a_this this_taped this_code this_kind this_rate this_filled this_total this_bitAt this_k this_e1 this_du this_dv f_this_rootsp4_34 f_this_cubesp4_31 f_this_start224 f_this_start256 f_this_limbsp4_32 f_this_productp4_33 f_this_turnsp66_44 f_this_roundp122 f_this_state f_this_other f_this_column f_this_words f_this_block) → va_S A s.heap H locs → lv_has ls 6 [(0, .ref h_this), (4, .int x4p122)] → (∀ (x4p122' : Int32) (f_this_roundp122' : Nat → Int64), r = (x4p122', f_this_roundp122') → ∀ (H : Heap) (locs : List Loc) (ls : Array Slot), va_P D kCl (kWX5_constantsT cB cI cL cBB cII cSh h_this a_this this_taped this_code this_kind this_rate this_filled this_total this_bitAt this_k this_e1 this_du this_dv f_this_rootsp4_34 f_this_cubesp4_31 f_this_start224 f_this_start256 f_this_limbsp4_32 f_this_productp4_33 f_this_turnsp66_44 f_this_roundp122' f_this_state f_this_other f_this_column f_this_words f_this_block) H → va_D A (kWX5_constantsT cB cI cL cBB cII cSh h_this a_this this_taped this_code this_kind this_rate this_filled this_total this_bitAt this_k this_e1 this_du this_dv f_this_rootsp4_34 f_this_cubesp4_31 f_this_start224 f_this_start256 f_this_limbsp4_32 f_this_productp4_33 f_this_turnsp66_44 f_this_roundp122' f_this_state f_this_other f_this_column f_this_words f_this_block) → va_S A s.heap H locs → lv_has ls 6 [(0, .ref h_this), (4, .int x4p122')] → W p l e krX5_constantsT s m args below meth c H locs cells slots Q (F0 m 184 ls [])) → W p l e krX5_constantsT s m args below meth c H locs cells slots Q (F0 m 122 ls []) := by
  obtain ⟨hx, hb, hml, hown, hts⟩ := id C0
  intro fuel
  induction fuel with
  | zero =>
    intro x4p122 f_this_roundp122 r h
    exact absurd h (kb_w_z _ _ _)
  | succ fuel ih =>
    intro x4p122 f_this_roundp122 r h H locs ls hP hD hS hl hk0
    obtain ⟨o, h, ho⟩ := kb_w_s h
    have h : kSX5_constantsT_122 x4p122 f_this_roundp122 = some o := h
    unfold kSX5_constantsT_122 at h
    refine lv_iload hx hb kdX5_constants_122 (lv_at hl 1 rfl) ?_
    refine lv_bipush (v := 24) hx hb kdX5_constants_124 (by decide) ?_
    refine lv_icmp_ge (tgt := 184) hx hb kdX5_constants_126 (by decide) (fun c_45 => ?_) (fun c_45 => ?_)
    · have h := kb_b_t c_45 h
      obtain rfl := Option.some.inj h
      exact hk0 x4p122 f_this_roundp122 ho.symm _ _ _ hP hD hS (lv_sub hl [0, 1] rfl)
    · have h := kb_b_f c_45 h
      refine lv_iconst (v := 0) hx hb kdX5_constants_129 (by decide) ?_
      refine lv_istore (lv' := [(5, .int (0 : Int32)), (0, .ref h_this), (4, .int x4p122)]) hx hb kdX5_constants_130 hl (by decide) rfl (fun ls hl => ?_)
      obtain ⟨r_58, hr_58, h⟩ := kb_o_s h
      refine klX5_constantsT_132 C0 hlocks hK hN hA hcR hsR h_this a_this x4p122 this_taped this_code this_kind this_rate this_filled this_total this_bitAt this_k this_e1 this_du this_dv f_this_rootsp4_34 f_this_cubesp4_31 f_this_start224 f_this_start256 f_this_limbsp4_32 f_this_productp4_33 f_this_turnsp66_44 f_this_state f_this_other f_this_column f_this_words f_this_block 100000 (0 : Int32) f_this_roundp122 r_58 hr_58 _ _ _ hP hD hS (lv_sub hl [1, 2, 0] rfl) (fun x5p132_55 f_this_roundp132_56 er_58 H locs ls hP hD hS hl => ?_)
      subst er_58
      obtain ⟨x4_57, ex4_57⟩ : ∃ y : Int32, y = x4p122 + Int32.ofInt 1 := ⟨_, rfl⟩
      have h := kb_n_s ex4_57 h
      refine lv_iinc (v := x4_57) (lv' := [(4, .int x4_57), (0, .ref h_this), (5, .int x5p132_55)]) hx hb kdX5_constants_178 hl (k := 1) rfl ex4_57.symm (by decide) rfl (fun ls hl => ?_)
      refine lv_goto (tgt := 122) hx hb kdX5_constants_181 (by decide) ?_
      obtain rfl := Option.some.inj h
      exact ih x4_57 f_this_roundp132_56 r ho _ _ _ hP hD hS (lv_sub hl [1, 0] rfl) hk0
set_option maxHeartbeats 4000000 in
set_option maxRecDepth 100000 in
theorem kcX5_constantsT (l : Launch) (D : va_G) (cB cI cL cBB cII cSh : ClassId) (h_this : Nat) (a_this : Nat → Nat) (sz : Nat) (this_taped : Int32) (this_code : Int32) (this_kind : Int32) (this_rate : Int32) (this_filled : Int32) (this_total : Int64) (this_bitAt : Int32) (this_k : Int32) (this_e1 : Int32) (this_du : Int32) (this_dv : Int32) (f_this_roots : Nat → Int64) (f_this_cubes : Nat → Int64) (f_this_start224 : Nat → Int64) (f_this_start256 : Nat → Int64) (f_this_limbs : Nat → Int64) (f_this_product : Nat → Int64) (f_this_turns : Nat → Int32) (f_this_round : Nat → Int64) (f_this_state : Nat → Int64) (f_this_other : Nat → Int64) (f_this_column : Nat → Int64) (f_this_words : Nat → Int64) (f_this_block : Nat → Int32) (out : Int32 × Int32 × Int32 × Int64 × (Nat → Int64) × (Nat → Int64) × (Nat → Int64) × (Nat → Int64) × (Nat → Int64) × (Nat → Int64) × (Nat → Int32) × (Nat → Int64) × (Nat → Int64) × (Nat → Int64) × (Nat → Int64) × (Nat → Int64) × (Nat → Int32)) (h : kFX5_constantsT f_this_roots f_this_cubes f_this_start224 f_this_start256 f_this_limbs f_this_product f_this_turns f_this_round f_this_state f_this_other f_this_column f_this_words f_this_block = some out) : Met l kyX5_constants kwX5_constants krX5_constantsT (kb_P D kCl (kb_T cB cI cL cBB cII cSh) [.ref h_this] (kWX5_constantsT cB cI cL cBB cII cSh h_this a_this this_taped this_code this_kind this_rate this_filled this_total this_bitAt this_k this_e1 this_du this_dv f_this_roots f_this_cubes f_this_start224 f_this_start256 f_this_limbs f_this_product f_this_turns f_this_round f_this_state f_this_other f_this_column f_this_words f_this_block) sz) (kb_Q D kCl (kb_T cB cI cL cBB cII cSh) (va_A (kWX5_constantsT cB cI cL cBB cII cSh h_this a_this this_taped this_code this_kind this_rate this_filled this_total this_bitAt this_k this_e1 this_du this_dv f_this_roots f_this_cubes f_this_start224 f_this_start256 f_this_limbs f_this_product f_this_turns f_this_round f_this_state f_this_other f_this_column f_this_words f_this_block) sz) none (kWX5_constantsT cB cI cL cBB cII cSh h_this a_this this_taped this_code out.2.1 out.2.2.1 out.1 out.2.2.2.1 this_bitAt this_k this_e1 this_du this_dv out.2.2.2.2.1 out.2.2.2.2.2.1 out.2.2.2.2.2.2.1 out.2.2.2.2.2.2.2.1 out.2.2.2.2.2.2.2.2.1 out.2.2.2.2.2.2.2.2.2.1 out.2.2.2.2.2.2.2.2.2.2.1 out.2.2.2.2.2.2.2.2.2.2.2.1 out.2.2.2.2.2.2.2.2.2.2.2.2.1 out.2.2.2.2.2.2.2.2.2.2.2.2.2.1 out.2.2.2.2.2.2.2.2.2.2.2.2.2.2.1 out.2.2.2.2.2.2.2.2.2.2.2.2.2.2.2.1 out.2.2.2.2.2.2.2.2.2.2.2.2.2.2.2.2)) 0 0 (va_A (kWX5_constantsT cB cI cL cBB cII cSh h_this a_this this_taped this_code this_kind this_rate this_filled this_total this_bitAt this_k this_e1 this_du this_dv f_this_roots f_this_cubes f_this_start224 f_this_start256 f_this_limbs f_this_product f_this_turns f_this_round f_this_state f_this_other f_this_column f_this_words f_this_block) sz) := by
  refine Met.ofW (cc := prog_8_method_19_code) (maxL := 6) (ret := none) (by decide) rfl ?_
  intro p e s m args below meth c s₁ B hml hv
  obtain ⟨rfl, hsz, hP, hK, hN, hD0⟩ := hv
  have hx := B.exec
  have hb := B.bytes
  have hr := B.returns
  have hts0 := atoms_spec (ws := kwX5_constants) B.pre
  have hts : ∀ w ∈ kwA, w.before _ s = true := fun w h => hts0 w (List.mem_cons_of_mem _ h)
  have hown : s.vm.findClass kRX5 = some m.cls := findClass_of_methodNamed B.named
  have hlocks := B.notSynchronized
  subst hsz
  have hD := hD0.self (sz := s.heap.size)
  generalize hAe : va_A (kWX5_constantsT cB cI cL cBB cII cSh h_this a_this this_taped this_code this_kind this_rate this_filled this_total this_bitAt this_k this_e1 this_du this_dv f_this_roots f_this_cubes f_this_start224 f_this_start256 f_this_limbs f_this_product f_this_turns f_this_round f_this_state f_this_other f_this_column f_this_words f_this_block) s.heap.size = A at hD ⊢
  have hA : ∀ q : Nat, s.heap.size ≤ q → A q := fun q h => by rw [← hAe]; exact Or.inr h
  have hS : va_S A s.heap s.heap [] := va_S.rf
  have C0 : CallFix p m c prog_8_method_19_code 6 s _ kwA kRX5 := ⟨hx, hb, hml, hown, hts⟩
  have hl := lv_entry ([.ref h_this]) (n := 6) (Nat.le_of_ble_eq_true rfl)
  rw [lg_entry_eq]
  generalize (lg_sl ([.ref h_this]) ++ List.replicate (6 - (lg_sl ([.ref h_this])).length) Slot.unset).toArray = ls at hl ⊢
  have hl : lv_has ls 6 [(0, .ref h_this)] := hl
  unfold kFX5_constantsT at h
  refine lv_iconst (v := 0) hx hb kdX5_constants_0 (by decide) ?_
  refine lv_istore_n (lv' := [(1, .int (0 : Int32)), (0, .ref h_this)]) hx hb kdX5_constants_1 rfl hl (by decide) rfl (fun ls hl => ?_)
  refine lv_iconst (v := 2) hx hb kdX5_constants_2 (by decide) ?_
  refine lv_istore_n (lv' := [(2, .int (2 : Int32)), (1, .int (0 : Int32)), (0, .ref h_this)]) hx hb kdX5_constants_3 rfl hl (by decide) rfl (fun ls hl => ?_)
  obtain ⟨r_85, hr_85, h⟩ := kb_o_s h
  refine klX5_constantsT_4 C0 hlocks hK hN hA (by decide) (by decide) h_this a_this this_taped this_code this_kind this_rate this_filled this_total this_bitAt this_k this_e1 this_du this_dv f_this_start224 f_this_start256 f_this_turns f_this_round f_this_state f_this_other f_this_column f_this_words f_this_block 100000 (0 : Int32) (2 : Int32) f_this_cubes f_this_limbs f_this_product f_this_roots r_85 hr_85 _ _ _ hP hD hS (lv_sub hl [2, 1, 0] rfl) (fun x1p4_29 x2p4_30 f_this_cubesp4_31 f_this_limbsp4_32 f_this_productp4_33 f_this_rootsp4_34 er_85 H locs ls hP hD hS hl => ?_)
  subst er_85
  refine lv_iconst (v := 1) hx hb kdX5_constants_59 (by decide) ?_
  refine lv_istore_n (lv' := [(2, .int (1 : Int32)), (0, .ref h_this), (1, .int x1p4_29)]) hx hb kdX5_constants_60 rfl hl (by decide) rfl (fun ls hl => ?_)
  refine lv_iconst (v := 0) hx hb kdX5_constants_61 (by decide) ?_
  refine lv_istore_n (lv' := [(3, .int (0 : Int32)), (2, .int (1 : Int32)), (0, .ref h_this), (1, .int x1p4_29)]) hx hb kdX5_constants_62 rfl hl (by decide) rfl (fun ls hl => ?_)
  refine lv_iconst (v := 0) hx hb kdX5_constants_63 (by decide) ?_
  refine lv_istore (lv' := [(4, .int (0 : Int32)), (3, .int (0 : Int32)), (2, .int (1 : Int32)), (0, .ref h_this), (1, .int x1p4_29)]) hx hb kdX5_constants_64 hl (by decide) rfl (fun ls hl => ?_)
  obtain ⟨r_84, hr_84, h⟩ := kb_o_s h
  refine klX5_constantsT_66 C0 hlocks hK hN hA (by decide) (by decide) h_this a_this this_taped this_code this_kind this_rate this_filled this_total this_bitAt this_k this_e1 this_du this_dv f_this_rootsp4_34 f_this_cubesp4_31 f_this_start224 f_this_start256 f_this_limbsp4_32 f_this_productp4_33 f_this_round f_this_state f_this_other f_this_column f_this_words f_this_block 100000 (1 : Int32) (0 : Int32) (0 : Int32) f_this_turns r_84 hr_84 _ _ _ hP hD hS (lv_sub hl [3, 2, 1, 0] rfl) (fun x2p66_41 x3p66_42 x4p66_43 f_this_turnsp66_44 er_84 H locs ls hP hD hS hl => ?_)
  subst er_84
  refine lv_iconst (v := 0) hx hb kdX5_constants_119 (by decide) ?_
  refine lv_istore (lv' := [(4, .int (0 : Int32)), (0, .ref h_this), (2, .int x2p66_41), (3, .int x3p66_42)]) hx hb kdX5_constants_120 hl (by decide) rfl (fun ls hl => ?_)
  obtain ⟨r_83, hr_83, h⟩ := kb_o_s h
  refine klX5_constantsT_122 C0 hlocks hK hN hA (by decide) (by decide) h_this a_this this_taped this_code this_kind this_rate this_filled this_total this_bitAt this_k this_e1 this_du this_dv f_this_rootsp4_34 f_this_cubesp4_31 f_this_start224 f_this_start256 f_this_limbsp4_32 f_this_productp4_33 f_this_turnsp66_44 f_this_state f_this_other f_this_column f_this_words f_this_block 100000 (0 : Int32) f_this_round r_83 hr_83 _ _ _ hP hD hS (lv_sub hl [1, 0] rfl) (fun x4p122_59 f_this_roundp122_60 er_83 H locs ls hP hD hS hl => ?_)
  subst er_83
  refine lv_aload_n hx hb kdX5_constants_184 rfl (lv_at hl 0 rfl) ?_
  refine lv_aload_n hx hb kdX5_constants_185 rfl (lv_at hl 0 rfl) ?_
  refine va_get (ci := 5) (v := .ref (a_this 7)) (C := kRX5) (T := kTX5) (N := 35) hx hb hts kinX5 hown hK hP 0 rfl rfl 7 (by decide) (hts _ km_688) (fun _ h9 => h9) rfl kdX5_constants_186 ?_
  refine lv_bipush (v := 50) hx hb kdX5_constants_189 (by decide) ?_
  refine lv_bipush (v := 52) hx hb kdX5_constants_191 (by decide) ?_
  obtain ⟨u_71, hu_71, h⟩ := kb_o_s h
  obtain ⟨w_61, w_62, w_63, w_64, f_65, f_66, f_67, f_68, f_69, f_70⟩ := u_71
  have hC := (show ([0, 1, 2, 3, 4, 7, 8, 9, 10, 11, 12, 13] : List Nat).map (fun i : Nat => (kWX5_constantsT cB cI cL cBB cII cSh h_this a_this this_taped this_code this_kind this_rate this_filled this_total this_bitAt this_k this_e1 this_du this_dv f_this_rootsp4_34 f_this_cubesp4_31 f_this_start224 f_this_start256 f_this_limbsp4_32 f_this_productp4_33 f_this_turnsp66_44 f_this_roundp122_60 f_this_state f_this_other f_this_column f_this_words f_this_block)[i]?) = List.map some (kWX5_named_start224 cB cI cL cBB cII cSh h_this a_this this_taped this_code this_kind this_rate this_filled this_total this_bitAt this_k this_e1 this_du this_dv f_this_rootsp4_34 f_this_cubesp4_31 f_this_start224 f_this_start256 f_this_turnsp66_44 f_this_roundp122_60 f_this_state f_this_other f_this_column f_this_words f_this_block) from rfl)
  have hPc := kb_Psub hP ([0, 1, 2, 3, 4, 7, 8, 9, 10, 11, 12, 13] : List Nat) hC
  have hDc := kb_Dsub hD ([0, 1, 2, 3, 4, 7, 8, 9, 10, 11, 12, 13] : List Nat) hC (by simp [kb_nd])
  refine kb_call0 (va_runV (As := [.ref (a_this 7), .int (50 : Int32), .int (52 : Int32)]) (rest := []) C0 (kcX5_named_start224 l D cB cI cL cBB cII cSh h_this a_this _ (50 : Int32) (52 : Int32) this_taped this_code this_kind this_rate this_filled this_total this_bitAt this_k this_e1 this_du this_dv f_this_rootsp4_34 f_this_cubesp4_31 f_this_start224 f_this_start256 f_this_turnsp66_44 f_this_roundp122_60 f_this_state f_this_other f_this_column f_this_words f_this_block (w_61, w_62, w_63, w_64, f_65, f_66, f_67, f_68, f_69, f_70) hu_71) (cwV 3 hts (kb_gV km_625 km_627 kp_35 km_6 km_628) rfl rfl rfl (by decide +kernel) ⟨Nat.le_of_ble_eq_true rfl, Nat.le_of_ble_eq_true rfl⟩) ⟨kb_P_bl, va_recv hK hP (ci := 5) (q0 := 0) rfl rfl, (fun U hU hW => ⟨rfl, by rw [hU], by rw [hU]; exact hPc, va_K.moved hW.alike hK, kb_N_to hW hN, hDc.weaken (fun _ _ _ _ => trivial)⟩)⟩ rfl rfl hl.1 rfl (lv_room (Nat.le_of_ble_eq_true rfl)) kdX5_constants_193 ⟨Nat.le_of_ble_eq_true rfl, Nat.le_of_ble_eq_true rfl⟩) hP hD hS hA ([0, 1, 2, 3, 4, 7, 8, 9, 10, 11, 12, 13] : List Nat) hC rfl (fun H locs hP hD hS => ?_)
  have hP : va_P D kCl (kWX5_constantsT cB cI cL cBB cII cSh h_this a_this this_taped this_code w_62 w_63 w_61 w_64 this_bitAt this_k this_e1 this_du this_dv f_this_rootsp4_34 f_this_cubesp4_31 f_65 f_this_start256 f_this_limbsp4_32 f_this_productp4_33 f_this_turnsp66_44 f_this_roundp122_60 f_66 f_67 f_68 f_69 f_70) H := hP
  have hD : va_D A (kWX5_constantsT cB cI cL cBB cII cSh h_this a_this this_taped this_code w_62 w_63 w_61 w_64 this_bitAt this_k this_e1 this_du this_dv f_this_rootsp4_34 f_this_cubesp4_31 f_65 f_this_start256 f_this_limbsp4_32 f_this_productp4_33 f_this_turnsp66_44 f_this_roundp122_60 f_66 f_67 f_68 f_69 f_70) := hD
  refine lv_aload_n hx hb kdX5_constants_196 rfl (lv_at hl 0 rfl) ?_
  refine lv_aload_n hx hb kdX5_constants_197 rfl (lv_at hl 0 rfl) ?_
  refine va_get (ci := 5) (v := .ref (a_this 8)) (C := kRX5) (T := kTX5) (N := 35) hx hb hts kinX5 hown hK hP 0 rfl rfl 8 (by decide) (hts _ km_689) (fun _ h9 => h9) rfl kdX5_constants_198 ?_
  refine lv_bipush (v := 53) hx hb kdX5_constants_201 (by decide) ?_
  refine lv_bipush (v := 54) hx hb kdX5_constants_203 (by decide) ?_
  obtain ⟨u_82, hu_82, h⟩ := kb_o_s h
  obtain ⟨w_72, w_73, w_74, w_75, f_76, f_77, f_78, f_79, f_80, f_81⟩ := u_82
  have hC := (show ([0, 1, 2, 3, 4, 7, 8, 9, 10, 11, 12, 13] : List Nat).map (fun i : Nat => (kWX5_constantsT cB cI cL cBB cII cSh h_this a_this this_taped this_code w_62 w_63 w_61 w_64 this_bitAt this_k this_e1 this_du this_dv f_this_rootsp4_34 f_this_cubesp4_31 f_65 f_this_start256 f_this_limbsp4_32 f_this_productp4_33 f_this_turnsp66_44 f_this_roundp122_60 f_66 f_67 f_68 f_69 f_70)[i]?) = List.map some (kWX5_named_start256 cB cI cL cBB cII cSh h_this a_this this_taped this_code w_62 w_63 w_61 w_64 this_bitAt this_k this_e1 this_du this_dv f_this_rootsp4_34 f_this_cubesp4_31 f_65 f_this_start256 f_this_turnsp66_44 f_this_roundp122_60 f_66 f_67 f_68 f_69 f_70) from rfl)
  have hPc := kb_Psub hP ([0, 1, 2, 3, 4, 7, 8, 9, 10, 11, 12, 13] : List Nat) hC
  have hDc := kb_Dsub hD ([0, 1, 2, 3, 4, 7, 8, 9, 10, 11, 12, 13] : List Nat) hC (by simp [kb_nd])
  refine kb_call0 (va_runV (As := [.ref (a_this 8), .int (53 : Int32), .int (54 : Int32)]) (rest := []) C0 (kcX5_named_start256 l D cB cI cL cBB cII cSh h_this a_this _ (53 : Int32) (54 : Int32) this_taped this_code w_62 w_63 w_61 w_64 this_bitAt this_k this_e1 this_du this_dv f_this_rootsp4_34 f_this_cubesp4_31 f_65 f_this_start256 f_this_turnsp66_44 f_this_roundp122_60 f_66 f_67 f_68 f_69 f_70 (w_72, w_73, w_74, w_75, f_76, f_77, f_78, f_79, f_80, f_81) hu_82) (cwV 3 hts (kb_gV km_625 km_627 kp_35 km_6 km_628) rfl rfl rfl (by decide +kernel) ⟨Nat.le_of_ble_eq_true rfl, Nat.le_of_ble_eq_true rfl⟩) ⟨kb_P_bl, va_recv hK hP (ci := 5) (q0 := 0) rfl rfl, (fun U hU hW => ⟨rfl, by rw [hU], by rw [hU]; exact hPc, va_K.moved hW.alike hK, kb_N_to hW hN, hDc.weaken (fun _ _ _ _ => trivial)⟩)⟩ rfl rfl hl.1 rfl (lv_room (Nat.le_of_ble_eq_true rfl)) kdX5_constants_205 ⟨Nat.le_of_ble_eq_true rfl, Nat.le_of_ble_eq_true rfl⟩) hP hD hS hA ([0, 1, 2, 3, 4, 7, 8, 9, 10, 11, 12, 13] : List Nat) hC rfl (fun H locs hP hD hS => ?_)
  have hP : va_P D kCl (kWX5_constantsT cB cI cL cBB cII cSh h_this a_this this_taped this_code w_73 w_74 w_72 w_75 this_bitAt this_k this_e1 this_du this_dv f_this_rootsp4_34 f_this_cubesp4_31 f_65 f_76 f_this_limbsp4_32 f_this_productp4_33 f_this_turnsp66_44 f_this_roundp122_60 f_77 f_78 f_79 f_80 f_81) H := hP
  have hD : va_D A (kWX5_constantsT cB cI cL cBB cII cSh h_this a_this this_taped this_code w_73 w_74 w_72 w_75 this_bitAt this_k this_e1 this_du this_dv f_this_rootsp4_34 f_this_cubesp4_31 f_65 f_76 f_this_limbsp4_32 f_this_productp4_33 f_this_turnsp66_44 f_this_roundp122_60 f_77 f_78 f_79 f_80 f_81) := hD
  obtain rfl := Option.some.inj h
  exact W.vret hx hb hr (fun t ht hW => ⟨⟨rfl, by rw [ht]; exact hP, va_K.moved hW.alike hK, hD⟩, hS.F ht⟩) hS.2.2 kdX5_constants_208
