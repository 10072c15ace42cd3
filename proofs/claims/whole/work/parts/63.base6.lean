/-! The base of layer 1: the rows of the law and of its helpers. -/
def kb_EX : List String := ["java/lang/IllegalArgumentException", "java/lang/IndexOutOfBoundsException", "java/lang/IllegalStateException", "java/lang/ArithmeticException", "java/lang/UnsupportedOperationException"]
/-- no class of those that are thrown is another one's -/
def kb_M (U : State) : Prop := ∀ E ∈ kb_EX, ∀ F ∈ kb_EX, E ≠ F → va_Nc E F U
theorem kb_M_m {u U : State} (hvm : u.vm.Alike U.vm) (h : kb_M u) : kb_M U := fun E hE F hF hn => va_Nc.moved hvm (h E hE F hF hn)
def kb_PL (D : va_G) (cl : List vw_C) (ty : List (ClassId × FieldType)) (av : List Value) (wc : va_W) (sz : Nat) : Array Value → State → Prop := fun a U => kb_PX D cl ty av wc sz a U ∧ kb_M U
theorem kb_PL_bl {D : va_G} {cl : List vw_C} {ty : List (ClassId × FieldType)} {av : List Value} {wc : va_W} {sz : Nat} : FrameBlind (kb_PL D cl ty av wc sz) := fun a U g mk q => ⟨kb_PX_bl a U g mk q.1, kb_M_m (u := U) (U := U.calling g mk a) (Vm.Alike.refl U.vm) q.2⟩
theorem kb_fa {α : Type} {P : α → Prop} {x : α} {l : List α} (h : P x) (t : ∀ z ∈ l, P z) : ∀ z ∈ x :: l, P z := List.forall_mem_cons.mpr ⟨h, t⟩
theorem kb_cast {args : Array Value} {s : State} {E F : String} (hN : kb_N s) (h : Cond.castable E F ∈ kb_BAD) : (Cond.castable E F).before args s = true := va_Nw.use (kb_BAD_on _ h) (hN _ h)
theorem kb_gSW {own : String} {idx maxL : Nat} {y : MethodName} {bytes : ByteArray} {ret : Option FieldType} {hh : List (Nat × Nat × Nat × Nat)} (h1 : Cond.methodLink own idx y ∈ kwA) (h2 : Cond.static y ∈ kwA) (h4 : Cond.initialized y.cls ∈ kwA) (h5 : Cond.codeWith y bytes maxL ret hh ∈ kwA) : GoodIn kwA (va_wsS own idx y (Cond.codeWith y bytes maxL ret hh :: kwA)) := fun w hw => by
  rcases List.mem_append.mp hw with hw | hw
  · simp only [List.mem_cons, List.not_mem_nil, or_false] at hw
    rcases hw with rfl | rfl | rfl
    · exact ⟨h1, kwA_good h1⟩
    · exact ⟨h2, kwA_good h2⟩
    · exact ⟨h4, kwA_good h4⟩
  · rcases List.mem_cons.mp hw with rfl | hw
    · exact ⟨h5, kwA_good h5⟩
    · exact ⟨hw, kwA_good hw⟩
section KL
variable {p : Program} {l : Launch} {e : Env} {R : Room} {s : State} {m : MethodId} {args : Array Value} {below : List Frame} {meth : Method} {c : Code} {H : Heap} {locs : List Loc} {cells slots : Nat} {Q : State → Prop}
variable {pc mc ms : Nat} {ls : Array Slot} {rest st0 : List Value} {a : Array Value} {A : Nat → Prop} {H0 : Heap} {D : va_G} {cl : List vw_C} {ty : List (ClassId × FieldType)} {ws wc w1 : va_W} {v : Option Value}
theorem kb_noX {g : JFrame} {Qa : State → Outcome → State → Prop} {free : Addr → Prop} (hr : vx_Run p l e R s m args below meth c H locs cells slots mc ms g rest Qa (fun _ _ _ => False) free) : va_Run p l e R s m args below meth c H locs cells slots mc ms g rest Qa free := by
  intro T hT X
  rcases hr T hT X with h | ⟨q, st₀, t, T', L, E, ce, h0, X', hL, e1, e2, hF, -⟩
  · exact h
  · exact hF.elim
/-- a call that makes cells, its callee's cells in another order -/
theorem kb_callq (hr : va_Run p l e R s m args below meth c H locs cells slots mc ms (F0 m pc ls st0) rest (kb_Q D cl ty (va_A wc H.size) v w1 a) (va_A wc H.size)) (hP : va_P D cl ws H) (hD : va_D A ws) (hS : va_S A H0 H locs) (hA : ∀ q, H0.size ≤ q → A q) (is pm inv : List Nat) (hC : is.map (fun i => ws[i]?) = (kb_pick pm wc).map some)
    (hpm : pm.all (fun i => Nat.blt i wc.length) = true) (h3 : inv.map (fun i => (kb_pick pm wc)[i]?) = wc.map some) (hn : kb_nd pm) (hadr : w1.map Prod.fst = wc.map Prod.fst)
    (kk : ∀ (H1 : Heap) (locs1 : List Loc), va_P D cl (kb_put ws is (kb_pick pm w1)) H1 → va_D A (kb_put ws is (kb_pick pm w1)) → va_S A H0 H1 locs1 → W p l e R s m args below meth c H1 locs1 (cells + mc) (slots + ms) Q (F0 m (pc + 3) ls (v.toList ++ rest))) : W p l e R s m args below meth c H locs cells slots Q (F0 m pc ls st0) := by
  intro T hT X
  obtain ⟨v', st₀, t, T', L, h0, X', hL, e1, e2, ⟨⟨hv, hP1, hK1, hD1⟩, hz, hk⟩, st⟩ := hr T hT X
  cases hv
  rw [h0] at hz hk
  have hlen : w1.length = wc.length := by
    have := congrArg List.length hadr
    simpa using this
  have h2 := kb_pick_map (w := w1) (fun i hi => by rw [hlen]; exact Nat.le_of_ble_eq_true (List.all_eq_true.mp hpm i hi))
  have hF := va_free (wc := kb_pick pm wc) hD hS hA is hC
  have toA : ∀ q, va_A wc H.size q → va_A (kb_pick pm wc) H.size q := fun q h => kb_A_of inv h3 h
  have hP1' : va_P D cl (kb_pick pm w1) T'.heap := by rw [e1]; exact kb_Psub hP1 pm h2
  have hD1' : va_D (va_A (kb_pick pm wc) H.size) (kb_pick pm w1) := (kb_Dsub hD1 pm h2 hn).weaken (fun _ _ _ h => toA _ h)
  have hk' : ∀ q : Nat, q < H.size → ¬ va_A (kb_pick pm wc) H.size q → T'.heap[q]? = H[q]? := fun q h1 h2 => by rw [e1]; exact hk q h1 (fun z => h2 (toA q z))
  obtain ⟨hPn, hDn⟩ := kb_join hP hD is hC (kb_pick_fst hadr) hk' hP1' hD1'
  obtain ⟨t2, a1, b1⟩ := kk T'.heap (locs ++ L) hPn hDn
    ⟨Nat.le_trans hS.1 (by rw [e1]; exact hz), fun q h1 h2 => by rw [hk' q (Nat.lt_of_lt_of_le h1 hS.1) (fun z => h2 (hF q z))]; exact hS.2.1 q h1 h2, fun q hq => by
      rcases List.mem_append.mp hq with h | h
      · exact hS.2.2 q h
      · exact hF _ (toA _ (hL q h))⟩ T' rfl X'
  exact ⟨t2, st t2 a1, b1⟩
end KL
theorem kb_blk_4 {X Z Z2 Z3 Z4 Y : va_W} {r : Nat → Nat} {n N : Nat} {E E' : Nat → va_E} {is : List Nat} {cs : va_W} (h : (X ++ (Z ++ (Z2 ++ (Z3 ++ Z4)))).length = N) : kb_put (X ++ (Z ++ (Z2 ++ (Z3 ++ (Z4 ++ (kb_gw r n E ++ Y)))))) ((List.range n).map (fun i => N + i) ++ is) (kb_gw r n E' ++ cs) = kb_put (X ++ (Z ++ (Z2 ++ (Z3 ++ (Z4 ++ (kb_gw r n E' ++ Y)))))) is cs := by
  rw [← List.append_assoc Z3, kb_blk_3 h, List.append_assoc]
theorem kb_blk_5 {X Z Z2 Z3 Z4 Z5 Y : va_W} {r : Nat → Nat} {n N : Nat} {E E' : Nat → va_E} {is : List Nat} {cs : va_W} (h : (X ++ (Z ++ (Z2 ++ (Z3 ++ (Z4 ++ Z5))))).length = N) : kb_put (X ++ (Z ++ (Z2 ++ (Z3 ++ (Z4 ++ (Z5 ++ (kb_gw r n E ++ Y))))))) ((List.range n).map (fun i => N + i) ++ is) (kb_gw r n E' ++ cs) = kb_put (X ++ (Z ++ (Z2 ++ (Z3 ++ (Z4 ++ (Z5 ++ (kb_gw r n E' ++ Y))))))) is cs := by
  rw [← List.append_assoc Z4, kb_blk_4 h, List.append_assoc]
