/-! DRAFT, not compiled yet. Methods that may throw: their contracts' start and end, and the row of a call (the vx_ rows come with the names). -/
/-- what a throw takes from the start: two statics of Throwable, and the texts -/
def kb_Z (A : Nat → Prop) (U : State) (H : Heap) : Prop := vx_Zq Bundle.tN "UNASSIGNED_STACK" Bundle.steD A U H ∧ vx_Zq Bundle.tN "SUPPRESSED_SENTINEL" Bundle.listD A U H ∧ ∀ q ∈ kb_STR, ∃ a, vk_R q.1 q.2.1 q.2.2 a U
theorem kb_Z_to {A B : Nat → Prop} {s U : State} {H : Heap} {locs : List Loc} (hZ : kb_Z A s s.heap) (hS : va_S A s.heap H locs) (hB : ∀ q, B q → A q) (hU : U.heap = H) (hW : s.WarmedH U.vm) : kb_Z B U U.heap := by
  obtain ⟨h1, h2, h3⟩ := hZ
  refine ⟨?_, ?_, fun q hq => ?_⟩
  · rw [hU]; exact vx_Zq.narrow (vx_Zq.moved hW.alike (h1.kept hS.2.1)) hB
  · rw [hU]; exact vx_Zq.narrow (vx_Zq.moved hW.alike (h2.kept hS.2.1)) hB
  · obtain ⟨a, ha⟩ := h3 q hq
    exact ⟨a, vk_R.warm hW ha⟩
def kb_PX (D : va_G) (cl : List vw_C) (ty : List (ClassId × FieldType)) (av : List Value) (wc : va_W) (sz : Nat) : Array Value → State → Prop := fun a U => kb_P D cl ty av wc sz a U ∧ kb_Z (va_A wc sz) U U.heap
theorem kb_PX_bl {D : va_G} {cl : List vw_C} {ty : List (ClassId × FieldType)} {av : List Value} {wc : va_W} {sz : Nat} : FrameBlind (kb_PX D cl ty av wc sz) := fun a U g mk q => by
  refine ⟨kb_P_bl a U g mk q.1, ?_, ?_, fun z hz => ?_⟩
  · exact vx_Zq.moved (u := U) (U := U.calling g mk a) (Vm.Alike.refl U.vm) q.2.1
  · exact vx_Zq.moved (u := U) (U := U.calling g mk a) (Vm.Alike.refl U.vm) q.2.2.1
  · obtain ⟨b, hb⟩ := q.2.2.2 z hz
    exact ⟨b, vk_R.same (u := U) rfl hb⟩
def kb_QX {S MT : Type} (D : va_G) (cl : List vw_C) (ty : List (ClassId × FieldType)) (A : Nat → Prop) (out : S ⊕ (String × MT)) (val : S → Option Value) (w1 : S → va_W) : Array Value → State → Outcome → State → Prop := fun a st oc t => ∃ o, out = .inl o ∧ kb_Q D cl ty A (val o) (w1 o) a st oc t
def kb_XX {S MT : Type} (D : va_G) (cl : List vw_C) (ty : List (ClassId × FieldType)) (A : Nat → Prop) (out : S ⊕ (String × MT)) (wx : MT → va_W) : String → State → State → Prop := fun E st t => ∃ x, out = .inr (E, x) ∧ va_P D cl (wx x) t.heap ∧ va_K D cl ty t ∧ va_D A (wx x) ∧ va_F A st t
section KX
variable {p : Program} {l : Launch} {e : Env} {R : Room} {s : State} {m : MethodId} {args : Array Value} {below : List Frame} {meth : Method} {c : Code} {H : Heap} {locs : List Loc} {cells slots : Nat} {Q : State → Prop}
variable {pc : Nat} {ls : Array Slot} {rest st0 : List Value} {a : Array Value} {A : Nat → Prop} {H0 : Heap} {D : va_G} {cl : List vw_C} {ty : List (ClassId × FieldType)} {ws wc : va_W} {mc ms : Nat}
theorem kb_callx {S MT : Type} {out : S ⊕ (String × MT)} {val : S → Option Value} {w1 : S → va_W} {wx : MT → va_W}
    (hr : vx_Run p l e R s m args below meth c H locs cells slots mc ms (F0 m pc ls st0) rest (kb_QX D cl ty (va_A wc H.size) out val w1 a) (kb_XX D cl ty (va_A wc H.size) out wx) (va_A wc H.size)) (hP : va_P D cl ws H) (hD : va_D A ws) (hS : va_S A H0 H locs) (hA : ∀ q, H0.size ≤ q → A q) (is pm inv : List Nat) (hC : is.map (fun i => ws[i]?) = (kb_pick pm wc).map some)
    (hpm : pm.all (fun i => Nat.blt i wc.length) = true) (h3 : inv.map (fun i => (kb_pick pm wc)[i]?) = wc.map some) (hn : kb_nd pm) (hadr : ∀ o, (w1 o).map Prod.fst = wc.map Prod.fst) (hadx : ∀ x, (wx x).map Prod.fst = wc.map Prod.fst)
    (kx : ∀ (x : String × MT) (ce : Cell) (q : Addr) (H1 : Heap) (locs1 : List Loc), out = .inr x → va_P D cl (kb_put ws is (kb_pick pm (wx x.2))) H1 → va_D A (kb_put ws is (kb_pick pm (wx x.2))) → va_S A H0 H1 locs1 → H1[q]? = some ce → ce.vm = .none → s.vm.findClass x.1 = some ce.cls → vx_W p l e R s m args below meth c H1 locs1 (cells + mc) (slots + ms) Q (F0 m pc ls rest) q)
    (kk : ∀ (o : S) (H1 : Heap) (locs1 : List Loc), out = .inl o → va_P D cl (kb_put ws is (kb_pick pm (w1 o))) H1 → va_D A (kb_put ws is (kb_pick pm (w1 o))) → va_S A H0 H1 locs1 → W p l e R s m args below meth c H1 locs1 (cells + mc) (slots + ms) Q (F0 m (pc + 3) ls ((val o).toList ++ rest))) : W p l e R s m args below meth c H locs cells slots Q (F0 m pc ls st0) := by
  have hF := va_free (wc := kb_pick pm wc) hD hS hA is hC
  have toA : ∀ q, va_A wc H.size q → va_A (kb_pick pm wc) H.size q := fun q h => kb_A_of inv h3 h
  have key : ∀ (w' : va_W) (st₀ t T' : State) (L : List Loc), w'.map Prod.fst = wc.map Prod.fst → st₀.heap = H → T'.heap = t.heap → (∀ z ∈ L, va_A wc H.size z.base) → va_P D cl w' t.heap → va_D (va_A wc H.size) w' → va_F (va_A wc H.size) st₀ t →
      va_P D cl (kb_put ws is (kb_pick pm w')) T'.heap ∧ va_D A (kb_put ws is (kb_pick pm w')) ∧ va_S A H0 T'.heap (locs ++ L) := by
    intro w' st₀ t T' L hw h0 e1 hL hP1 hD1 hFr
    obtain ⟨hz, hk⟩ := hFr
    rw [h0] at hz hk
    have hlen : w'.length = wc.length := by
      have := congrArg List.length hw
      simpa using this
    have h2 := kb_pick_map (w := w') (fun i hi => by rw [hlen]; exact Nat.le_of_ble_eq_true (List.all_eq_true.mp hpm i hi))
    have hP1' : va_P D cl (kb_pick pm w') T'.heap := by rw [e1]; exact kb_Psub hP1 pm h2
    have hD1' : va_D (va_A (kb_pick pm wc) H.size) (kb_pick pm w') := (kb_Dsub hD1 pm h2 hn).weaken (fun _ _ _ h => toA _ h)
    have hk' : ∀ q : Nat, q < H.size → ¬ va_A (kb_pick pm wc) H.size q → T'.heap[q]? = H[q]? := fun q h1 h2 => by rw [e1]; exact hk q h1 (fun z => h2 (toA q z))
    obtain ⟨hPn, hDn⟩ := kb_join hP hD is hC (kb_pick_fst hw) hk' hP1' hD1'
    exact ⟨hPn, hDn, Nat.le_trans hS.1 (by rw [e1]; exact hz), fun q h1 h2 => by rw [hk' q (Nat.lt_of_lt_of_le h1 hS.1) (fun z => h2 (hF q z))]; exact hS.2.1 q h1 h2, fun q hq => by
      rcases List.mem_append.mp hq with h | h
      · exact hS.2.2 q h
      · exact hF _ (toA _ (hL q h))⟩
  intro T hT X
  rcases hr T hT X with ⟨v, st₀, t, T', L, h0, X', hL, e1, e2, ⟨o, ho, ⟨hv, hP1, hK1, hD1⟩, hFr⟩, st⟩ | ⟨q, st₀, t, T', L, E, ce, h0, X', hL, e1, e2, ⟨x, hx, hP1, hK1, hD1, hFr⟩, hce, hcv, hcl, st⟩
  · cases hv
    obtain ⟨k1, k2, k3⟩ := key (w1 o) st₀ t T' L (hadr o) h0 e1 hL hP1 hD1 hFr
    obtain ⟨t2, a1, b1⟩ := kk o T'.heap (locs ++ L) ho k1 k2 k3 T' rfl X'
    exact ⟨t2, st t2 a1, b1⟩
  · obtain ⟨k1, k2, k3⟩ := key (wx x) st₀ t T' L (hadx x) h0 e1 hL hP1 hD1 hFr
    obtain ⟨t2, a1, b1⟩ := kx (E, x) ce q T'.heap (locs ++ L) hx k1 k2 k3 (by rw [e1]; exact hce) hcv hcl T' rfl X'
    exact ⟨t2, st.trans a1, b1⟩
end KX
/-- the words of a throw: the good ones out of all methods' words, the others out of those that are carried -/
theorem kb_hat {args : Array Value} {s : State} {L : List Cond} (hts : ∀ w ∈ kwA, w.before args s = true) (hN : kb_N s) (h : L.all (fun w => decide (w ∈ kwA) || (w.onTables && decide (w ∈ kb_BAD))) = true) : ∀ w ∈ L, w.before args s = true := fun w hw => by
  have h1 := List.all_eq_true.mp h w hw
  simp only [Bool.or_eq_true, Bool.and_eq_true, decide_eq_true_eq] at h1
  rcases h1 with h1 | h1
  · exact hts w h1
  · exact va_Nw.use h1.1 (hN w h1.2)
