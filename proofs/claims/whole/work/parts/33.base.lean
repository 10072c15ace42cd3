/-! DRAFT. The base of layer 1: the rows of a call. -/
/-- the array classes, in one order for all -/
abbrev kb_T (cB cI cL cBB cII cSh : ClassId) : List (ClassId × FieldType) := [(cB, .byte), (cI, .int), (cL, .long), (cBB, .array .byte), (cII, .array .int), (cSh, .object "ModuleKem$Shape")]
-- ===== words that a change of the tables must be asked about one by one (castable, declares, a nest's link)
def kb_N (U : State) : Prop := ∀ w ∈ kb_BAD, va_Nw w U
theorem kb_N_to {s U : State} (hW : s.WarmedH U.vm) (h : kb_N s) : kb_N U := by
  intro w hw
  have hz := h w hw
  cases w with
  | castable C T => exact va_Nw.warmC hW hz
  | declares x => exact va_Nw.warmD hW hz
  | methodLinkNest a i x h => exact va_Nw.warmM hW hz
  | _ => exact absurd hw (by simp [kb_BAD])
theorem kb_nest {s : State} (h : kb_N s) {w : Cond} (hw : w ∈ kb_BAD) : va_Nw w s := h w hw
-- ===== a call's words, all methods' words being one list
theorem kwA_good {w : Cond} (h : w ∈ kwA) : (w.onTables && w.keeps) = true ∨ ∃ ty, w = .arrayClass ty := good_of_word (List.mem_filter.mp h).2
theorem kb_gA {y : MethodName} {bytes : ByteArray} {maxL : Nat} {ret : Option FieldType} (h : Cond.code y bytes maxL ret ∈ kwA) : GoodIn kwA (Cond.code y bytes maxL ret :: kwA) := fun w hw => by
  rcases List.mem_cons.mp hw with rfl | hw
  · exact ⟨h, kwA_good h⟩
  · exact ⟨hw, kwA_good hw⟩
theorem kb_gV {own C : String} {idx maxL : Nat} {y : MethodName} {bytes : ByteArray} {ret : Option FieldType} (h1 : Cond.methodLink own idx y ∈ kwA) (h2 : Cond.instanceMethod y ∈ kwA) (h3 : Cond.selects C y y ∈ kwA) (h4 : Cond.initialized C ∈ kwA) (h5 : Cond.code y bytes maxL ret ∈ kwA) : GoodIn kwA (wsV own idx C y (Cond.code y bytes maxL ret :: kwA)) := fun w hw => by
  rcases List.mem_append.mp hw with hw | hw
  · simp only [List.mem_cons, List.not_mem_nil, or_false] at hw
    rcases hw with rfl | rfl | rfl | rfl
    · exact ⟨h1, kwA_good h1⟩
    · exact ⟨h2, kwA_good h2⟩
    · exact ⟨h3, kwA_good h3⟩
    · exact ⟨h4, kwA_good h4⟩
  · exact kb_gA h5 w hw
theorem kb_gS {own : String} {idx maxL : Nat} {y : MethodName} {bytes : ByteArray} {ret : Option FieldType} (h1 : Cond.methodLink own idx y ∈ kwA) (h2 : Cond.static y ∈ kwA) (h4 : Cond.initialized y.cls ∈ kwA) (h5 : Cond.code y bytes maxL ret ∈ kwA) : GoodIn kwA (va_wsS own idx y (Cond.code y bytes maxL ret :: kwA)) := fun w hw => by
  rcases List.mem_append.mp hw with hw | hw
  · simp only [List.mem_cons, List.not_mem_nil, or_false] at hw
    rcases hw with rfl | rfl | rfl
    · exact ⟨h1, kwA_good h1⟩
    · exact ⟨h2, kwA_good h2⟩
    · exact ⟨h4, kwA_good h4⟩
  · exact kb_gA h5 w hw
-- ===== a contract's start and end
def kb_P (D : va_G) (cl : List vw_C) (ty : List (ClassId × FieldType)) (av : List Value) (wc : va_W) (sz : Nat) : Array Value → State → Prop := va_Pc av (fun U => U.heap.size = sz ∧ va_P D cl wc U.heap ∧ va_K D cl ty U ∧ kb_N U ∧ va_D (fun _ => True) wc)
theorem kb_P_bl {D : va_G} {cl : List vw_C} {ty : List (ClassId × FieldType)} {av : List Value} {wc : va_W} {sz : Nat} : FrameBlind (kb_P D cl ty av wc sz) := fun a U g mk q => by
  obtain ⟨q0, q1, qP, qK, qN, qD⟩ := q
  exact ⟨q0, q1, qP, va_K.moved (u := U) (U := U.calling g mk a) (Vm.Alike.refl U.vm) qK, fun w hw => va_Nw.same (kb_BAD_on w hw) (u := U) rfl (qN w hw), qD⟩
def kb_Q (D : va_G) (cl : List vw_C) (ty : List (ClassId × FieldType)) (A : Nat → Prop) (v : Option Value) (w1 : va_W) : Array Value → State → Outcome → State → Prop := fun _ st oc t => (oc = .returned v ∧ va_P D cl w1 t.heap ∧ va_K D cl ty t ∧ va_D A w1) ∧ va_F A st t
-- ===== behind a call: the callee's cells set back at their places
def kb_put : va_W → List Nat → va_W → va_W
  | ws, i :: is, c :: cs => kb_put (ws.set i c) is cs
  | ws, _, _ => ws
theorem kb_put_c (ws : va_W) (i : Nat) (is : List Nat) (c : Nat × va_E) (cs : va_W) : kb_put ws (i :: is) (c :: cs) = kb_put (ws.set i c) is cs := rfl
theorem kb_put_n (ws : va_W) : kb_put ws [] [] = ws := rfl
theorem kb_put_get {q : Nat × va_E} {k : Nat} : ∀ (is : List Nat) (w1 ws : va_W), (∀ i ∈ is, i < ws.length) → is.length = w1.length → (kb_put ws is w1)[k]? = some q → (∃ j : Nat, is[j]? = some k ∧ w1[j]? = some q) ∨ (k ∉ is ∧ ws[k]? = some q)
  | [], w1, ws, _, _, h => Or.inr ⟨by simp, by cases w1 <;> exact h⟩
  | i :: is, [], ws, _, hl, _ => by simp at hl
  | i :: is, c :: cs, ws, hi, hl, h => by
    have h' : (kb_put (ws.set i c) is cs)[k]? = some q := h
    rcases kb_put_get is cs (ws.set i c) (fun x hx => by rw [List.length_set]; exact hi x (List.mem_cons_of_mem _ hx)) (by simpa using hl) h' with ⟨j, h1, h2⟩ | ⟨h1, h2⟩
    · exact Or.inl ⟨j + 1, by simpa using h1, by simpa using h2⟩
    · by_cases hk : k = i
      · subst hk
        rw [List.getElem?_set_self (hi k List.mem_cons_self)] at h2
        exact Or.inl ⟨0, rfl, h2⟩
      · rw [List.getElem?_set_ne (Ne.symm hk)] at h2
        exact Or.inr ⟨by simp [hk, h1], h2⟩
theorem kb_join {A0 : Nat → Prop} {D : va_G} {cl : List vw_C} {ws wc w1 : va_W} {H H1 : Heap} (hP : va_P D cl ws H) (hD : va_D A0 ws) (is : List Nat) (hC : is.map (fun i => ws[i]?) = wc.map some) (hadr : w1.map Prod.fst = wc.map Prod.fst)
    (hk : ∀ q : Nat, q < H.size → ¬ va_A wc H.size q → H1[q]? = H[q]?) (hP1 : va_P D cl w1 H1) (hD1 : va_D (va_A wc H.size) w1) : va_P D cl (kb_put ws is w1) H1 ∧ va_D A0 (kb_put ws is w1) := by
  have hlw : is.length = wc.length := by
    have := congrArg List.length hC
    simpa using this
  have hl1 : is.length = w1.length := by
    have := congrArg List.length hadr
    rw [List.length_map, List.length_map] at this
    omega
  have at' : ∀ (j i : Nat), is[j]? = some i → ∃ q, ws[i]? = some q ∧ wc[j]? = some q := by
    intro j i hj
    have h1 : (is.map (fun i => ws[i]?))[j]? = some (ws[i]?) := by rw [List.getElem?_map, hj]; rfl
    rw [hC, List.getElem?_map] at h1
    cases hw : wc[j]? with
    | none => rw [hw] at h1; cases h1
    | some q => rw [hw] at h1; exact ⟨q, (Option.some.inj h1).symm, rfl⟩
  have hin : ∀ i ∈ is, i < ws.length := by
    intro i hi
    obtain ⟨j, hj⟩ := List.getElem?_of_mem hi
    obtain ⟨q, h1, -⟩ := at' j i hj
    exact (List.getElem?_eq_some_iff.mp h1).1
  have adr : ∀ (j : Nat) (q q' : Nat × va_E), w1[j]? = some q → wc[j]? = some q' → q.1 = q'.1 := by
    intro j q q' h1 h2
    have h3 : (w1.map Prod.fst)[j]? = some q.1 := by rw [List.getElem?_map, h1]; rfl
    rw [hadr, List.getElem?_map, h2] at h3
    exact (Option.some.inj h3).symm
  have off : ∀ (k : Nat) (q : Nat × va_E), k ∉ is → ws[k]? = some q → ¬ va_A wc H.size q.1 := by
    intro k q hki hq hA
    rcases hA with ⟨k2, e, h⟩ | h
    · have hj : k2 < is.length := by rw [hlw]; exact (List.getElem?_eq_some_iff.mp h).1
      obtain ⟨q2, h1, h2⟩ := at' k2 is[k2] (List.getElem?_eq_getElem hj)
      rw [h] at h2
      cases h2
      have := hD.1 _ _ _ _ hq h1 rfl
      subst this
      exact hki (List.getElem_mem hj)
    · have := (hP k q hq).lt
      omega
  refine ⟨fun k q hq => ?_, fun i j x y hi hj hxy => ?_, fun k q hq => ?_⟩
  · rcases kb_put_get is w1 ws hin hl1 hq with ⟨j, h1, h2⟩ | ⟨h1, h2⟩
    · exact hP1 j q h2
    · exact (hP k q h2).kept (hk q.1 (hP k q h2).lt (off k q h1 h2))
  · rcases kb_put_get is w1 ws hin hl1 hi with ⟨a, a1, a2⟩ | ⟨a1, a2⟩ <;> rcases kb_put_get is w1 ws hin hl1 hj with ⟨b, b1, b2⟩ | ⟨b1, b2⟩
    · have hab := hD1.1 a b x y a2 b2 hxy
      subst hab
      exact Option.some.inj (a1.symm.trans b1)
    · exact absurd (hxy ▸ hD1.2 a x a2) (off j y b1 b2)
    · exact absurd (hxy ▸ hD1.2 b y b2 : va_A wc H.size x.1) (off i x a1 a2)
    · exact hD.1 i j x y a2 b2 hxy
  · rcases kb_put_get is w1 ws hin hl1 hq with ⟨j, h1, h2⟩ | ⟨h1, h2⟩
    · obtain ⟨q', h3, h4⟩ := at' j k h1
      rw [adr j q q' h2 h4]
      exact hD.2 k q' h3
    · exact hD.2 k q h2
section KB
variable {p : Program} {l : Launch} {e : Env} {R : Room} {s : State} {m : MethodId} {args : Array Value} {below : List Frame} {meth : Method} {c : Code} {H : Heap} {locs : List Loc} {cells slots : Nat} {Q : State → Prop}
variable {pc : Nat} {ls : Array Slot} {rest st0 : List Value} {a : Array Value} {A : Nat → Prop} {H0 : Heap} {mc ms : Nat} {D : va_G} {cl : List vw_C} {ty : List (ClassId × FieldType)} {ws wc w1 : va_W} {v : Option Value}
theorem kb_call (hr : va_Run p l e R s m args below meth c H locs cells slots mc ms (F0 m pc ls st0) rest (kb_Q D cl ty (va_A wc H.size) v w1 a) (va_A wc H.size)) (hP : va_P D cl ws H) (hD : va_D A ws) (hS : va_S A H0 H locs) (hA : ∀ q, H0.size ≤ q → A q) (is : List Nat) (hC : is.map (fun i => ws[i]?) = wc.map some) (hadr : w1.map Prod.fst = wc.map Prod.fst)
    (kk : ∀ (H1 : Heap) (locs1 : List Loc), va_P D cl (kb_put ws is w1) H1 → va_D A (kb_put ws is w1) → va_S A H0 H1 locs1 → W p l e R s m args below meth c H1 locs1 (cells + mc) (slots + ms) Q (F0 m (pc + 3) ls (v.toList ++ rest))) : W p l e R s m args below meth c H locs cells slots Q (F0 m pc ls st0) := by
  intro T hT X
  obtain ⟨v', st₀, t, T', L, h0, X', hL, e1, e2, ⟨⟨hv, hP1, hK1, hD1⟩, hz, hk⟩, st⟩ := hr T hT X
  cases hv
  rw [h0] at hz hk
  have hF := va_free (wc := wc) hD hS hA is hC
  have hP1' : va_P D cl w1 T'.heap := by rw [e1]; exact hP1
  have hk' : ∀ q : Nat, q < H.size → ¬ va_A wc H.size q → T'.heap[q]? = H[q]? := fun q h1 h2 => by rw [e1]; exact hk q h1 h2
  obtain ⟨hPn, hDn⟩ := kb_join hP hD is hC hadr hk' hP1' hD1
  obtain ⟨t2, a1, b1⟩ := kk T'.heap (locs ++ L) hPn hDn
    ⟨Nat.le_trans hS.1 (by rw [e1]; exact hz), fun q h1 h2 => by rw [hk' q (Nat.lt_of_lt_of_le h1 hS.1) (fun z => h2 (hF q z))]; exact hS.2.1 q h1 h2, fun q hq => by
      rcases List.mem_append.mp hq with h | h
      · exact hS.2.2 q h
      · exact hF _ (hL q h)⟩ T' rfl X'
  exact ⟨t2, st t2 a1, b1⟩
theorem kb_call0 (hr : va_Run p l e R s m args below meth c H locs cells slots 0 0 (F0 m pc ls st0) rest (kb_Q D cl ty (va_A wc H.size) v w1 a) (va_A wc H.size)) (hP : va_P D cl ws H) (hD : va_D A ws) (hS : va_S A H0 H locs) (hA : ∀ q, H0.size ≤ q → A q) (is : List Nat) (hC : is.map (fun i => ws[i]?) = wc.map some) (hadr : w1.map Prod.fst = wc.map Prod.fst)
    (kk : ∀ (H1 : Heap) (locs1 : List Loc), va_P D cl (kb_put ws is w1) H1 → va_D A (kb_put ws is w1) → va_S A H0 H1 locs1 → W p l e R s m args below meth c H1 locs1 cells slots Q (F0 m (pc + 3) ls (v.toList ++ rest))) : W p l e R s m args below meth c H locs cells slots Q (F0 m pc ls st0) :=
  kb_call hr hP hD hS hA is hC hadr kk
end KB
-- ===== rows of an array of rows, as a block of a world
def kb_gw (r : Nat → Nat) (n : Nat) (E : Nat → va_E) : va_W := (List.range n).map (fun i => (r i, E i))
theorem kb_gw_get {r : Nat → Nat} {n i : Nat} {E : Nat → va_E} (X Y : va_W) (h : i < n) : (X ++ (kb_gw r n E ++ Y))[X.length + i]? = some (r i, E i) := by
  rw [List.getElem?_append_right (by omega), show X.length + i - X.length = i by omega, List.getElem?_append_left (by simpa [kb_gw] using h)]
  simp [kb_gw, h]
theorem kb_gw_set {r : Nat → Nat} {n i : Nat} {E : Nat → va_E} (X Y : va_W) (x : va_E) (h : i < n) : (X ++ (kb_gw r n E ++ Y)).set (X.length + i) (r i, x) = X ++ (kb_gw r n (va_up E i x) ++ Y) := by
  rw [List.set_append_right _ _ (by omega), show X.length + i - X.length = i by omega, List.set_append_left _ _ (by simpa [kb_gw] using h)]
  congr 2
  apply List.ext_getElem?
  intro k
  by_cases hk : k = i
  · subst hk
    rw [List.getElem?_set_self (by simpa [kb_gw] using h)]
    simp [kb_gw, h, va_up]
  · rw [List.getElem?_set_ne (Ne.symm hk)]
    by_cases hkn : k < n
    · simp [kb_gw, hkn, va_up, hk]
    · simp [kb_gw, hkn]
theorem kb_gw_pl {r : Nat → Nat} {n : Nat} {f : Nat → va_E} {x : va_E} : va_pl ([] ++ (List.range n).map r) (vr_up f ((List.range n).map r) x) = kb_gw r n (fun _ => x) := by
  unfold va_pl kb_gw
  rw [List.nil_append, List.map_map]
  apply List.map_congr_left
  intro i hi
  show (r i, vr_up f _ x (r i)) = _
  rw [vr_up_in (List.mem_map.mpr ⟨i, hi, rfl⟩)]
-- ===== places in a world that ends in blocks
theorem kb_pl_r {X Y : va_W} {n k : Nat} {q : Nat × va_E} (hX : X.length = n) (h : Y[k]? = some q) : (X ++ Y)[n + k]? = some q := by
  subst hX
  rw [List.getElem?_append_right (by omega), show X.length + k - X.length = k by omega]
  exact h
theorem kb_pl_l {X Y : va_W} {k : Nat} {q : Nat × va_E} (h : X[k]? = some q) : (X ++ Y)[k]? = some q := by
  rw [List.getElem?_append_left (List.getElem?_eq_some_iff.mp h).1]
  exact h
theorem kb_gw_len {r : Nat → Nat} {n : Nat} {E : Nat → va_E} : (kb_gw r n E).length = n := by simp [kb_gw]
theorem kb_gw_at {r : Nat → Nat} {n i : Nat} {E : Nat → va_E} (h : i < n) : (kb_gw r n E)[i]? = some (r i, E i) := by simp [kb_gw, h]
theorem kb_set_r {X Y : va_W} {n k : Nat} {q : Nat × va_E} (hX : X.length = n) : (X ++ Y).set (n + k) q = X ++ Y.set k q := by
  subst hX
  rw [List.set_append_right _ _ (by omega), show X.length + k - X.length = k by omega]
theorem kb_set_l {X Y : va_W} {k : Nat} {q : Nat × va_E} (h : k < X.length) : (X ++ Y).set k q = X.set k q ++ Y := List.set_append_left _ _ h
theorem kb_gw_st {r : Nat → Nat} {n i : Nat} {E : Nat → va_E} {x : va_E} (h : i < n) : (kb_gw r n E).set i (r i, x) = kb_gw r n (va_up E i x) := by
  apply List.ext_getElem?
  intro k
  by_cases hk : k = i
  · subst hk
    rw [List.getElem?_set_self (by simpa [kb_gw] using h)]
    simp [kb_gw, h, va_up]
  · rw [List.getElem?_set_ne (Ne.symm hk)]
    by_cases hkn : k < n
    · simp [kb_gw, hkn, va_up, hk]
    · simp [kb_gw, hkn]
theorem kb_up_c {α : Type} (g : α → va_E) (m : Nat → α) (i : Nat) (x : α) : va_up (fun j => g (m j)) i (g x) = fun j => g (va_up m i x j) := by
  funext j
  unfold va_up
  by_cases h : j = i
  · rw [if_pos h, if_pos h]
  · rw [if_neg h, if_neg h]
def kb_rf (r : Nat → Nat) (n : Nat) : Nat → Option Nat := fun i => if i < n then some (r i) else none
theorem kb_c {ws : va_W} {i : Nat} {is : List Nat} {q : Nat × va_E} {wc : va_W} (h : ws[i]? = some q) (t : is.map (fun i => ws[i]?) = wc.map some) : (i :: is).map (fun i => ws[i]?) = (q :: wc).map some := by
  rw [List.map_cons, List.map_cons, h, t]
/-- numbers that are apart -/
def kb_nd : List Nat → Prop
  | [] => True
  | a :: l => (∀ b ∈ l, a ≠ b) ∧ kb_nd l
theorem kb_Psub {D : va_G} {cl : List vw_C} {ws wc : va_W} {H : Heap} (hP : va_P D cl ws H) (is : List Nat) (hC : is.map (fun i => ws[i]?) = wc.map some) : va_P D cl wc H := by
  intro k q hk
  have h1 : (is.map (fun i => ws[i]?))[k]? = some (some q) := by rw [hC, List.getElem?_map, hk]; rfl
  rw [List.getElem?_map] at h1
  cases hi : is[k]? with
  | none => rw [hi] at h1; cases h1
  | some i => rw [hi] at h1; exact hP i q (Option.some.inj h1)
theorem kb_nd_inj : ∀ (l : List Nat), kb_nd l → ∀ (i j a : Nat), l[i]? = some a → l[j]? = some a → i = j
  | [], _, i, j, a, h, _ => by simp at h
  | b :: l, hn, i, j, a, h1, h2 => by
    cases i with
    | zero =>
      cases j with
      | zero => rfl
      | succ j =>
        rw [List.getElem?_cons_zero] at h1
        rw [List.getElem?_cons_succ] at h2
        cases h1
        exact absurd rfl (hn.1 _ (List.mem_of_getElem? h2))
    | succ i =>
      rw [List.getElem?_cons_succ] at h1
      cases j with
      | zero =>
        rw [List.getElem?_cons_zero] at h2
        cases h2
        exact absurd rfl (hn.1 _ (List.mem_of_getElem? h1))
      | succ j =>
        rw [List.getElem?_cons_succ] at h2
        rw [kb_nd_inj l hn.2 i j a h1 h2]
theorem kb_Dsub {A : Nat → Prop} {ws wc : va_W} (hD : va_D A ws) (is : List Nat) (hC : is.map (fun i => ws[i]?) = wc.map some) (hn : kb_nd is) : va_D A wc := by
  have key : ∀ (k : Nat) (q : Nat × va_E), wc[k]? = some q → ∃ i, is[k]? = some i ∧ ws[i]? = some q := by
    intro k q hk
    have h1 : (is.map (fun i => ws[i]?))[k]? = some (some q) := by rw [hC, List.getElem?_map, hk]; rfl
    rw [List.getElem?_map] at h1
    cases hi : is[k]? with
    | none => rw [hi] at h1; cases h1
    | some i => rw [hi] at h1; exact ⟨i, rfl, Option.some.inj h1⟩
  refine ⟨fun i j x y hi hj hxy => ?_, fun k q hk => ?_⟩
  · obtain ⟨a, h1, h2⟩ := key i x hi
    obtain ⟨b, h3, h4⟩ := key j y hj
    have hab := hD.1 a b x y h2 h4 hxy
    subst hab
    exact kb_nd_inj is hn i j a h1 h3
  · obtain ⟨a, -, h2⟩ := key k q hk
    exact hD.2 a q h2
/-- the callee's cells in another order -/
theorem kb_A_of {wc wc' : va_W} {sz q : Nat} (inv : List Nat) (h3 : inv.map (fun i => wc'[i]?) = wc.map some) (h : va_A wc sz q) : va_A wc' sz q := by
  rcases h with ⟨k, e, h⟩ | h
  · have h1 : (inv.map (fun i => wc'[i]?))[k]? = some (some (q, e)) := by rw [h3, List.getElem?_map, h]; rfl
    rw [List.getElem?_map] at h1
    cases hi : inv[k]? with
    | none => rw [hi] at h1; cases h1
    | some i => rw [hi] at h1; exact Or.inl ⟨i, e, Option.some.inj h1⟩
  · exact Or.inr h
def kb_pick (pm : List Nat) (w : va_W) : va_W := pm.filterMap (fun i => w[i]?)
theorem kb_pick_map {w : va_W} : ∀ {pm : List Nat}, (∀ i ∈ pm, i < w.length) → pm.map (fun i => w[i]?) = (kb_pick pm w).map some
  | [], _ => rfl
  | i :: pm, h => by
    have hi := h i List.mem_cons_self
    have e : w[i]? = some w[i] := List.getElem?_eq_getElem hi
    have ih := kb_pick_map (w := w) (pm := pm) (fun j hj => h j (List.mem_cons_of_mem _ hj))
    show w[i]? :: pm.map (fun i => w[i]?) = ((i :: pm).filterMap (fun i => w[i]?)).map some
    rw [List.filterMap_cons, e]
    show some w[i] :: pm.map (fun i => w[i]?) = some w[i] :: (kb_pick pm w).map some
    rw [ih]
theorem kb_pick_fst {w1 wc : va_W} {pm : List Nat} (h : w1.map Prod.fst = wc.map Prod.fst) : (kb_pick pm w1).map Prod.fst = (kb_pick pm wc).map Prod.fst := by
  unfold kb_pick
  rw [List.map_filterMap, List.map_filterMap]
  congr 1
  funext i
  have e : ∀ w : va_W, (w[i]?).map Prod.fst = (w.map Prod.fst)[i]? := fun w => by rw [List.getElem?_map]
  rw [e, e, h]
theorem kb_same {ws : va_W} {k : Nat} {q : Nat × va_E} (h : ws[k]? = some q) : ws.set k q = ws := by
  obtain ⟨hk, h1⟩ := List.getElem?_eq_some_iff.mp h
  rw [← h1]
  exact List.set_getElem_self hk
section KB3
variable {p : Program} {l : Launch} {e : Env} {R : Room} {s : State} {m : MethodId} {args : Array Value} {below : List Frame} {meth : Method} {c : Code} {H : Heap} {locs : List Loc} {cells slots : Nat} {Q : State → Prop}
variable {pc : Nat} {ls : Array Slot} {rest st0 : List Value} {a : Array Value} {A : Nat → Prop} {H0 : Heap} {D : va_G} {cl : List vw_C} {ty : List (ClassId × FieldType)} {ws wc w1 wc' w1' : va_W} {v : Option Value}
/-- a call whose callee's cells are taken in another order (pm, and back: inv): first those at fixed places, then rows -/
theorem kb_callp (hr : va_Run p l e R s m args below meth c H locs cells slots 0 0 (F0 m pc ls st0) rest (kb_Q D cl ty (va_A wc H.size) v w1 a) (va_A wc H.size)) (hP : va_P D cl ws H) (hD : va_D A ws) (hS : va_S A H0 H locs) (hA : ∀ q, H0.size ≤ q → A q) (is pm inv : List Nat) (hC : is.map (fun i => ws[i]?) = (kb_pick pm wc).map some)
    (hpm : pm.all (fun i => Nat.blt i wc.length) = true) (h3 : inv.map (fun i => (kb_pick pm wc)[i]?) = wc.map some) (hn : kb_nd pm) (hadr : w1.map Prod.fst = wc.map Prod.fst)
    (kk : ∀ (H1 : Heap) (locs1 : List Loc), va_P D cl (kb_put ws is (kb_pick pm w1)) H1 → va_D A (kb_put ws is (kb_pick pm w1)) → va_S A H0 H1 locs1 → W p l e R s m args below meth c H1 locs1 cells slots Q (F0 m (pc + 3) ls (v.toList ++ rest))) : W p l e R s m args below meth c H locs cells slots Q (F0 m pc ls st0) := by
  intro T hT X
  obtain ⟨v', st₀, t, T', L, h0, X', hL, e1, e2, ⟨⟨hv, hP1, hK1, hD1⟩, hz, hk⟩, st⟩ := hr T hT X
  cases hv
  rw [h0] at hz hk
  have hlen : w1.length = wc.length := by
    have := congrArg List.length hadr
    simpa using this
  have h2 := kb_pick_map (w := w1) (fun i hi => by rw [hlen]; exact Nat.le_of_ble_eq_true (List.all_eq_true.mp hpm i hi))
  have hF := va_free (wc := kb_pick pm wc) hD hS hA is hC
  have toA : ∀ q, va_A wc H.size q → va_A (kb_pick pm wc) H.size q := fun q h => kb_A_of inv h3 h
  have hP1' : va_P D cl (kb_pick pm w1) T'.heap := by rw [e1]; exact kb_Psub hP1 pm h2
  have hD1' : va_D (va_A (kb_pick pm wc) H.size) (kb_pick pm w1) := (kb_Dsub hD1 pm h2 hn).weaken (fun _ _ _ h => toA _ h)
  have hk' : ∀ q : Nat, q < H.size → ¬ va_A (kb_pick pm wc) H.size q → T'.heap[q]? = H[q]? := fun q h1 h2 => by rw [e1]; exact hk q h1 (fun z => h2 (toA q z))
  obtain ⟨hPn, hDn⟩ := kb_join hP hD is hC (kb_pick_fst hadr) hk' hP1' hD1'
  obtain ⟨t2, a1, b1⟩ := kk T'.heap (locs ++ L) hPn hDn
    ⟨Nat.le_trans hS.1 (by rw [e1]; exact hz), fun q h1 h2 => by rw [hk' q (Nat.lt_of_lt_of_le h1 hS.1) (fun z => h2 (hF q z))]; exact hS.2.1 q h1 h2, fun q hq => by
      rcases List.mem_append.mp hq with h | h
      · exact hS.2.2 q h
      · exact hF _ (toA _ (hL q h))⟩ T' rfl X'
  exact ⟨t2, st t2 a1, b1⟩
end KB3
section KB2
variable {p : Program} {l : Launch} {e : Env} {R : Room} {s : State} {m : MethodId} {args : Array Value} {below : List Frame} {meth : Method} {c : Code} {H : Heap} {locs : List Loc} {cells slots : Nat} {Q : State → Prop}
variable {cc : ByteArray} {pc : Nat} {ls : Array Slot} {rest : List Value} {D : va_G} {cl : List vw_C} {A : Nat → Prop} {a : Nat} {tys : List (ClassId × FieldType)} {ws : va_W} {H0 : Heap}
/-- a row out of an array of rows (or of objects) -/
theorem kb_aald (hexec : p.tables.exec = Jvm.exec) (hb : c.code = cc) (hK : va_K D cl tys s) (hP : va_P D cl ws H) (q0 t0 : Nat) {cA : ClassId} {ty : FieldType} {n : Nat} {r : Nat → Nat} (ha : ws[q0]? = some (a, .inl (cA, n, .inr (.inr (.inr (.inr (kb_rf r n))))))) (ht : tys[t0]? = some (cA, ty)) (hty : ty.isReference = true) {i : Int32} {j : Nat} (hj : i.toNatClampNeg = j) (hin : vp_in i n) (hdg : decode cc pc = .ok (.aaload, 1))
    (kk : W p l e R s m args below meth c H locs cells slots Q (F0 m (pc + 1) ls (.ref (r j) :: rest))) : W p l e R s m args below meth c H locs cells slots Q (F0 m pc ls (.int i :: .ref a :: rest)) := by
  have hlt : i.toNatClampNeg < n := Nat.not_le.mp fun q => hin (Or.inr q)
  have hv : va_rf (kb_rf r n i.toNatClampNeg) = .ref (r j) := by
    rw [← hj]
    simp [kb_rf, hlt, va_rf]
  refine W.aald (v := va_rf (kb_rf r n i.toNatClampNeg)) (ty := ty) hexec hb (hP q0 _ ha) ((hK.2 t0 _ ht).1 n (fun j => va_rf (kb_rf r n j))) hty (fun q => by cases q) (by show ¬ (i < 0 ∨ (arrV _ _ _).slots.size ≤ _); rw [arrV_size]; exact hin) (by show (arrV _ _ _).slots[_]? = _; rw [arrV_read _ _ hlt]) rfl rfl hdg ?_
  rw [hv]
  exact kk
end KB2
-- ===== methods that make cells: their ends, their calls
def kb_fn (l : List Nat) : Nat → Nat := fun k => l.getD k 0
def kb_QE {ι : Type} (D : va_G) (cl : List vw_C) (ty : List (ClassId × FieldType)) (A : Nat → Prop) (v : ι → Option Value) (w1 : ι → va_W) : Array Value → State → Outcome → State → Prop := fun _ st oc t => (∃ i, oc = .returned (v i) ∧ va_P D cl (w1 i) t.heap ∧ va_K D cl ty t ∧ va_D A (w1 i)) ∧ va_F A st t
section KE
variable {p : Program} {l : Launch} {e : Env} {R : Room} {s : State} {m : MethodId} {args : Array Value} {below : List Frame} {meth : Method} {c : Code} {H : Heap} {locs : List Loc} {cells slots : Nat} {Q : State → Prop}
variable {pc : Nat} {ls : Array Slot} {rest st0 : List Value} {a : Array Value} {A : Nat → Prop} {H0 : Heap} {mc ms : Nat} {D : va_G} {cl : List vw_C} {ty : List (ClassId × FieldType)} {ws wc wr : va_W}
theorem kb_callE {ι : Type} {v : ι → Option Value} {w1 : ι → va_W} (hr : va_Run p l e R s m args below meth c H locs cells slots mc ms (F0 m pc ls st0) rest (kb_QE D cl ty (va_A wc H.size) v w1 a) (va_A wc H.size)) (hP : va_P D cl ws H) (hD : va_D A ws) (hS : va_S A H0 H locs) (hA : ∀ q, H0.size ≤ q → A q) (isC isR : List Nat) (hC : isC.map (fun i => ws[i]?) = wc.map some) (hR : isR.map (fun i => ws[i]?) = wr.map some) (hn : va_nd isR = true) (hdis : ∀ i ∈ isR, i ∉ isC)
    (kk : ∀ (i : ι) (H1 : Heap) (locs1 : List Loc), va_P D cl (wr ++ w1 i) H1 → va_D A (wr ++ w1 i) → va_S A H0 H1 locs1 → W p l e R s m args below meth c H1 locs1 (cells + mc) (slots + ms) Q (F0 m (pc + 3) ls ((v i).toList ++ rest))) : W p l e R s m args below meth c H locs cells slots Q (F0 m pc ls st0) := by
  intro T hT X
  obtain ⟨v', st₀, t, T', L, h0, X', hL, e1, e2, ⟨⟨i, hv, hP1, hK1, hD1⟩, hz, hk⟩, st⟩ := hr T hT X
  cases hv
  rw [h0] at hz hk
  have hF := va_free (wc := wc) hD hS hA isC hC
  have hP1' : va_P D cl (w1 i) T'.heap := by rw [e1]; exact hP1
  have hk' : ∀ q : Nat, q < H.size → ¬ va_A wc H.size q → T'.heap[q]? = H[q]? := fun q h1 h2 => by rw [e1]; exact hk q h1 h2
  obtain ⟨hPn, hDn⟩ := va_join hP hD isC isR hC hR hn hdis hk' hF hP1' hD1
  obtain ⟨t2, a1, b1⟩ := kk i T'.heap (locs ++ L) hPn hDn
    ⟨Nat.le_trans hS.1 (by rw [e1]; exact hz), fun q h1 h2 => by rw [hk' q (Nat.lt_of_lt_of_le h1 hS.1) (fun z => h2 (hF q z))]; exact hS.2.1 q h1 h2, fun q hq => by
      rcases List.mem_append.mp hq with h | h
      · exact hS.2.2 q h
      · exact hF _ (hL q h)⟩ T' rfl X'
  exact ⟨t2, st t2 a1, b1⟩
end KE
/-- an array class that is made anew is the one that is known -/
theorem kb_T_eq {D : va_G} {cl : List vw_C} {tys : List (ClassId × FieldType)} {cA cK : ClassId} {t : FieldType} {s : State} (hK : va_K D cl (tys ++ [(cA, t)]) s) (k : Nat) (hk : tys[k]? = some (cK, t)) : cA = cK := by
  have h1 := (hK.2 k (cK, t) (by rw [List.getElem?_append_left (List.getElem?_eq_some_iff.mp hk).1]; exact hk)).2
  have h2 := (hK.2 tys.length (cA, t) (by rw [List.getElem?_append_right (Nat.le_refl _), Nat.sub_self]; rfl)).2
  cases t with
  | object C =>
    obtain ⟨kA, comp, a1, a2, a3, a4⟩ := h1
    obtain ⟨kB, comp', b1, b2, b3, b4⟩ := h2
    exact Option.some.inj (b4.symm.trans a4)
  | _ => exact Option.some.inj (Eq.trans (Eq.symm h2) h1)
