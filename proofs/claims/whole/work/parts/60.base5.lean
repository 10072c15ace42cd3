/-! The base of layer 1: the rows of what makes cells. -/
def kb_O (U : State) : Prop := va_AOA .byte U ∧ va_AOA .int U ∧ va_AO "ModuleKem$Shape" U
theorem kb_AO1 {ty : FieldType} {u U : State} (hvm : u.vm.Alike U.vm) (h : (Cond.arrayOver ty).before #[] u = true) : (Cond.arrayOver ty).before #[] U = true := by
  have h1 : (Cond.arrayOver ty).before #[] (u.setVm U.vm) = true := by
    rw [Cond.arrayOver_setVmC hvm ty]
    exact h
  exact h1
theorem kb_O_m {u U : State} (hvm : u.vm.Alike U.vm) (h : kb_O u) : kb_O U := ⟨kb_AO1 hvm h.1, kb_AO1 hvm h.2.1, kb_AO1 hvm h.2.2⟩
def kb_PM (D : va_G) (cl : List vw_C) (ty : List (ClassId × FieldType)) (av : List Value) (wc : va_W) (sz : Nat) : Array Value → State → Prop := va_Pc av (fun U => (U.heap.size = sz ∧ va_P D cl wc U.heap ∧ va_K D cl ty U ∧ kb_N U ∧ va_D (fun _ => True) wc) ∧ kb_O U)
theorem kb_PM_bl {D : va_G} {cl : List vw_C} {ty : List (ClassId × FieldType)} {av : List Value} {wc : va_W} {sz : Nat} : FrameBlind (kb_PM D cl ty av wc sz) := fun a U g mk q => by
  obtain ⟨q0, ⟨q1, qP, qK, qN, qD⟩, qO⟩ := q
  exact ⟨q0, ⟨q1, qP, va_K.moved (u := U) (U := U.calling g mk a) (Vm.Alike.refl U.vm) qK, fun w hw => va_Nw.same (kb_BAD_on w hw) (u := U) rfl (qN w hw), qD⟩, kb_O_m (u := U) (U := U.calling g mk a) (Vm.Alike.refl U.vm) qO⟩
def kb_ndb : List Nat → Bool
  | [] => true
  | a :: l => l.all (fun b => !(Nat.beq a b)) && kb_ndb l
theorem kb_nd_b : ∀ l, kb_ndb l = true → kb_nd l
  | [], _ => trivial
  | a :: l, h => by
    simp only [kb_ndb, Bool.and_eq_true] at h
    refine ⟨fun b hb e => ?_, kb_nd_b l h.2⟩
    have h1 := List.all_eq_true.mp h.1 b hb
    subst e
    simp at h1
theorem kb_rf3 (q0 q1 q2 : Nat) : va_up (va_up (va_up (fun _ : Nat => (none : Option Nat)) 0 (some q0)) 1 (some q1)) 2 (some q2) = kb_rf (kb_fn [q0, q1, q2]) 3 := by
  funext i
  match i with
  | 0 => rfl
  | 1 => rfl
  | 2 => rfl
  | n + 3 => simp [va_up, kb_rf]
section KM
variable {p : Program} {l : Launch} {e : Env} {R : Room} {s : State} {m : MethodId} {args : Array Value} {below : List Frame} {meth : Method} {c : Code} {H : Heap} {locs : List Loc} {cells slots : Nat} {Q : State → Prop}
variable {cc : ByteArray} {pc : Nat} {ls : Array Slot} {rest : List Value} {D : va_G} {cl : List vw_C} {A : Nat → Prop} {tys : List (ClassId × FieldType)} {ws : va_W} {H0 : Heap}
theorem kb_newa (hexec : p.tables.exec = Jvm.exec) (hb : c.code = cc) {atype : ArrayType} (harr : (Cond.arrayClass (newarray.typeOf atype)).before args s = true) {ty : FieldType} (hty : newarray.typeOf atype = ty) (hK : va_K D cl tys s) (k : Nat) {cK : ClassId} (hk : tys[k]? = some (cK, ty)) (hP : va_P D cl ws H) (hD : va_D A ws) (hS : va_S A H0 H locs) (hA : ∀ q, H0.size ≤ q → A q)
    {n : Int32} {N' : Nat} {a0 : vp_A} (ha : ∀ cA : ClassId, vp_cell cA a0 = arrV cA N' (fun _ => defaultValue ty)) (hn : ¬ n < 0) (hN : n.toNatClampNeg = N') (hbytes : N' * componentBytes ty ≤ 536870912) (hcells : cells + 1 ≤ R.cells) (hslots : slots + N' ≤ R.slots) (hdg : decode cc pc = .ok (.newarray atype, 2))
    (kk : ∀ (q : Nat) (H1 : Heap), va_P D cl (ws ++ [(q, .inl (cK, a0))]) H1 → va_D A (ws ++ [(q, .inl (cK, a0))]) → va_S A H0 H1 locs →
      W p l e R s m args below meth c H1 locs (cells + 1) (slots + N') Q (F0 m (pc + 2) ls (.ref q :: rest))) : W p l e R s m args below meth c H locs cells slots Q (F0 m pc ls (.int n :: rest)) :=
  va_newa hexec hb harr hty hK hP hD hS hA ha hn hN hbytes hcells hslots hdg (fun q cA H1 hK2 hP hD hS => by
    have e9 := kb_T_eq hK2 k hk
    subst e9
    exact kk q H1 hP hD hS)
theorem kb_newq (hexec : p.tables.exec = Jvm.exec) (hb : c.code = cc) {own C : String} {index : Nat} (hown : s.vm.findClass own = some m.cls) (hclink : (Cond.classLink own index C).before args s = true) (hover : va_AO C s) (hK : va_K D cl tys s) (k : Nat) {cK : ClassId} (hk : tys[k]? = some (cK, .object C)) (hP : va_P D cl ws H) (hD : va_D A ws) (hS : va_S A H0 H locs) (hA : ∀ q, H0.size ≤ q → A q)
    {n : Int32} {N' : Nat} (hn : ¬ n < 0) (hN : n.toNatClampNeg = N') (hbytes : N' * 4 ≤ 536870912) (hcells : cells + 1 ≤ R.cells) (hslots : slots + N' ≤ R.slots) (hdg : decode cc pc = .ok (.anewarray index, 3))
    (kk : ∀ (q : Nat) (H1 : Heap), va_P D cl (ws ++ [(q, .inl (cK, N', .inr (.inr (.inr (.inr (fun _ => none))))))]) H1 → va_D A (ws ++ [(q, .inl (cK, N', .inr (.inr (.inr (.inr (fun _ => none))))))]) → va_S A H0 H1 locs →
      W p l e R s m args below meth c H1 locs (cells + 1) (slots + N') Q (F0 m (pc + 3) ls (.ref q :: rest))) : W p l e R s m args below meth c H locs cells slots Q (F0 m pc ls (.int n :: rest)) :=
  va_newq hexec hb hown hclink hover hK hP hD hS hA hn hN hbytes hcells hslots hdg (fun q cA H1 hK2 hP hD hS => by
    have e9 := kb_T_eq hK2 k hk
    subst e9
    exact kk q H1 hP hD hS)
theorem kb_mna (hexec : p.tables.exec = Jvm.exec) (hb : c.code = cc) {own : String} {index : Nat} {ty : FieldType} {cy cK : ClassId} (hown : s.vm.findClass own = some m.cls) (hclink : (Cond.classLink own index ("[" ++ (FieldType.array ty).toString)).before args s = true) (hover : va_AOA ty s) (harr : (Cond.arrayClass ty).before args s = true) (hcy : s.vm.findClass (FieldType.array ty).toString = some cy)
    (hK : va_K D cl tys s) (k0 : Nat) (hk0 : tys[k0]? = some (cK, .array ty)) (hP : va_P D cl ws H) (hD : va_D A ws) (hS : va_S A H0 H locs) (hA : ∀ q, H0.size ≤ q → A q) {n k : Int32} {N' K' : Nat} {z : vp_A} (hn : ¬ n < 0) (hk : ¬ k < 0) (hN : n.toNatClampNeg = N') (hM : k.toNatClampNeg = K')
    (hb1 : N' * 4 ≤ 536870912) (hb2 : K' * componentBytes ty ≤ 536870912) (hb3 : K' ≤ 536870912) (hdf : fits ty (defaultValue ty) = true) (hdd : (defaultValue ty).isDefault = true) (hcells : cells + (1 + N') ≤ R.cells) (hslots : slots + (N' + N' * K') ≤ R.slots) (hz : ∀ c : ClassId, Jvm.Free.Multi.innerC c K' (defaultValue ty) = vp_cell c z) (hdg : decode cc pc = .ok (.multianewarray index 2, 4))
    (kk : ∀ (q : Nat) (r : Nat → Nat) (H1 : Heap), va_P D cl (ws ++ ((q, .inl (cK, N', .inr (.inr (.inr (.inr (kb_rf r N')))))) :: kb_gw r N' (fun _ => .inl (cy, z)))) H1 → va_D A (ws ++ ((q, .inl (cK, N', .inr (.inr (.inr (.inr (kb_rf r N')))))) :: kb_gw r N' (fun _ => .inl (cy, z)))) → va_S A H0 H1 locs →
      W p l e R s m args below meth c H1 locs (cells + 1 + N') (slots + N' + N' * K') Q (F0 m (pc + 4) ls (.ref q :: rest))) : W p l e R s m args below meth c H locs cells slots Q (F0 m pc ls (.int k :: .int n :: rest)) :=
  va_mna (X := ws) (L := []) (f := fun _ => .inl (cy, z)) hexec hb hown hclink hover harr hcy hK (by show va_P D cl (ws ++ []) H; rw [List.append_nil]; exact hP) (by show va_D A (ws ++ []); rw [List.append_nil]; exact hD) hS hA hn hk hN hM hb1 hb2 hb3 hdf hdd hcells hslots hz hdg (fun q r cA H1 _ _ hK2 hP hD hS => by
    have e9 := kb_T_eq hK2 k0 hk0
    subst e9
    rw [kb_gw_pl, List.append_assoc] at hP hD
    exact kk q r H1 hP hD hS)
end KM
/-- the array classes that the start's words name -/
theorem kb_Kp {D : va_G} {cl : List vw_C} {tys : List (ClassId × FieldType)} {s : State} {A : Array Value} {ty : FieldType} (hK : va_K D cl tys s) (h : (Cond.arrayClass ty).before A s = true) (hty : ∀ C, ty ≠ .object C) : ∃ cA, va_K D cl (tys ++ [(cA, ty)]) s := by
  obtain ⟨cA, kA, comp, h1, h2, h3⟩ := Cond.arrayClass_spec h
  refine ⟨cA, hK.app ⟨hK.1, fun k q hq => ?_⟩⟩
  have hz : k < 1 := (List.getElem?_eq_some_iff.mp hq).1
  rw [show k = 0 by omega] at hq
  cases hq
  refine ⟨fun n z => ⟨fun k h => (by cases h), kA, h2, comp, h3⟩, ?_⟩
  cases ty with
  | object C => exact absurd rfl (hty C)
  | _ => exact h1
theorem kb_Ka {D : va_G} {cl : List vw_C} {tys : List (ClassId × FieldType)} {s : State} {A : Array Value} {ty : FieldType} (hK : va_K D cl tys s) (h : (Cond.arrayOver (.array ty)).before A s = true) : ∃ cA, va_K D cl (tys ++ [(cA, .array ty)]) s := by
  obtain ⟨comp, cA, kA, h0, h2, h3, h1⟩ := Cond.arrayOver_specA h
  refine ⟨cA, hK.app ⟨hK.1, fun k q hq => ?_⟩⟩
  have hz : k < 1 := (List.getElem?_eq_some_iff.mp hq).1
  rw [show k = 0 by omega] at hq
  cases hq
  exact ⟨fun n z => ⟨fun k h => (by cases h), kA, h2, comp, h3⟩, h1⟩
theorem kb_Ko {D : va_G} {cl : List vw_C} {tys : List (ClassId × FieldType)} {s : State} {A : Array Value} {C : String} (hK : va_K D cl tys s) (h : (Cond.arrayOver (.object C)).before A s = true) : ∃ cA, va_K D cl (tys ++ [(cA, .object C)]) s := by
  obtain ⟨comp, cA, kA, h0, hi, h2, h3, h1⟩ := Cond.arrayOver_spec h
  refine ⟨cA, hK.app ⟨hK.1, fun k q hq => ?_⟩⟩
  have hz : k < 1 := (List.getElem?_eq_some_iff.mp hq).1
  rw [show k = 0 by omega] at hq
  cases hq
  exact ⟨fun n z => ⟨fun k h => (by cases h), kA, h2, comp, h3⟩, kA, comp, h2, h3, h0, h1⟩
