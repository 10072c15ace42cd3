/-! A whole grid set back behind a call. -/
theorem kb_put_seg {is : List Nat} {cs : va_W} : ∀ (B B' P Y : va_W), B.length = B'.length → kb_put (P ++ (B ++ Y)) ((List.range B.length).map (fun i => P.length + i) ++ is) (B' ++ cs) = kb_put (P ++ (B' ++ Y)) is cs
  | [], [], P, Y, _ => rfl
  | [], _ :: _, P, Y, h => by simp at h
  | _ :: _, [], P, Y, h => by simp at h
  | b :: B, b' :: B', P, Y, h => by
    have ih := kb_put_seg (is := is) (cs := cs) B B' (P ++ [b']) Y (by simpa using h)
    have e1 : (List.range (b :: B).length).map (fun i => P.length + i) = P.length :: (List.range B.length).map (fun i => (P ++ [b']).length + i) := by
      rw [List.length_cons, List.range_succ_eq_map, List.map_cons, List.map_map]
      congr 1
      apply List.map_congr_left
      intro i _
      show P.length + Nat.succ i = (P ++ [b']).length + i
      rw [List.length_append, List.length_singleton]
      omega
    have e2 : (P ++ (b :: B ++ Y)).set P.length b' = (P ++ [b']) ++ (B ++ Y) := by
      rw [List.set_append_right _ _ (Nat.le_refl _), Nat.sub_self]
      simp
    rw [e1]
    show kb_put (P ++ (b :: B ++ Y)) (P.length :: ((List.range B.length).map (fun i => (P ++ [b']).length + i) ++ is)) (b' :: (B' ++ cs)) = kb_put (P ++ (b' :: (B' ++ Y))) is cs
    rw [kb_put_c, e2, ih]
    simp
theorem kb_blk_0 {X Y : va_W} {r : Nat → Nat} {n N : Nat} {E E' : Nat → va_E} {is : List Nat} {cs : va_W} (h : X.length = N) : kb_put (X ++ (kb_gw r n E ++ Y)) ((List.range n).map (fun i => N + i) ++ is) (kb_gw r n E' ++ cs) = kb_put (X ++ (kb_gw r n E' ++ Y)) is cs := by
  subst h
  have h1 := kb_put_seg (is := is) (cs := cs) (kb_gw r n E) (kb_gw r n E') X Y (by rw [kb_gw_len, kb_gw_len])
  rw [kb_gw_len] at h1
  exact h1
theorem kb_blk_1 {X Z Y : va_W} {r : Nat → Nat} {n N : Nat} {E E' : Nat → va_E} {is : List Nat} {cs : va_W} (h : (X ++ Z).length = N) : kb_put (X ++ (Z ++ (kb_gw r n E ++ Y))) ((List.range n).map (fun i => N + i) ++ is) (kb_gw r n E' ++ cs) = kb_put (X ++ (Z ++ (kb_gw r n E' ++ Y))) is cs := by
  rw [← List.append_assoc, kb_blk_0 h, List.append_assoc]
theorem kb_blk_2 {X Z Z2 Y : va_W} {r : Nat → Nat} {n N : Nat} {E E' : Nat → va_E} {is : List Nat} {cs : va_W} (h : (X ++ (Z ++ Z2)).length = N) : kb_put (X ++ (Z ++ (Z2 ++ (kb_gw r n E ++ Y)))) ((List.range n).map (fun i => N + i) ++ is) (kb_gw r n E' ++ cs) = kb_put (X ++ (Z ++ (Z2 ++ (kb_gw r n E' ++ Y)))) is cs := by
  rw [← List.append_assoc Z, kb_blk_1 h, List.append_assoc]
theorem kb_blk_3 {X Z Z2 Z3 Y : va_W} {r : Nat → Nat} {n N : Nat} {E E' : Nat → va_E} {is : List Nat} {cs : va_W} (h : (X ++ (Z ++ (Z2 ++ Z3))).length = N) : kb_put (X ++ (Z ++ (Z2 ++ (Z3 ++ (kb_gw r n E ++ Y))))) ((List.range n).map (fun i => N + i) ++ is) (kb_gw r n E' ++ cs) = kb_put (X ++ (Z ++ (Z2 ++ (Z3 ++ (kb_gw r n E' ++ Y))))) is cs := by
  rw [← List.append_assoc Z2, kb_blk_2 h, List.append_assoc]
