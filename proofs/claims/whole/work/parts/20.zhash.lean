/-! Layer 2: the class's hashes and noise, as whole methods. -/
def kz_z : kz_SP := (fun _ => 0, 0)
theorem kz_by_s : ∀ k, k < 128 → kz_by k = nI k := by decide +kernel
theorem kz_fin0 (rc : Nat → Int64) (R : Nat) (sf : Int32) (u : kz_SP) : (kz_fin rc R sf u).2 = 0 := rfl
theorem kz_fillHash {rc lanes moved columns : Nat → Int64} {turns targets hash f : Nat → Int32} {at' n n1 : Nat} (hT : kz_tab turns targets) (hn : at' + n ≤ n1) (hn1 : n1 < 2 ^ 31) (hn2 : n < 100000) :
    ∃ pl l' m' c' h', kFX1_fillHash (nI at') (nI n) n1 lanes moved columns turns targets rc hash f = some (pl, (136 : Int32), l', m', c', h') ∧ ∀ k, k < 32 → h' k = kz_by (kz_gb rc 136 (kz_fin rc 136 6 (kz_ab rc 136 (fun k => f (at' + k)) kz_z n)) k) := by
  obtain ⟨l1, p1, e1⟩ := kz_start lanes (136 : Int32)
  obtain ⟨l2, m2, c2, p2, e2⟩ := kz_take (rc := rc) (moved := moved) (columns := columns) (f := f) (R := 136) (u := kz_z) hT (by decide) (by decide) (by decide) e1 hn hn1 hn2
  have hlt := kz_ab_lt (rc := rc) (R := 136) (v := fun k => f (at' + k)) (u := kz_z) (by decide) (by decide) n
  generalize kz_ab rc 136 (fun k => f (at' + k)) kz_z n = U at p2 e2 hlt ⊢
  obtain ⟨l3, m3, c3, p3, e3⟩ := kz_finish (rc := rc) (moved := m2) (columns := c2) (sf := 6) hT (by decide) (by decide) hlt e2
  obtain ⟨l4, m4, c4, h4, p4, e4, b4⟩ := kz_give (rc := rc) (moved := m3) (columns := c3) (f := hash) (R := 136) (at' := 0) (n := 32) (n1 := 32) (u := kz_fin rc 136 6 U) hT (by decide) (by decide) (by rw [kz_fin0]; decide) e3 (by decide) (by decide) (by decide)
  rw [kz_fin0] at p4
  generalize nI (kz_gv rc 136 (kz_fin rc 136 6 U) 32).2 = pl at p4
  refine ⟨pl, l4, m4, c4, h4, ?_, fun k hk => by rw [b4 k, if_pos ⟨by omega, by omega⟩, Nat.sub_zero]⟩
  unfold kFX1_fillHash
  refine (kb_o_v p1).trans ?_
  refine (kb_o_v p2).trans ?_
  refine (kb_o_v p3).trans ?_
  exact kb_o_v p4
theorem kz_deriveSeeds {rc lanes moved columns : Nat → Int64} {turns targets seeds f g : Nat → Int32} {at' n1 n2 : Nat} (hT : kz_tab turns targets) (hn1 : 32 ≤ n1) (hn1' : n1 < 2 ^ 31) (hn2 : at' + 32 ≤ n2) (hn2' : n2 < 2 ^ 31) :
    ∃ pl l' m' c' s', kFX1_deriveSeeds (nI at') n1 n2 lanes moved columns turns targets rc seeds f g = some (pl, (72 : Int32), l', m', c', s') ∧ ∀ k, k < 64 → s' k = kz_by (kz_gb rc 72 (kz_fin rc 72 6 (kz_ab rc 72 (fun k => g (at' + k)) (kz_ab rc 72 (fun k => f (0 + k)) kz_z 32) 32)) k) := by
  obtain ⟨l1, p1, e1⟩ := kz_start lanes (72 : Int32)
  obtain ⟨l2, m2, c2, p2, e2⟩ := kz_take (rc := rc) (moved := moved) (columns := columns) (f := f) (R := 72) (at' := 0) (n := 32) (n1 := n1) (u := kz_z) hT (by decide) (by decide) (by decide) e1 (by omega) hn1' (by decide)
  have hlt := kz_ab_lt (rc := rc) (R := 72) (v := fun k => f (0 + k)) (u := kz_z) (by decide) (by decide) 32
  generalize kz_ab rc 72 (fun k => f (0 + k)) kz_z 32 = U at p2 e2 hlt ⊢
  obtain ⟨l5, m5, c5, p5, e5⟩ := kz_take (rc := rc) (moved := m2) (columns := c2) (f := g) (R := 72) (at' := at') (n := 32) (n1 := n2) hT (by decide) (by decide) hlt e2 hn2 hn2' (by decide)
  have hlt2 := kz_ab_lt (rc := rc) (R := 72) (v := fun k => g (at' + k)) (by decide) hlt 32
  generalize kz_ab rc 72 (fun k => g (at' + k)) U 32 = V at p5 e5 hlt2 ⊢
  obtain ⟨l3, m3, c3, p3, e3⟩ := kz_finish (rc := rc) (moved := m5) (columns := c5) (sf := 6) hT (by decide) (by decide) hlt2 e5
  obtain ⟨l4, m4, c4, h4, p4, e4, b4⟩ := kz_give (rc := rc) (moved := m3) (columns := c3) (f := seeds) (R := 72) (at' := 0) (n := 64) (n1 := 64) (u := kz_fin rc 72 6 V) hT (by decide) (by decide) (by rw [kz_fin0]; decide) e3 (by decide) (by decide) (by decide)
  rw [kz_fin0] at p4
  generalize nI (kz_gv rc 72 (kz_fin rc 72 6 V) 64).2 = pl at p4
  refine ⟨pl, l4, m4, c4, h4, ?_, fun k hk => by rw [b4 k, if_pos ⟨by omega, by omega⟩, Nat.sub_zero]⟩
  unfold kFX1_deriveSeeds
  refine (kb_o_v p1).trans ?_
  refine (kb_o_v p2).trans ?_
  refine (kb_o_v p5).trans ?_
  refine (kb_o_v p3).trans ?_
  exact kb_o_v p4
/-- the bytes of the noise number b under a seed s -/
def kz_nb (rc : Nat → Int64) (s : Nat → Int32) (b : Nat) : Nat → Nat := kz_gb rc 136 (kz_fin rc 136 31 (kz_ab1 rc 136 (nI b) (kz_ab rc 136 s kz_z 32)))
def kz_np (rc : Nat → Int64) (s : Nat → Int32) (e b : Nat) (i : Nat) : Nat := kz_no e (kz_tk 8 (kz_nb rc s b) (2 * e * i) (2 * e))
theorem kz_fillNoise {rc lanes moved columns : Nat → Int64} {turns targets counters nbytes seeds f : Nat → Int32} {e b : Nat} (hT : kz_tab turns targets) (he : e ∈ [2, 3]) (hb : b < 128) :
    ∃ pl l' m' c' ct' nb' f', kFX1_fillWithNoise (nI e) (nI b) 256 lanes moved columns turns targets rc counters nbytes seeds f = some (pl, (136 : Int32), l', m', c', ct', nb', f') ∧ kz_R (kz_np rc (fun k => seeds (32 + k)) e b) f' := by
  have he2 : 2 ≤ e ∧ e ≤ 3 := by
    simp only [List.mem_cons, List.not_mem_nil, or_false] at he
    omega
  obtain ⟨l1, p1, e1⟩ := kz_start lanes (136 : Int32)
  obtain ⟨l2, m2, c2, p2, e2⟩ := kz_take (rc := rc) (moved := moved) (columns := columns) (f := seeds) (R := 136) (at' := 32) (n := 32) (n1 := 64) (u := kz_z) hT (by decide) (by decide) (by decide) e1 (by decide) (by decide) (by decide)
  have hlt := kz_ab_lt (rc := rc) (R := 136) (v := fun k => seeds (32 + k)) (u := kz_z) (by decide) (by decide) 32
  obtain ⟨l5, m5, c5, p5, e5⟩ := kz_take (rc := rc) (moved := m2) (columns := c2) (f := upd counters 0 (nI b)) (R := 136) (at' := 0) (n := 1) (n1 := 2) hT (by decide) (by decide) hlt e2 (by decide) (by decide) (by decide)
  have h1 : kz_ab rc 136 (fun k => upd counters 0 (nI b) (0 + k)) (kz_ab rc 136 (fun k => seeds (32 + k)) kz_z 32) 1 = kz_ab1 rc 136 (nI b) (kz_ab rc 136 (fun k => seeds (32 + k)) kz_z 32) := by
    show kz_ab1 rc 136 (upd counters 0 (nI b) 0) (kz_ab rc 136 (fun k => seeds (32 + k)) kz_z 32) = _
    rw [pk_us]
  rw [h1] at p5 e5
  have hlt2 := kz_ab1_lt (rc := rc) (v := nI b) (by decide) hlt
  have hnb : kz_nb rc (fun k => seeds (32 + k)) b = kz_gb rc 136 (kz_fin rc 136 31 (kz_ab1 rc 136 (nI b) (kz_ab rc 136 (fun k => seeds (32 + k)) kz_z 32))) := rfl
  unfold kz_np
  rw [hnb]
  generalize kz_ab1 rc 136 (nI b) (kz_ab rc 136 (fun k => seeds (32 + k)) kz_z 32) = V at p5 e5 hlt2 ⊢
  generalize kz_ab rc 136 (fun k => seeds (32 + k)) kz_z 32 = U at p2 p5
  obtain ⟨l3, m3, c3, p3, e3⟩ := kz_finish (rc := rc) (moved := m5) (columns := c5) (sf := 31) hT (by decide) (by decide) hlt2 e5
  obtain ⟨l4, m4, c4, h4, p4, e4, b4⟩ := kz_give (rc := rc) (moved := m3) (columns := c3) (f := nbytes) (R := 136) (at' := 0) (n := 64 * e) (n1 := 192) (u := kz_fin rc 136 31 V) hT (by decide) (by decide) (by rw [kz_fin0]; decide) e3 (by omega) (by decide) (by omega)
  rw [kz_fin0] at p4
  generalize nI (kz_gv rc 136 (kz_fin rc 136 31 V) (64 * e)).2 = pl at p4
  have hY : kz_Y (kz_gb rc 136 (kz_fin rc 136 31 V)) h4 0 (0 + 32 * (2 * e)) := fun i _ hi => ⟨kz_gb_lt _ _ _ _, by rw [b4 i, if_pos ⟨by omega, by omega⟩, Nat.sub_zero]⟩
  obtain ⟨f5, p6, b6⟩ := kz_unpack (n := 192) (g := f) hY (by omega) (by omega) (by omega) (by decide)
  obtain ⟨f7, p7, b7⟩ := kz_noise86 (a := fun i => kz_tk 8 (kz_gb rc 136 (kz_fin rc 136 31 V)) (8 * 0 + 2 * e * i) (2 * e)) he (fun i hi => ⟨kz_tk_lt _ _ _ _, b6 i hi⟩)
  refine ⟨pl, l4, m4, c4, upd counters 0 (nI b), h4, f7, ?_, kz_R_c b7 (fun i _ => by rw [Nat.mul_zero, Nat.zero_add])⟩
  unfold kFX1_fillWithNoise
  refine (kb_o_v p1).trans ?_
  refine (kb_o_v p2).trans ?_
  refine (kb_n_v (v := upd counters 0 (nI b)) ?_).trans ?_
  · rw [pk_vb, show (nI b).toInt8.toInt32 = nI b from kz_by_s b hb]
    rfl
  refine (kb_o_v p5).trans ?_
  refine (kb_o_v p3).trans ?_
  dsimp only
  rw [show (64 : Int32) * nI e = nI (64 * e) from pk_mul _ _, show (2 : Int32) * nI e = nI (2 * e) from pk_mul _ _]
  refine (kb_o_v p4).trans ?_
  refine (kb_o_v p6).trans ?_
  exact kb_o_v p7
