/-! what the reference's methods answer, readings, second (printed by program) -/
section MS
variable {E : q_E} {h : q_H} {am : Nat} {M : q_Im}
/-- a loop over n places from k on, with one number kept -/
def lpI (g : Int → Int → Int) : Nat → Int → Int → Int
  | 0, _, a => a
  | n + 1, k, a => lpI g n (k + 1) (g k a)
def sto (s : Int → Int) (o : Int) : Int := if 0 ≤ ob s o 4 then 2 else if 0 ≤ ob s o 3 then 1 else 0
abbrev ldd (s : Int → Int) (r : Int) : Prop := 0 ≤ rb s r 2 ∧ 0 < ob s (rb s r 2) 2
def mst (w : Int) : Int := if w = 0 then 20 else if w = 1 then 3 else 30
def ccl (s : Int → Int) : Int := lpI (fun k a => a + s (56 + k)) (cs s).toNat 0 0
def exI (P : Int → Prop) (n : Nat) (k : Int) : Prop := ∃ t, (k ≤ t ∧ t < k + n) ∧ P t
theorem exI_0 {P : Int → Prop} {k : Int} : ¬ exI P 0 k := fun ⟨t, h, _⟩ => by omega
theorem exI_s {P : Int → Prop} {n : Nat} {k : Int} : exI P (n + 1) k ↔ P k ∨ exI P n (k + 1) := by
  constructor
  · rintro ⟨t, h, p⟩
    by_cases e : t = k
    · exact .inl (e ▸ p)
    · exact .inr ⟨t, by omega, p⟩
  · rintro (p | ⟨t, h, p⟩)
    · exact ⟨k, by omega, p⟩
    · exact ⟨t, by omega, p⟩
/-- the least robot but one that is in a cell at a tick from one on -/
abbrev wbA (s : Int → Int) (cell fr but r : Int) : Prop := (∃ t, (fr ≤ t ∧ t ≤ 31) ∧ ahd s r t = cell) ∧ r ≠ but
noncomputable def wbe (s : Int → Int) (cell fr but : Int) : Int := fnd (wbA s cell fr but) (s 3).toNat 0
abbrev okR (s : Int → Int) (robot fr to t r : Int) : Prop := r = robot ∨ (¬ ahd s r (t + 1) = to ∧ ¬ (ahd s r (t + 1) = fr ∧ ahd s r t = to))
abbrev mgo (s : Int → Int) (robot fr to t : Int) : Prop := ent s to ∧ ∀ r, 0 ≤ r → r < s 3 → okR s robot fr to t r
noncomputable def rin (s : Int → Int) (cell t : Int) : Int := fnd (fun r => ahd s r t = cell) (s 3).toNat 0
def ovR (s : Int → Int) (w : Int) : Int := lpI (fun k a => a + rb s k w) (s 3).toNat 0 0
def ovO (s : Int → Int) (st : Int) : Int := lpI (fun k a => a + (if st < 0 then ob s k 2 else if sto s k = st then 1 else 0)) (s 4).toNat 0 0
theorem sto_r {s : Int → Int} {o : Int} : 0 ≤ sto s o ∧ sto s o ≤ 2 := by
  unfold sto
  split
  · omega
  · split <;> omega
abbrev ahO (s : Int → Int) (x y : Int) : Prop := ob s x 0 < ob s y 0 ∨ (ob s x 0 = ob s y 0 ∧ (ob s x 1 - ob s x 2 > ob s y 1 - ob s y 2 ∨ (ob s x 1 - ob s x 2 = ob s y 1 - ob s y 2 ∧ x < y)))
abbrev alI (P : Int → Prop) (lo hi : Int) : Prop := ∀ x, lo ≤ x → x < hi → P x
theorem alI_0 {P : Int → Prop} {lo hi : Int} (h : hi ≤ lo) : alI P lo hi := fun x a b => by omega
theorem alI_s {P : Int → Prop} {lo hi : Int} (h : lo < hi) : alI P lo hi ↔ P lo ∧ alI P (lo + 1) hi := by
  constructor
  · intro k
    exact ⟨k lo (by omega) h, fun x a b => k x (by omega) b⟩
  · rintro ⟨p, k⟩ x a b
    by_cases e : x = lo
    · exact e ▸ p
    · exact k x (by omega) b
theorem fnd_r {P : Int → Prop} : ∀ {n : Nat} {k : Int}, fnd P n k = -1 ∨ (k ≤ fnd P n k ∧ fnd P n k < k + n)
  | 0, k => .inl rfl
  | n + 1, k => by
    by_cases h : P k
    · rw [fnd_t h]; omega
    · rw [fnd_f h]
      have := @fnd_r P n (k + 1)
      omega
theorem ahd_0 {s : Int → Int} {r : Int} : ahd s r 0 = rb s r 0 := by
  unfold ahd ahf
  exact if_pos (.inl rfl)
theorem S_X8_stateOf (hR : Rg (M 1)) {o : Int} (h1 : isO (M 1) o) : q_cl E q_m_X8_stateOf [Value.ref am, Value.int (zi o)] (q_mw h am M) = some (.inl (some (Value.int (zi (sto (M 1) o)))), (q_mw h am M)) := by
  show q_ex E q_m_X8_stateOf 0 [Value.ref am, Value.int (zi o)] [] (q_mw h am M) = _
  obtain ⟨hr, g0, g1, g3, g4, gc, g5, g6, g7, gk, gl, gr, go⟩ := id hR
  refine Eq.trans (x_aload_n 1 d_X8_stateOf_0 rfl rfl) ?_
  refine Eq.trans (x_iload_n 2 d_X8_stateOf_1 rfl rfl) ?_
  refine Eq.trans (x_iconst 3 d_X8_stateOf_2 rfl) ?_
  refine Eq.trans (x_inv1 6 (as := [Value.int (zi o), Value.int (zi 4)]) d_X8_stateOf_3 rfl c_8_109 rfl (Nat.le_of_ble_eq_true rfl) (Nat.le_of_ble_eq_true rfl) m_o (Nat.le_of_ble_eq_true rfl) (Nat.le_of_ble_eq_true rfl) rfl (S_X8_get hR (by omega) (by omega) (by omega) (by omega))) ?_
  have q1 : -1000000 ≤ ob (M 1) o 4 ∧ ob (M 1) o 4 ≤ 1000000 := hr _
  refine x_if_lt 13 9 d_X8_stateOf_6 rfl rfl (by omega) (by omega) (fun k6 => ?_) (fun k6 => ?_)
  · refine Eq.trans (x_aload_n 14 d_X8_stateOf_13 rfl rfl) ?_
    refine Eq.trans (x_iload_n 15 d_X8_stateOf_14 rfl rfl) ?_
    refine Eq.trans (x_iconst 16 d_X8_stateOf_15 rfl) ?_
    refine Eq.trans (x_inv1 19 (as := [Value.int (zi o), Value.int (zi 3)]) d_X8_stateOf_16 rfl c_8_109 rfl (Nat.le_of_ble_eq_true rfl) (Nat.le_of_ble_eq_true rfl) m_o (Nat.le_of_ble_eq_true rfl) (Nat.le_of_ble_eq_true rfl) rfl (S_X8_get hR (by omega) (by omega) (by omega) (by omega))) ?_
    have q2 : -1000000 ≤ ob (M 1) o 3 ∧ ob (M 1) o 3 ≤ 1000000 := hr _
    refine x_if_lt 26 22 d_X8_stateOf_19 rfl rfl (by omega) (by omega) (fun k19 => ?_) (fun k19 => ?_)
    · refine Eq.trans (x_iconst 27 d_X8_stateOf_26 rfl) ?_
      refine Eq.trans (x_ireturn d_X8_stateOf_27 rfl rfl) (lf ?_)
      (unfold sto; repeat (first | rw [if_pos (by omega)] | rw [if_neg (by omega)]))
    · refine Eq.trans (x_iconst 23 d_X8_stateOf_22 rfl) ?_
      refine Eq.trans (x_goto 27 d_X8_stateOf_23 rfl) ?_
      refine Eq.trans (x_ireturn d_X8_stateOf_27 rfl rfl) (lf ?_)
      (unfold sto; repeat (first | rw [if_pos (by omega)] | rw [if_neg (by omega)]))
  · refine Eq.trans (x_iconst 10 d_X8_stateOf_9 rfl) ?_
    refine Eq.trans (x_goto 27 d_X8_stateOf_10 rfl) ?_
    refine Eq.trans (x_ireturn d_X8_stateOf_27 rfl rfl) (lf ?_)
    (unfold sto; repeat (first | rw [if_pos (by omega)] | rw [if_neg (by omega)]))
theorem S_X8_isLoaded (hR : Rg (M 1)) {r : Int} (h1 : isR (M 1) r) : q_cl E q_m_X8_isLoaded [Value.ref am, Value.int (zi r)] (q_mw h am M) = some (.inl (some (Value.int (zi (bI (ldd (M 1) r))))), (q_mw h am M)) := by
  show q_ex E q_m_X8_isLoaded 0 [Value.ref am, Value.int (zi r)] [] (q_mw h am M) = _
  obtain ⟨hr, g0, g1, g3, g4, gc, g5, g6, g7, gk, gl, gr, go⟩ := id hR
  have gq := gr r h1.1 h1.2
  refine Eq.trans (x_aload_n 1 d_X8_isLoaded_0 rfl rfl) ?_
  refine Eq.trans (x_iload_n 2 d_X8_isLoaded_1 rfl rfl) ?_
  refine Eq.trans (x_iconst 3 d_X8_isLoaded_2 rfl) ?_
  refine Eq.trans (x_inv1 6 (as := [Value.int (zi r), Value.int (zi 2)]) d_X8_isLoaded_3 rfl c_8_79 rfl (Nat.le_of_ble_eq_true rfl) (Nat.le_of_ble_eq_true rfl) m_o (Nat.le_of_ble_eq_true rfl) (Nat.le_of_ble_eq_true rfl) rfl (S_X8_of hR (by omega) (by omega) (by omega) (by omega))) ?_
  have q1 : -1000000 ≤ rb (M 1) r 2 ∧ rb (M 1) r 2 ≤ 1000000 := hr _
  refine x_if_lt 27 9 d_X8_isLoaded_6 rfl rfl (by omega) (by omega) (fun k6 => ?_) (fun k6 => ?_)
  · refine Eq.trans (x_iconst 28 d_X8_isLoaded_27 rfl) ?_
    refine Eq.trans (x_ireturn d_X8_isLoaded_28 rfl rfl) (lf ?_)
    exact (bI_f (by omega)).symm
  · refine Eq.trans (x_aload_n 10 d_X8_isLoaded_9 rfl rfl) ?_
    refine Eq.trans (x_aload_n 11 d_X8_isLoaded_10 rfl rfl) ?_
    refine Eq.trans (x_iload_n 12 d_X8_isLoaded_11 rfl rfl) ?_
    refine Eq.trans (x_iconst 13 d_X8_isLoaded_12 rfl) ?_
    refine Eq.trans (x_inv1 16 (as := [Value.int (zi r), Value.int (zi 2)]) d_X8_isLoaded_13 rfl c_8_79 rfl (Nat.le_of_ble_eq_true rfl) (Nat.le_of_ble_eq_true rfl) m_o (Nat.le_of_ble_eq_true rfl) (Nat.le_of_ble_eq_true rfl) rfl (S_X8_of hR (by omega) (by omega) (by omega) (by omega))) ?_
    have q2 : -1000000 ≤ rb (M 1) r 2 ∧ rb (M 1) r 2 ≤ 1000000 := hr _
    refine Eq.trans (x_iconst 17 d_X8_isLoaded_16 rfl) ?_
    refine Eq.trans (x_inv1 20 (as := [Value.int (zi (rb (M 1) r 2)), Value.int (zi 2)]) d_X8_isLoaded_17 rfl c_8_109 rfl (Nat.le_of_ble_eq_true rfl) (Nat.le_of_ble_eq_true rfl) m_o (Nat.le_of_ble_eq_true rfl) (Nat.le_of_ble_eq_true rfl) rfl (S_X8_get hR (by omega) (by omega) (by omega) (by omega))) ?_
    have q3 : -1000000 ≤ ob (M 1) (rb (M 1) r 2) 2 ∧ ob (M 1) (rb (M 1) r 2) 2 ≤ 1000000 := hr _
    refine x_if_le 27 23 d_X8_isLoaded_20 rfl rfl (by omega) (by omega) (fun k20 => ?_) (fun k20 => ?_)
    · refine Eq.trans (x_iconst 28 d_X8_isLoaded_27 rfl) ?_
      refine Eq.trans (x_ireturn d_X8_isLoaded_28 rfl rfl) (lf ?_)
      exact (bI_f (by omega)).symm
    · refine Eq.trans (x_iconst 24 d_X8_isLoaded_23 rfl) ?_
      refine Eq.trans (x_goto 28 d_X8_isLoaded_24 rfl) ?_
      refine Eq.trans (x_ireturn d_X8_isLoaded_28 rfl rfl) (lf ?_)
      exact (bI_t (by omega)).symm
theorem S_X8_mostOf {w : Int} (hw : -2147483648 ≤ w) (jw : w < 2147483648) : q_cl E q_m_X8_mostOf [Value.int (zi w)] (q_mw h am M) = some (.inl (some (Value.int (zi (mst w)))), (q_mw h am M)) := by
  show q_ex E q_m_X8_mostOf 0 [Value.int (zi w)] [] (q_mw h am M) = _
  refine Eq.trans (x_iload_n 1 d_X8_mostOf_0 rfl rfl) ?_
  refine x_if_ne 9 4 d_X8_mostOf_1 rfl rfl (by omega) (by omega) (fun k1 => ?_) (fun k1 => ?_)
  · refine Eq.trans (x_iload_n 10 d_X8_mostOf_9 rfl rfl) ?_
    refine Eq.trans (x_iconst 11 d_X8_mostOf_10 rfl) ?_
    refine x_icmp_ne 18 14 d_X8_mostOf_11 rfl rfl (by omega) (by omega) (by omega) (by omega) (fun k11 => ?_) (fun k11 => ?_)
    · refine Eq.trans (x_bipush 20 d_X8_mostOf_18 rfl rfl) ?_
      refine Eq.trans (x_ireturn d_X8_mostOf_20 rfl rfl) (lf ?_)
      (unfold mst; repeat (first | rw [if_pos (by omega)] | rw [if_neg (by omega)]))
    · refine Eq.trans (x_iconst 15 d_X8_mostOf_14 rfl) ?_
      refine Eq.trans (x_goto 20 d_X8_mostOf_15 rfl) ?_
      refine Eq.trans (x_ireturn d_X8_mostOf_20 rfl rfl) (lf ?_)
      (unfold mst; repeat (first | rw [if_pos (by omega)] | rw [if_neg (by omega)]))
  · refine Eq.trans (x_bipush 6 d_X8_mostOf_4 rfl rfl) ?_
    refine Eq.trans (x_goto 20 d_X8_mostOf_6 rfl) ?_
    refine Eq.trans (x_ireturn d_X8_mostOf_20 rfl rfl) (lf ?_)
    (unfold mst; repeat (first | rw [if_pos (by omega)] | rw [if_neg (by omega)]))
theorem S_X8_thrown  : q_cl E q_m_X8_thrown [Value.ref am] (q_mw h am M) = some (.inl (some (Value.int (zi (M 0 5)))), (q_mw h am M)) := by
  show q_ex E q_m_X8_thrown 0 [Value.ref am] [] (q_mw h am M) = _
  refine Eq.trans (x_aload_n 1 d_X8_thrown_0 rfl rfl) ?_
  refine Eq.trans (x_getfield 4 d_X8_thrown_1 rfl f_8_49 (Nat.le_of_ble_eq_true rfl) (Nat.le_of_ble_eq_true rfl) ((q_gf_of m_o rfl : q_gf _ _ 8 5 = some (Value.int (zi (M 0 5)))))) ?_
  refine Eq.trans (x_ireturn d_X8_thrown_4 rfl rfl) (lf ?_)
  rfl
theorem L_X8_closedCells (hR : Rg (M 1)) : ∀ (n : Nat) (k : Int) (a : Int), (k + n = cs (M 1)) → (0 ≤ k) → q_ex E q_m_X8_closedCells 4 [Value.ref am, Value.int (zi a), Value.int (zi k)] [] (q_mw h am M) = some (.inl (some (Value.int (zi (lpI (fun k a => a + M 1 (56 + k)) n k a)))), q_mw h am M) := by
  obtain ⟨hr, g0, g1, g3, g4, gc, g5, g6, g7, gk, gl, gr, go⟩ := id hR
  intro n
  induction n with
  | zero =>
    intro k a e h0
    refine Eq.trans (x_iload_n 5 d_X8_closedCells_4 rfl rfl) ?_
    refine Eq.trans (x_aload_n 6 d_X8_closedCells_5 rfl rfl) ?_
    refine Eq.trans (x_inv1 9 (as := []) d_X8_closedCells_6 rfl c_8_67 rfl (Nat.le_of_ble_eq_true rfl) (Nat.le_of_ble_eq_true rfl) m_o (Nat.le_of_ble_eq_true rfl) (Nat.le_of_ble_eq_true rfl) rfl (S_X8_cells hR)) ?_
    refine x_icmp_ge 30 12 d_X8_closedCells_9 rfl rfl (by omega) (by omega) (by omega) (by omega) (fun k9 => ?_) (fun k9 => ?_)
    · refine Eq.trans (x_iload_n 31 d_X8_closedCells_30 rfl rfl) ?_
      refine Eq.trans (x_ireturn d_X8_closedCells_31 rfl rfl) (lf ?_)
      rfl
    · omega
  | succ n ih =>
    intro k a e h0
    refine Eq.trans (x_iload_n 5 d_X8_closedCells_4 rfl rfl) ?_
    refine Eq.trans (x_aload_n 6 d_X8_closedCells_5 rfl rfl) ?_
    refine Eq.trans (x_inv1 9 (as := []) d_X8_closedCells_6 rfl c_8_67 rfl (Nat.le_of_ble_eq_true rfl) (Nat.le_of_ble_eq_true rfl) m_o (Nat.le_of_ble_eq_true rfl) (Nat.le_of_ble_eq_true rfl) rfl (S_X8_cells hR)) ?_
    refine x_icmp_ge 30 12 d_X8_closedCells_9 rfl rfl (by omega) (by omega) (by omega) (by omega) (fun k9 => ?_) (fun k9 => ?_)
    · omega
    · refine Eq.trans (x_iload_n 13 d_X8_closedCells_12 rfl rfl) ?_
      refine Eq.trans (x_aload_n 14 d_X8_closedCells_13 rfl rfl) ?_
      refine Eq.trans (x_getfield 17 d_X8_closedCells_14 rfl f_8_9 (Nat.le_of_ble_eq_true rfl) (Nat.le_of_ble_eq_true rfl) (q_gf_of m_o rfl)) ?_
      refine Eq.trans (x_bipush 19 d_X8_closedCells_17 rfl rfl) ?_
      refine Eq.trans (x_iload_n 20 d_X8_closedCells_19 rfl rfl) ?_
      refine Eq.trans (x_iadd 21 d_X8_closedCells_20 rfl) ?_
      refine Eq.trans (x_iaload 22 d_X8_closedCells_21 rfl ((m_g1 (by omega) (by omega)).trans (rfl : _ = some (Value.int (zi ((M 1) (56 + k))))))) ?_
      have q1 : -1000000 ≤ (M 1) (56 + k) ∧ (M 1) (56 + k) ≤ 1000000 := hr _
      refine Eq.trans (x_iadd 23 d_X8_closedCells_22 rfl) ?_
      refine Eq.trans (x_istore_n 24 d_X8_closedCells_23 rfl (Nat.le_of_ble_eq_true rfl)) ?_
      show q_ex E q_m_X8_closedCells 24 [Value.ref am, Value.int (zi (a + ((M 1) (56 + k)))), Value.int (zi k)] [] (q_mw h am M) = _
      refine Eq.trans (x_iinc 27 d_X8_closedCells_24 rfl rfl) ?_
      show q_ex E q_m_X8_closedCells 27 [Value.ref am, Value.int (zi (a + ((M 1) (56 + k)))), Value.int (zi (k + 1))] [] (q_mw h am M) = _
      refine Eq.trans (x_goto 4 d_X8_closedCells_27 rfl) ?_
      exact ih (k + 1) (a + M 1 (56 + k)) (by omega) (by omega)
theorem S_X8_closedCells (hR : Rg (M 1)) : q_cl E q_m_X8_closedCells [Value.ref am] (q_mw h am M) = some (.inl (some (Value.int (zi (ccl (M 1))))), (q_mw h am M)) := by
  show q_ex E q_m_X8_closedCells 0 [Value.ref am, Value.null, Value.null] [] (q_mw h am M) = _
  obtain ⟨hr, g0, g1, g3, g4, gc, g5, g6, g7, gk, gl, gr, go⟩ := id hR
  refine Eq.trans (x_iconst 1 d_X8_closedCells_0 rfl) ?_
  refine Eq.trans (x_istore_n 2 d_X8_closedCells_1 rfl (Nat.le_of_ble_eq_true rfl)) ?_
  show q_ex E q_m_X8_closedCells 2 [Value.ref am, Value.int (zi 0), Value.null] [] (q_mw h am M) = _
  refine Eq.trans (x_iconst 3 d_X8_closedCells_2 rfl) ?_
  refine Eq.trans (x_istore_n 4 d_X8_closedCells_3 rfl (Nat.le_of_ble_eq_true rfl)) ?_
  show q_ex E q_m_X8_closedCells 4 [Value.ref am, Value.int (zi 0), Value.int (zi 0)] [] (q_mw h am M) = _
  exact L_X8_closedCells hR (cs (M 1)).toNat 0 0 (by omega) (by omega)
theorem bes_f {s0 s1 c : Int} (h0 : 1 ≤ s0) (h1 : 2 ≤ s1) (hc : 0 ≤ c) (hd : c < s0 * s1) : (0 ≤ c / s1 ∧ c / s1 < s0) ∧ (0 ≤ c % s1 ∧ c % s1 < s1) ∧ s1 * (c / s1) + c % s1 = c ∧ (s1 * (c / s1 + -1) = s1 * (c / s1) - s1) ∧ (s1 * (c / s1 + 1) = s1 * (c / s1) + s1) ∧ (c / s1 = 0 → s1 * (c / s1) = 0) ∧ (1 ≤ c / s1 → s1 ≤ s1 * (c / s1)) ∧ (c / s1 + 1 < s0 → s1 * (c / s1) + s1 + s1 ≤ s0 * s1) ∧ (c / s1 + 1 = s0 → s1 * (c / s1) + s1 = s0 * s1) := by
  have e := Int.mul_ediv_add_emod c s1
  have a1 : 0 ≤ c / s1 := Int.ediv_nonneg hc (by omega)
  have a2 : c / s1 < s0 := Int.ediv_lt_of_lt_mul (by omega) hd
  have a3 : 0 ≤ c % s1 := Int.emod_nonneg c (by omega)
  have a4 : c % s1 < s1 := Int.emod_lt_of_pos c (by omega)
  generalize hq : c / s1 = q at *
  generalize hm : c % s1 = m at *
  refine ⟨⟨a1, a2⟩, ⟨a3, a4⟩, e, by rw [Int.mul_add]; omega, by rw [Int.mul_add]; omega, fun h => by rw [h, Int.mul_zero], fun h => ?_, fun h => ?_, fun h => ?_⟩
  · have := Int.mul_le_mul_of_nonneg_left h (show 0 ≤ s1 by omega)
    omega
  · have := Int.mul_le_mul_of_nonneg_left (show q + 2 ≤ s0 by omega) (show 0 ≤ s1 by omega)
    rw [Int.mul_add] at this
    rw [Int.mul_comm s0]
    omega
  · have : s1 * (q + 1) = s1 * s0 := by rw [h]
    rw [Int.mul_add] at this
    rw [Int.mul_comm s0]
    omega
theorem bes_r {s : Int → Int} (hR : Rg s) {c w : Int} (h1 : isC s c) : bes s c w = -1 ∨ (0 ≤ bes s c w ∧ bes s c w < cs s) := by
  obtain ⟨hr, g0, g1, g3, g4, gc, g5, g6, g7, gk, gl, gr, go⟩ := id hR
  obtain ⟨a1, a2, a3, a4, a5, a6, a7, a8, a9⟩ := bes_f g0.1 g1.1 h1.1 h1.2
  unfold cs at *
  unfold bes
  unfold cs
  repeat' split
  all_goals omega
theorem S_X8_beside (hR : Rg (M 1)) {c w : Int} (h1 : isC (M 1) c) (h2 : 0 ≤ w) (h3 : w ≤ 4) : q_cl E q_m_X8_beside [Value.ref am, Value.int (zi c), Value.int (zi w)] (q_mw h am M) = some (.inl (some (Value.int (zi (bes (M 1) c w)))), (q_mw h am M)) := by
  show q_ex E q_m_X8_beside 0 [Value.ref am, Value.int (zi c), Value.int (zi w), Value.null, Value.null] [] (q_mw h am M) = _
  obtain ⟨hr, g0, g1, g3, g4, gc, g5, g6, g7, gk, gl, gr, go⟩ := id hR
  obtain ⟨a1, a2, a3, a4, a5, a6, a7, a8, a9⟩ := bes_f g0.1 g1.1 h1.1 h1.2
  have ac : cs (M 1) = M 1 0 * M 1 1 := rfl
  have ad : M 1 1 * (c / M 1 1 + 0) = M 1 1 * (c / M 1 1) := by rw [Int.add_zero]
  refine Eq.trans (x_iload_n 1 d_X8_beside_0 rfl rfl) ?_
  refine Eq.trans (x_aload_n 2 d_X8_beside_1 rfl rfl) ?_
  refine Eq.trans (x_getfield 5 d_X8_beside_2 rfl f_8_9 (Nat.le_of_ble_eq_true rfl) (Nat.le_of_ble_eq_true rfl) (q_gf_of m_o rfl)) ?_
  refine Eq.trans (x_iconst 6 d_X8_beside_5 rfl) ?_
  refine Eq.trans (x_iaload 7 d_X8_beside_6 rfl ((m_g1 (by omega) (by omega)).trans (rfl : _ = some (Value.int (zi ((M 1) 1)))))) ?_
  have q1 : -1000000 ≤ (M 1) 1 ∧ (M 1) 1 ≤ 1000000 := hr _
  refine Eq.trans (x_idiv 8 d_X8_beside_7 rfl (by omega) (by omega) (by omega) (by omega)) ?_
  refine Eq.trans (x_istore_n 9 d_X8_beside_8 rfl (Nat.le_of_ble_eq_true rfl)) ?_
  show q_ex E q_m_X8_beside 9 [Value.ref am, Value.int (zi c), Value.int (zi w), Value.int (zi (c / ((M 1) 1))), Value.null] [] (q_mw h am M) = _
  refine Eq.trans (x_iload_n 10 d_X8_beside_9 rfl rfl) ?_
  refine Eq.trans (x_aload_n 11 d_X8_beside_10 rfl rfl) ?_
  refine Eq.trans (x_getfield 14 d_X8_beside_11 rfl f_8_9 (Nat.le_of_ble_eq_true rfl) (Nat.le_of_ble_eq_true rfl) (q_gf_of m_o rfl)) ?_
  refine Eq.trans (x_iconst 15 d_X8_beside_14 rfl) ?_
  refine Eq.trans (x_iaload 16 d_X8_beside_15 rfl ((m_g1 (by omega) (by omega)).trans (rfl : _ = some (Value.int (zi ((M 1) 1)))))) ?_
  have q2 : -1000000 ≤ (M 1) 1 ∧ (M 1) 1 ≤ 1000000 := hr _
  refine Eq.trans (x_irem 17 d_X8_beside_16 rfl (by omega) (by omega) (by omega) (by omega)) ?_
  refine Eq.trans (x_istore 19 d_X8_beside_17 rfl (Nat.le_of_ble_eq_true rfl)) ?_
  show q_ex E q_m_X8_beside 19 [Value.ref am, Value.int (zi c), Value.int (zi w), Value.int (zi (c / ((M 1) 1))), Value.int (zi (c % ((M 1) 1)))] [] (q_mw h am M) = _
  refine Eq.trans (x_iload_n 20 d_X8_beside_19 rfl rfl) ?_
  refine Eq.trans (x_iload_n 21 d_X8_beside_20 rfl rfl) ?_
  refine x_if_ne 28 24 d_X8_beside_21 rfl rfl (by omega) (by omega) (fun k21 => ?_) (fun k21 => ?_)
  · refine Eq.trans (x_iload_n 29 d_X8_beside_28 rfl rfl) ?_
    refine Eq.trans (x_iconst 30 d_X8_beside_29 rfl) ?_
    refine x_icmp_ne 37 33 d_X8_beside_30 rfl rfl (by omega) (by omega) (by omega) (by omega) (fun k30 => ?_) (fun k30 => ?_)
    · refine Eq.trans (x_iconst 38 d_X8_beside_37 rfl) ?_
      refine Eq.trans (x_iadd 39 d_X8_beside_38 rfl) ?_
      refine Eq.trans (x_istore_n 40 d_X8_beside_39 rfl (Nat.le_of_ble_eq_true rfl)) ?_
      show q_ex E q_m_X8_beside 40 [Value.ref am, Value.int (zi c), Value.int (zi w), Value.int (zi ((c / ((M 1) 1)) + 0)), Value.int (zi (c % ((M 1) 1)))] [] (q_mw h am M) = _
      refine Eq.trans (x_iload 42 d_X8_beside_40 rfl rfl) ?_
      refine Eq.trans (x_iload_n 43 d_X8_beside_42 rfl rfl) ?_
      refine Eq.trans (x_iconst 44 d_X8_beside_43 rfl) ?_
      refine x_icmp_ne 51 47 d_X8_beside_44 rfl rfl (by omega) (by omega) (by omega) (by omega) (fun k44 => ?_) (fun k44 => ?_)
      · refine Eq.trans (x_iload_n 52 d_X8_beside_51 rfl rfl) ?_
        refine Eq.trans (x_iconst 53 d_X8_beside_52 rfl) ?_
        refine x_icmp_ne 60 56 d_X8_beside_53 rfl rfl (by omega) (by omega) (by omega) (by omega) (fun k53 => ?_) (fun k53 => ?_)
        · refine Eq.trans (x_iconst 61 d_X8_beside_60 rfl) ?_
          refine Eq.trans (x_iadd 62 d_X8_beside_61 rfl) ?_
          refine Eq.trans (x_istore 64 d_X8_beside_62 rfl (Nat.le_of_ble_eq_true rfl)) ?_
          show q_ex E q_m_X8_beside 64 [Value.ref am, Value.int (zi c), Value.int (zi w), Value.int (zi ((c / ((M 1) 1)) + 0)), Value.int (zi ((c % ((M 1) 1)) + 0))] [] (q_mw h am M) = _
          refine Eq.trans (x_iload_n 65 d_X8_beside_64 rfl rfl) ?_
          refine Eq.trans (x_iconst 66 d_X8_beside_65 rfl) ?_
          refine Eq.trans (x_aload_n 67 d_X8_beside_66 rfl rfl) ?_
          refine Eq.trans (x_getfield 70 d_X8_beside_67 rfl f_8_9 (Nat.le_of_ble_eq_true rfl) (Nat.le_of_ble_eq_true rfl) (q_gf_of m_o rfl)) ?_
          refine Eq.trans (x_iconst 71 d_X8_beside_70 rfl) ?_
          refine Eq.trans (x_iaload 72 d_X8_beside_71 rfl ((m_g1 (by omega) (by omega)).trans (rfl : _ = some (Value.int (zi ((M 1) 0)))))) ?_
          have q3 : -1000000 ≤ (M 1) 0 ∧ (M 1) 0 ≤ 1000000 := hr _
          refine Eq.trans (x_iconst 73 d_X8_beside_72 rfl) ?_
          refine Eq.trans (x_isub 74 d_X8_beside_73 rfl) ?_
          refine Eq.trans (x_ins1 77 (as := [Value.int (zi ((c / ((M 1) 1)) + 0)), Value.int (zi 0), Value.int (zi (((M 1) 0) - 1))]) d_X8_beside_74 rfl c_8_71 rfl (Nat.le_of_ble_eq_true rfl) (Nat.le_of_ble_eq_true rfl) (Nat.le_of_ble_eq_true rfl) rfl (S_X8_in (by omega) (by omega) (by omega) (by omega) (by omega) (by omega))) ?_
          refine x_if_eq 111 80 d_X8_beside_77 rfl rfl (by have := bI_r (inn ((c / ((M 1) 1)) + 0) 0 (((M 1) 0) - 1)); omega) (by have := bI_r (inn ((c / ((M 1) 1)) + 0) 0 (((M 1) 0) - 1)); omega) (fun k77 => ?_) (fun k77 => ?_)
          · replace k77 := bI_0.mp k77
            refine Eq.trans (x_iconst 112 d_X8_beside_111 rfl) ?_
            refine Eq.trans (x_ireturn d_X8_beside_112 rfl rfl) (lf ?_)
            unfold bes; repeat (first | rw [if_pos (by omega)] | rw [if_neg (by omega)]); try omega
          · replace k77 := bI_n0.mp k77
            refine Eq.trans (x_iload 82 d_X8_beside_80 rfl rfl) ?_
            refine Eq.trans (x_iconst 83 d_X8_beside_82 rfl) ?_
            refine Eq.trans (x_aload_n 84 d_X8_beside_83 rfl rfl) ?_
            refine Eq.trans (x_getfield 87 d_X8_beside_84 rfl f_8_9 (Nat.le_of_ble_eq_true rfl) (Nat.le_of_ble_eq_true rfl) (q_gf_of m_o rfl)) ?_
            refine Eq.trans (x_iconst 88 d_X8_beside_87 rfl) ?_
            refine Eq.trans (x_iaload 89 d_X8_beside_88 rfl ((m_g1 (by omega) (by omega)).trans (rfl : _ = some (Value.int (zi ((M 1) 1)))))) ?_
            have q4 : -1000000 ≤ (M 1) 1 ∧ (M 1) 1 ≤ 1000000 := hr _
            refine Eq.trans (x_iconst 90 d_X8_beside_89 rfl) ?_
            refine Eq.trans (x_isub 91 d_X8_beside_90 rfl) ?_
            refine Eq.trans (x_ins1 94 (as := [Value.int (zi ((c % ((M 1) 1)) + 0)), Value.int (zi 0), Value.int (zi (((M 1) 1) - 1))]) d_X8_beside_91 rfl c_8_71 rfl (Nat.le_of_ble_eq_true rfl) (Nat.le_of_ble_eq_true rfl) (Nat.le_of_ble_eq_true rfl) rfl (S_X8_in (by omega) (by omega) (by omega) (by omega) (by omega) (by omega))) ?_
            refine x_if_eq 111 97 d_X8_beside_94 rfl rfl (by have := bI_r (inn ((c % ((M 1) 1)) + 0) 0 (((M 1) 1) - 1)); omega) (by have := bI_r (inn ((c % ((M 1) 1)) + 0) 0 (((M 1) 1) - 1)); omega) (fun k94 => ?_) (fun k94 => ?_)
            · replace k94 := bI_0.mp k94
              refine Eq.trans (x_iconst 112 d_X8_beside_111 rfl) ?_
              refine Eq.trans (x_ireturn d_X8_beside_112 rfl rfl) (lf ?_)
              unfold bes; repeat (first | rw [if_pos (by omega)] | rw [if_neg (by omega)]); try omega
            · replace k94 := bI_n0.mp k94
              refine Eq.trans (x_aload_n 98 d_X8_beside_97 rfl rfl) ?_
              refine Eq.trans (x_getfield 101 d_X8_beside_98 rfl f_8_9 (Nat.le_of_ble_eq_true rfl) (Nat.le_of_ble_eq_true rfl) (q_gf_of m_o rfl)) ?_
              refine Eq.trans (x_iconst 102 d_X8_beside_101 rfl) ?_
              refine Eq.trans (x_iaload 103 d_X8_beside_102 rfl ((m_g1 (by omega) (by omega)).trans (rfl : _ = some (Value.int (zi ((M 1) 1)))))) ?_
              have q5 : -1000000 ≤ (M 1) 1 ∧ (M 1) 1 ≤ 1000000 := hr _
              refine Eq.trans (x_iload_n 104 d_X8_beside_103 rfl rfl) ?_
              refine Eq.trans (x_imul 105 d_X8_beside_104 rfl) ?_
              refine Eq.trans (x_iload 107 d_X8_beside_105 rfl rfl) ?_
              refine Eq.trans (x_iadd 108 d_X8_beside_107 rfl) ?_
              refine Eq.trans (x_goto 112 d_X8_beside_108 rfl) ?_
              refine Eq.trans (x_ireturn d_X8_beside_112 rfl rfl) (lf ?_)
              unfold bes; repeat (first | rw [if_pos (by omega)] | rw [if_neg (by omega)]); try omega
        · refine Eq.trans (x_iconst 57 d_X8_beside_56 rfl) ?_
          refine Eq.trans (x_goto 61 d_X8_beside_57 rfl) ?_
          refine Eq.trans (x_iadd 62 d_X8_beside_61 rfl) ?_
          refine Eq.trans (x_istore 64 d_X8_beside_62 rfl (Nat.le_of_ble_eq_true rfl)) ?_
          show q_ex E q_m_X8_beside 64 [Value.ref am, Value.int (zi c), Value.int (zi w), Value.int (zi ((c / ((M 1) 1)) + 0)), Value.int (zi ((c % ((M 1) 1)) + (-1)))] [] (q_mw h am M) = _
          refine Eq.trans (x_iload_n 65 d_X8_beside_64 rfl rfl) ?_
          refine Eq.trans (x_iconst 66 d_X8_beside_65 rfl) ?_
          refine Eq.trans (x_aload_n 67 d_X8_beside_66 rfl rfl) ?_
          refine Eq.trans (x_getfield 70 d_X8_beside_67 rfl f_8_9 (Nat.le_of_ble_eq_true rfl) (Nat.le_of_ble_eq_true rfl) (q_gf_of m_o rfl)) ?_
          refine Eq.trans (x_iconst 71 d_X8_beside_70 rfl) ?_
          refine Eq.trans (x_iaload 72 d_X8_beside_71 rfl ((m_g1 (by omega) (by omega)).trans (rfl : _ = some (Value.int (zi ((M 1) 0)))))) ?_
          have q6 : -1000000 ≤ (M 1) 0 ∧ (M 1) 0 ≤ 1000000 := hr _
          refine Eq.trans (x_iconst 73 d_X8_beside_72 rfl) ?_
          refine Eq.trans (x_isub 74 d_X8_beside_73 rfl) ?_
          refine Eq.trans (x_ins1 77 (as := [Value.int (zi ((c / ((M 1) 1)) + 0)), Value.int (zi 0), Value.int (zi (((M 1) 0) - 1))]) d_X8_beside_74 rfl c_8_71 rfl (Nat.le_of_ble_eq_true rfl) (Nat.le_of_ble_eq_true rfl) (Nat.le_of_ble_eq_true rfl) rfl (S_X8_in (by omega) (by omega) (by omega) (by omega) (by omega) (by omega))) ?_
          refine x_if_eq 111 80 d_X8_beside_77 rfl rfl (by have := bI_r (inn ((c / ((M 1) 1)) + 0) 0 (((M 1) 0) - 1)); omega) (by have := bI_r (inn ((c / ((M 1) 1)) + 0) 0 (((M 1) 0) - 1)); omega) (fun k77 => ?_) (fun k77 => ?_)
          · replace k77 := bI_0.mp k77
            refine Eq.trans (x_iconst 112 d_X8_beside_111 rfl) ?_
            refine Eq.trans (x_ireturn d_X8_beside_112 rfl rfl) (lf ?_)
            unfold bes; repeat (first | rw [if_pos (by omega)] | rw [if_neg (by omega)]); try omega
          · replace k77 := bI_n0.mp k77
            refine Eq.trans (x_iload 82 d_X8_beside_80 rfl rfl) ?_
            refine Eq.trans (x_iconst 83 d_X8_beside_82 rfl) ?_
            refine Eq.trans (x_aload_n 84 d_X8_beside_83 rfl rfl) ?_
            refine Eq.trans (x_getfield 87 d_X8_beside_84 rfl f_8_9 (Nat.le_of_ble_eq_true rfl) (Nat.le_of_ble_eq_true rfl) (q_gf_of m_o rfl)) ?_
            refine Eq.trans (x_iconst 88 d_X8_beside_87 rfl) ?_
            refine Eq.trans (x_iaload 89 d_X8_beside_88 rfl ((m_g1 (by omega) (by omega)).trans (rfl : _ = some (Value.int (zi ((M 1) 1)))))) ?_
            have q7 : -1000000 ≤ (M 1) 1 ∧ (M 1) 1 ≤ 1000000 := hr _
            refine Eq.trans (x_iconst 90 d_X8_beside_89 rfl) ?_
            refine Eq.trans (x_isub 91 d_X8_beside_90 rfl) ?_
            refine Eq.trans (x_ins1 94 (as := [Value.int (zi ((c % ((M 1) 1)) + (-1))), Value.int (zi 0), Value.int (zi (((M 1) 1) - 1))]) d_X8_beside_91 rfl c_8_71 rfl (Nat.le_of_ble_eq_true rfl) (Nat.le_of_ble_eq_true rfl) (Nat.le_of_ble_eq_true rfl) rfl (S_X8_in (by omega) (by omega) (by omega) (by omega) (by omega) (by omega))) ?_
            refine x_if_eq 111 97 d_X8_beside_94 rfl rfl (by have := bI_r (inn ((c % ((M 1) 1)) + (-1)) 0 (((M 1) 1) - 1)); omega) (by have := bI_r (inn ((c % ((M 1) 1)) + (-1)) 0 (((M 1) 1) - 1)); omega) (fun k94 => ?_) (fun k94 => ?_)
            · replace k94 := bI_0.mp k94
              refine Eq.trans (x_iconst 112 d_X8_beside_111 rfl) ?_
              refine Eq.trans (x_ireturn d_X8_beside_112 rfl rfl) (lf ?_)
              unfold bes; repeat (first | rw [if_pos (by omega)] | rw [if_neg (by omega)]); try omega
            · replace k94 := bI_n0.mp k94
              refine Eq.trans (x_aload_n 98 d_X8_beside_97 rfl rfl) ?_
              refine Eq.trans (x_getfield 101 d_X8_beside_98 rfl f_8_9 (Nat.le_of_ble_eq_true rfl) (Nat.le_of_ble_eq_true rfl) (q_gf_of m_o rfl)) ?_
              refine Eq.trans (x_iconst 102 d_X8_beside_101 rfl) ?_
              refine Eq.trans (x_iaload 103 d_X8_beside_102 rfl ((m_g1 (by omega) (by omega)).trans (rfl : _ = some (Value.int (zi ((M 1) 1)))))) ?_
              have q8 : -1000000 ≤ (M 1) 1 ∧ (M 1) 1 ≤ 1000000 := hr _
              refine Eq.trans (x_iload_n 104 d_X8_beside_103 rfl rfl) ?_
              refine Eq.trans (x_imul 105 d_X8_beside_104 rfl) ?_
              refine Eq.trans (x_iload 107 d_X8_beside_105 rfl rfl) ?_
              refine Eq.trans (x_iadd 108 d_X8_beside_107 rfl) ?_
              refine Eq.trans (x_goto 112 d_X8_beside_108 rfl) ?_
              refine Eq.trans (x_ireturn d_X8_beside_112 rfl rfl) (lf ?_)
              unfold bes; repeat (first | rw [if_pos (by omega)] | rw [if_neg (by omega)]); try omega
      · refine Eq.trans (x_iconst 48 d_X8_beside_47 rfl) ?_
        refine Eq.trans (x_goto 61 d_X8_beside_48 rfl) ?_
        refine Eq.trans (x_iadd 62 d_X8_beside_61 rfl) ?_
        refine Eq.trans (x_istore 64 d_X8_beside_62 rfl (Nat.le_of_ble_eq_true rfl)) ?_
        show q_ex E q_m_X8_beside 64 [Value.ref am, Value.int (zi c), Value.int (zi w), Value.int (zi ((c / ((M 1) 1)) + 0)), Value.int (zi ((c % ((M 1) 1)) + 1))] [] (q_mw h am M) = _
        refine Eq.trans (x_iload_n 65 d_X8_beside_64 rfl rfl) ?_
        refine Eq.trans (x_iconst 66 d_X8_beside_65 rfl) ?_
        refine Eq.trans (x_aload_n 67 d_X8_beside_66 rfl rfl) ?_
        refine Eq.trans (x_getfield 70 d_X8_beside_67 rfl f_8_9 (Nat.le_of_ble_eq_true rfl) (Nat.le_of_ble_eq_true rfl) (q_gf_of m_o rfl)) ?_
        refine Eq.trans (x_iconst 71 d_X8_beside_70 rfl) ?_
        refine Eq.trans (x_iaload 72 d_X8_beside_71 rfl ((m_g1 (by omega) (by omega)).trans (rfl : _ = some (Value.int (zi ((M 1) 0)))))) ?_
        have q9 : -1000000 ≤ (M 1) 0 ∧ (M 1) 0 ≤ 1000000 := hr _
        refine Eq.trans (x_iconst 73 d_X8_beside_72 rfl) ?_
        refine Eq.trans (x_isub 74 d_X8_beside_73 rfl) ?_
        refine Eq.trans (x_ins1 77 (as := [Value.int (zi ((c / ((M 1) 1)) + 0)), Value.int (zi 0), Value.int (zi (((M 1) 0) - 1))]) d_X8_beside_74 rfl c_8_71 rfl (Nat.le_of_ble_eq_true rfl) (Nat.le_of_ble_eq_true rfl) (Nat.le_of_ble_eq_true rfl) rfl (S_X8_in (by omega) (by omega) (by omega) (by omega) (by omega) (by omega))) ?_
        refine x_if_eq 111 80 d_X8_beside_77 rfl rfl (by have := bI_r (inn ((c / ((M 1) 1)) + 0) 0 (((M 1) 0) - 1)); omega) (by have := bI_r (inn ((c / ((M 1) 1)) + 0) 0 (((M 1) 0) - 1)); omega) (fun k77 => ?_) (fun k77 => ?_)
        · replace k77 := bI_0.mp k77
          refine Eq.trans (x_iconst 112 d_X8_beside_111 rfl) ?_
          refine Eq.trans (x_ireturn d_X8_beside_112 rfl rfl) (lf ?_)
          unfold bes; repeat (first | rw [if_pos (by omega)] | rw [if_neg (by omega)]); try omega
        · replace k77 := bI_n0.mp k77
          refine Eq.trans (x_iload 82 d_X8_beside_80 rfl rfl) ?_
          refine Eq.trans (x_iconst 83 d_X8_beside_82 rfl) ?_
          refine Eq.trans (x_aload_n 84 d_X8_beside_83 rfl rfl) ?_
          refine Eq.trans (x_getfield 87 d_X8_beside_84 rfl f_8_9 (Nat.le_of_ble_eq_true rfl) (Nat.le_of_ble_eq_true rfl) (q_gf_of m_o rfl)) ?_
          refine Eq.trans (x_iconst 88 d_X8_beside_87 rfl) ?_
          refine Eq.trans (x_iaload 89 d_X8_beside_88 rfl ((m_g1 (by omega) (by omega)).trans (rfl : _ = some (Value.int (zi ((M 1) 1)))))) ?_
          have q10 : -1000000 ≤ (M 1) 1 ∧ (M 1) 1 ≤ 1000000 := hr _
          refine Eq.trans (x_iconst 90 d_X8_beside_89 rfl) ?_
          refine Eq.trans (x_isub 91 d_X8_beside_90 rfl) ?_
          refine Eq.trans (x_ins1 94 (as := [Value.int (zi ((c % ((M 1) 1)) + 1)), Value.int (zi 0), Value.int (zi (((M 1) 1) - 1))]) d_X8_beside_91 rfl c_8_71 rfl (Nat.le_of_ble_eq_true rfl) (Nat.le_of_ble_eq_true rfl) (Nat.le_of_ble_eq_true rfl) rfl (S_X8_in (by omega) (by omega) (by omega) (by omega) (by omega) (by omega))) ?_
          refine x_if_eq 111 97 d_X8_beside_94 rfl rfl (by have := bI_r (inn ((c % ((M 1) 1)) + 1) 0 (((M 1) 1) - 1)); omega) (by have := bI_r (inn ((c % ((M 1) 1)) + 1) 0 (((M 1) 1) - 1)); omega) (fun k94 => ?_) (fun k94 => ?_)
          · replace k94 := bI_0.mp k94
            refine Eq.trans (x_iconst 112 d_X8_beside_111 rfl) ?_
            refine Eq.trans (x_ireturn d_X8_beside_112 rfl rfl) (lf ?_)
            unfold bes; repeat (first | rw [if_pos (by omega)] | rw [if_neg (by omega)]); try omega
          · replace k94 := bI_n0.mp k94
            refine Eq.trans (x_aload_n 98 d_X8_beside_97 rfl rfl) ?_
            refine Eq.trans (x_getfield 101 d_X8_beside_98 rfl f_8_9 (Nat.le_of_ble_eq_true rfl) (Nat.le_of_ble_eq_true rfl) (q_gf_of m_o rfl)) ?_
            refine Eq.trans (x_iconst 102 d_X8_beside_101 rfl) ?_
            refine Eq.trans (x_iaload 103 d_X8_beside_102 rfl ((m_g1 (by omega) (by omega)).trans (rfl : _ = some (Value.int (zi ((M 1) 1)))))) ?_
            have q11 : -1000000 ≤ (M 1) 1 ∧ (M 1) 1 ≤ 1000000 := hr _
            refine Eq.trans (x_iload_n 104 d_X8_beside_103 rfl rfl) ?_
            refine Eq.trans (x_imul 105 d_X8_beside_104 rfl) ?_
            refine Eq.trans (x_iload 107 d_X8_beside_105 rfl rfl) ?_
            refine Eq.trans (x_iadd 108 d_X8_beside_107 rfl) ?_
            refine Eq.trans (x_goto 112 d_X8_beside_108 rfl) ?_
            refine Eq.trans (x_ireturn d_X8_beside_112 rfl rfl) (lf ?_)
            unfold bes; repeat (first | rw [if_pos (by omega)] | rw [if_neg (by omega)]); try omega
    · refine Eq.trans (x_iconst 34 d_X8_beside_33 rfl) ?_
      refine Eq.trans (x_goto 38 d_X8_beside_34 rfl) ?_
      refine Eq.trans (x_iadd 39 d_X8_beside_38 rfl) ?_
      refine Eq.trans (x_istore_n 40 d_X8_beside_39 rfl (Nat.le_of_ble_eq_true rfl)) ?_
      show q_ex E q_m_X8_beside 40 [Value.ref am, Value.int (zi c), Value.int (zi w), Value.int (zi ((c / ((M 1) 1)) + 1)), Value.int (zi (c % ((M 1) 1)))] [] (q_mw h am M) = _
      refine Eq.trans (x_iload 42 d_X8_beside_40 rfl rfl) ?_
      refine Eq.trans (x_iload_n 43 d_X8_beside_42 rfl rfl) ?_
      refine Eq.trans (x_iconst 44 d_X8_beside_43 rfl) ?_
      refine x_icmp_ne 51 47 d_X8_beside_44 rfl rfl (by omega) (by omega) (by omega) (by omega) (fun k44 => ?_) (fun k44 => ?_)
      · refine Eq.trans (x_iload_n 52 d_X8_beside_51 rfl rfl) ?_
        refine Eq.trans (x_iconst 53 d_X8_beside_52 rfl) ?_
        refine x_icmp_ne 60 56 d_X8_beside_53 rfl rfl (by omega) (by omega) (by omega) (by omega) (fun k53 => ?_) (fun k53 => ?_)
        · refine Eq.trans (x_iconst 61 d_X8_beside_60 rfl) ?_
          refine Eq.trans (x_iadd 62 d_X8_beside_61 rfl) ?_
          refine Eq.trans (x_istore 64 d_X8_beside_62 rfl (Nat.le_of_ble_eq_true rfl)) ?_
          show q_ex E q_m_X8_beside 64 [Value.ref am, Value.int (zi c), Value.int (zi w), Value.int (zi ((c / ((M 1) 1)) + 1)), Value.int (zi ((c % ((M 1) 1)) + 0))] [] (q_mw h am M) = _
          refine Eq.trans (x_iload_n 65 d_X8_beside_64 rfl rfl) ?_
          refine Eq.trans (x_iconst 66 d_X8_beside_65 rfl) ?_
          refine Eq.trans (x_aload_n 67 d_X8_beside_66 rfl rfl) ?_
          refine Eq.trans (x_getfield 70 d_X8_beside_67 rfl f_8_9 (Nat.le_of_ble_eq_true rfl) (Nat.le_of_ble_eq_true rfl) (q_gf_of m_o rfl)) ?_
          refine Eq.trans (x_iconst 71 d_X8_beside_70 rfl) ?_
          refine Eq.trans (x_iaload 72 d_X8_beside_71 rfl ((m_g1 (by omega) (by omega)).trans (rfl : _ = some (Value.int (zi ((M 1) 0)))))) ?_
          have q12 : -1000000 ≤ (M 1) 0 ∧ (M 1) 0 ≤ 1000000 := hr _
          refine Eq.trans (x_iconst 73 d_X8_beside_72 rfl) ?_
          refine Eq.trans (x_isub 74 d_X8_beside_73 rfl) ?_
          refine Eq.trans (x_ins1 77 (as := [Value.int (zi ((c / ((M 1) 1)) + 1)), Value.int (zi 0), Value.int (zi (((M 1) 0) - 1))]) d_X8_beside_74 rfl c_8_71 rfl (Nat.le_of_ble_eq_true rfl) (Nat.le_of_ble_eq_true rfl) (Nat.le_of_ble_eq_true rfl) rfl (S_X8_in (by omega) (by omega) (by omega) (by omega) (by omega) (by omega))) ?_
          refine x_if_eq 111 80 d_X8_beside_77 rfl rfl (by have := bI_r (inn ((c / ((M 1) 1)) + 1) 0 (((M 1) 0) - 1)); omega) (by have := bI_r (inn ((c / ((M 1) 1)) + 1) 0 (((M 1) 0) - 1)); omega) (fun k77 => ?_) (fun k77 => ?_)
          · replace k77 := bI_0.mp k77
            refine Eq.trans (x_iconst 112 d_X8_beside_111 rfl) ?_
            refine Eq.trans (x_ireturn d_X8_beside_112 rfl rfl) (lf ?_)
            unfold bes; repeat (first | rw [if_pos (by omega)] | rw [if_neg (by omega)]); try omega
          · replace k77 := bI_n0.mp k77
            refine Eq.trans (x_iload 82 d_X8_beside_80 rfl rfl) ?_
            refine Eq.trans (x_iconst 83 d_X8_beside_82 rfl) ?_
            refine Eq.trans (x_aload_n 84 d_X8_beside_83 rfl rfl) ?_
            refine Eq.trans (x_getfield 87 d_X8_beside_84 rfl f_8_9 (Nat.le_of_ble_eq_true rfl) (Nat.le_of_ble_eq_true rfl) (q_gf_of m_o rfl)) ?_
            refine Eq.trans (x_iconst 88 d_X8_beside_87 rfl) ?_
            refine Eq.trans (x_iaload 89 d_X8_beside_88 rfl ((m_g1 (by omega) (by omega)).trans (rfl : _ = some (Value.int (zi ((M 1) 1)))))) ?_
            have q13 : -1000000 ≤ (M 1) 1 ∧ (M 1) 1 ≤ 1000000 := hr _
            refine Eq.trans (x_iconst 90 d_X8_beside_89 rfl) ?_
            refine Eq.trans (x_isub 91 d_X8_beside_90 rfl) ?_
            refine Eq.trans (x_ins1 94 (as := [Value.int (zi ((c % ((M 1) 1)) + 0)), Value.int (zi 0), Value.int (zi (((M 1) 1) - 1))]) d_X8_beside_91 rfl c_8_71 rfl (Nat.le_of_ble_eq_true rfl) (Nat.le_of_ble_eq_true rfl) (Nat.le_of_ble_eq_true rfl) rfl (S_X8_in (by omega) (by omega) (by omega) (by omega) (by omega) (by omega))) ?_
            refine x_if_eq 111 97 d_X8_beside_94 rfl rfl (by have := bI_r (inn ((c % ((M 1) 1)) + 0) 0 (((M 1) 1) - 1)); omega) (by have := bI_r (inn ((c % ((M 1) 1)) + 0) 0 (((M 1) 1) - 1)); omega) (fun k94 => ?_) (fun k94 => ?_)
            · replace k94 := bI_0.mp k94
              refine Eq.trans (x_iconst 112 d_X8_beside_111 rfl) ?_
              refine Eq.trans (x_ireturn d_X8_beside_112 rfl rfl) (lf ?_)
              unfold bes; repeat (first | rw [if_pos (by omega)] | rw [if_neg (by omega)]); try omega
            · replace k94 := bI_n0.mp k94
              refine Eq.trans (x_aload_n 98 d_X8_beside_97 rfl rfl) ?_
              refine Eq.trans (x_getfield 101 d_X8_beside_98 rfl f_8_9 (Nat.le_of_ble_eq_true rfl) (Nat.le_of_ble_eq_true rfl) (q_gf_of m_o rfl)) ?_
              refine Eq.trans (x_iconst 102 d_X8_beside_101 rfl) ?_
              refine Eq.trans (x_iaload 103 d_X8_beside_102 rfl ((m_g1 (by omega) (by omega)).trans (rfl : _ = some (Value.int (zi ((M 1) 1)))))) ?_
              have q14 : -1000000 ≤ (M 1) 1 ∧ (M 1) 1 ≤ 1000000 := hr _
              refine Eq.trans (x_iload_n 104 d_X8_beside_103 rfl rfl) ?_
              refine Eq.trans (x_imul 105 d_X8_beside_104 rfl) ?_
              refine Eq.trans (x_iload 107 d_X8_beside_105 rfl rfl) ?_
              refine Eq.trans (x_iadd 108 d_X8_beside_107 rfl) ?_
              refine Eq.trans (x_goto 112 d_X8_beside_108 rfl) ?_
              refine Eq.trans (x_ireturn d_X8_beside_112 rfl rfl) (lf ?_)
              unfold bes; repeat (first | rw [if_pos (by omega)] | rw [if_neg (by omega)]); try omega
        · refine Eq.trans (x_iconst 57 d_X8_beside_56 rfl) ?_
          refine Eq.trans (x_goto 61 d_X8_beside_57 rfl) ?_
          refine Eq.trans (x_iadd 62 d_X8_beside_61 rfl) ?_
          refine Eq.trans (x_istore 64 d_X8_beside_62 rfl (Nat.le_of_ble_eq_true rfl)) ?_
          show q_ex E q_m_X8_beside 64 [Value.ref am, Value.int (zi c), Value.int (zi w), Value.int (zi ((c / ((M 1) 1)) + 1)), Value.int (zi ((c % ((M 1) 1)) + (-1)))] [] (q_mw h am M) = _
          refine Eq.trans (x_iload_n 65 d_X8_beside_64 rfl rfl) ?_
          refine Eq.trans (x_iconst 66 d_X8_beside_65 rfl) ?_
          refine Eq.trans (x_aload_n 67 d_X8_beside_66 rfl rfl) ?_
          refine Eq.trans (x_getfield 70 d_X8_beside_67 rfl f_8_9 (Nat.le_of_ble_eq_true rfl) (Nat.le_of_ble_eq_true rfl) (q_gf_of m_o rfl)) ?_
          refine Eq.trans (x_iconst 71 d_X8_beside_70 rfl) ?_
          refine Eq.trans (x_iaload 72 d_X8_beside_71 rfl ((m_g1 (by omega) (by omega)).trans (rfl : _ = some (Value.int (zi ((M 1) 0)))))) ?_
          have q15 : -1000000 ≤ (M 1) 0 ∧ (M 1) 0 ≤ 1000000 := hr _
          refine Eq.trans (x_iconst 73 d_X8_beside_72 rfl) ?_
          refine Eq.trans (x_isub 74 d_X8_beside_73 rfl) ?_
          refine Eq.trans (x_ins1 77 (as := [Value.int (zi ((c / ((M 1) 1)) + 1)), Value.int (zi 0), Value.int (zi (((M 1) 0) - 1))]) d_X8_beside_74 rfl c_8_71 rfl (Nat.le_of_ble_eq_true rfl) (Nat.le_of_ble_eq_true rfl) (Nat.le_of_ble_eq_true rfl) rfl (S_X8_in (by omega) (by omega) (by omega) (by omega) (by omega) (by omega))) ?_
          refine x_if_eq 111 80 d_X8_beside_77 rfl rfl (by have := bI_r (inn ((c / ((M 1) 1)) + 1) 0 (((M 1) 0) - 1)); omega) (by have := bI_r (inn ((c / ((M 1) 1)) + 1) 0 (((M 1) 0) - 1)); omega) (fun k77 => ?_) (fun k77 => ?_)
          · replace k77 := bI_0.mp k77
            refine Eq.trans (x_iconst 112 d_X8_beside_111 rfl) ?_
            refine Eq.trans (x_ireturn d_X8_beside_112 rfl rfl) (lf ?_)
            unfold bes; repeat (first | rw [if_pos (by omega)] | rw [if_neg (by omega)]); try omega
          · replace k77 := bI_n0.mp k77
            refine Eq.trans (x_iload 82 d_X8_beside_80 rfl rfl) ?_
            refine Eq.trans (x_iconst 83 d_X8_beside_82 rfl) ?_
            refine Eq.trans (x_aload_n 84 d_X8_beside_83 rfl rfl) ?_
            refine Eq.trans (x_getfield 87 d_X8_beside_84 rfl f_8_9 (Nat.le_of_ble_eq_true rfl) (Nat.le_of_ble_eq_true rfl) (q_gf_of m_o rfl)) ?_
            refine Eq.trans (x_iconst 88 d_X8_beside_87 rfl) ?_
            refine Eq.trans (x_iaload 89 d_X8_beside_88 rfl ((m_g1 (by omega) (by omega)).trans (rfl : _ = some (Value.int (zi ((M 1) 1)))))) ?_
            have q16 : -1000000 ≤ (M 1) 1 ∧ (M 1) 1 ≤ 1000000 := hr _
            refine Eq.trans (x_iconst 90 d_X8_beside_89 rfl) ?_
            refine Eq.trans (x_isub 91 d_X8_beside_90 rfl) ?_
            refine Eq.trans (x_ins1 94 (as := [Value.int (zi ((c % ((M 1) 1)) + (-1))), Value.int (zi 0), Value.int (zi (((M 1) 1) - 1))]) d_X8_beside_91 rfl c_8_71 rfl (Nat.le_of_ble_eq_true rfl) (Nat.le_of_ble_eq_true rfl) (Nat.le_of_ble_eq_true rfl) rfl (S_X8_in (by omega) (by omega) (by omega) (by omega) (by omega) (by omega))) ?_
            refine x_if_eq 111 97 d_X8_beside_94 rfl rfl (by have := bI_r (inn ((c % ((M 1) 1)) + (-1)) 0 (((M 1) 1) - 1)); omega) (by have := bI_r (inn ((c % ((M 1) 1)) + (-1)) 0 (((M 1) 1) - 1)); omega) (fun k94 => ?_) (fun k94 => ?_)
            · replace k94 := bI_0.mp k94
              refine Eq.trans (x_iconst 112 d_X8_beside_111 rfl) ?_
              refine Eq.trans (x_ireturn d_X8_beside_112 rfl rfl) (lf ?_)
              unfold bes; repeat (first | rw [if_pos (by omega)] | rw [if_neg (by omega)]); try omega
            · replace k94 := bI_n0.mp k94
              refine Eq.trans (x_aload_n 98 d_X8_beside_97 rfl rfl) ?_
              refine Eq.trans (x_getfield 101 d_X8_beside_98 rfl f_8_9 (Nat.le_of_ble_eq_true rfl) (Nat.le_of_ble_eq_true rfl) (q_gf_of m_o rfl)) ?_
              refine Eq.trans (x_iconst 102 d_X8_beside_101 rfl) ?_
              refine Eq.trans (x_iaload 103 d_X8_beside_102 rfl ((m_g1 (by omega) (by omega)).trans (rfl : _ = some (Value.int (zi ((M 1) 1)))))) ?_
              have q17 : -1000000 ≤ (M 1) 1 ∧ (M 1) 1 ≤ 1000000 := hr _
              refine Eq.trans (x_iload_n 104 d_X8_beside_103 rfl rfl) ?_
              refine Eq.trans (x_imul 105 d_X8_beside_104 rfl) ?_
              refine Eq.trans (x_iload 107 d_X8_beside_105 rfl rfl) ?_
              refine Eq.trans (x_iadd 108 d_X8_beside_107 rfl) ?_
              refine Eq.trans (x_goto 112 d_X8_beside_108 rfl) ?_
              refine Eq.trans (x_ireturn d_X8_beside_112 rfl rfl) (lf ?_)
              unfold bes; repeat (first | rw [if_pos (by omega)] | rw [if_neg (by omega)]); try omega
      · refine Eq.trans (x_iconst 48 d_X8_beside_47 rfl) ?_
        refine Eq.trans (x_goto 61 d_X8_beside_48 rfl) ?_
        refine Eq.trans (x_iadd 62 d_X8_beside_61 rfl) ?_
        refine Eq.trans (x_istore 64 d_X8_beside_62 rfl (Nat.le_of_ble_eq_true rfl)) ?_
        show q_ex E q_m_X8_beside 64 [Value.ref am, Value.int (zi c), Value.int (zi w), Value.int (zi ((c / ((M 1) 1)) + 1)), Value.int (zi ((c % ((M 1) 1)) + 1))] [] (q_mw h am M) = _
        refine Eq.trans (x_iload_n 65 d_X8_beside_64 rfl rfl) ?_
        refine Eq.trans (x_iconst 66 d_X8_beside_65 rfl) ?_
        refine Eq.trans (x_aload_n 67 d_X8_beside_66 rfl rfl) ?_
        refine Eq.trans (x_getfield 70 d_X8_beside_67 rfl f_8_9 (Nat.le_of_ble_eq_true rfl) (Nat.le_of_ble_eq_true rfl) (q_gf_of m_o rfl)) ?_
        refine Eq.trans (x_iconst 71 d_X8_beside_70 rfl) ?_
        refine Eq.trans (x_iaload 72 d_X8_beside_71 rfl ((m_g1 (by omega) (by omega)).trans (rfl : _ = some (Value.int (zi ((M 1) 0)))))) ?_
        have q18 : -1000000 ≤ (M 1) 0 ∧ (M 1) 0 ≤ 1000000 := hr _
        refine Eq.trans (x_iconst 73 d_X8_beside_72 rfl) ?_
        refine Eq.trans (x_isub 74 d_X8_beside_73 rfl) ?_
        refine Eq.trans (x_ins1 77 (as := [Value.int (zi ((c / ((M 1) 1)) + 1)), Value.int (zi 0), Value.int (zi (((M 1) 0) - 1))]) d_X8_beside_74 rfl c_8_71 rfl (Nat.le_of_ble_eq_true rfl) (Nat.le_of_ble_eq_true rfl) (Nat.le_of_ble_eq_true rfl) rfl (S_X8_in (by omega) (by omega) (by omega) (by omega) (by omega) (by omega))) ?_
        refine x_if_eq 111 80 d_X8_beside_77 rfl rfl (by have := bI_r (inn ((c / ((M 1) 1)) + 1) 0 (((M 1) 0) - 1)); omega) (by have := bI_r (inn ((c / ((M 1) 1)) + 1) 0 (((M 1) 0) - 1)); omega) (fun k77 => ?_) (fun k77 => ?_)
        · replace k77 := bI_0.mp k77
          refine Eq.trans (x_iconst 112 d_X8_beside_111 rfl) ?_
          refine Eq.trans (x_ireturn d_X8_beside_112 rfl rfl) (lf ?_)
          unfold bes; repeat (first | rw [if_pos (by omega)] | rw [if_neg (by omega)]); try omega
        · replace k77 := bI_n0.mp k77
          refine Eq.trans (x_iload 82 d_X8_beside_80 rfl rfl) ?_
          refine Eq.trans (x_iconst 83 d_X8_beside_82 rfl) ?_
          refine Eq.trans (x_aload_n 84 d_X8_beside_83 rfl rfl) ?_
          refine Eq.trans (x_getfield 87 d_X8_beside_84 rfl f_8_9 (Nat.le_of_ble_eq_true rfl) (Nat.le_of_ble_eq_true rfl) (q_gf_of m_o rfl)) ?_
          refine Eq.trans (x_iconst 88 d_X8_beside_87 rfl) ?_
          refine Eq.trans (x_iaload 89 d_X8_beside_88 rfl ((m_g1 (by omega) (by omega)).trans (rfl : _ = some (Value.int (zi ((M 1) 1)))))) ?_
          have q19 : -1000000 ≤ (M 1) 1 ∧ (M 1) 1 ≤ 1000000 := hr _
          refine Eq.trans (x_iconst 90 d_X8_beside_89 rfl) ?_
          refine Eq.trans (x_isub 91 d_X8_beside_90 rfl) ?_
          refine Eq.trans (x_ins1 94 (as := [Value.int (zi ((c % ((M 1) 1)) + 1)), Value.int (zi 0), Value.int (zi (((M 1) 1) - 1))]) d_X8_beside_91 rfl c_8_71 rfl (Nat.le_of_ble_eq_true rfl) (Nat.le_of_ble_eq_true rfl) (Nat.le_of_ble_eq_true rfl) rfl (S_X8_in (by omega) (by omega) (by omega) (by omega) (by omega) (by omega))) ?_
          refine x_if_eq 111 97 d_X8_beside_94 rfl rfl (by have := bI_r (inn ((c % ((M 1) 1)) + 1) 0 (((M 1) 1) - 1)); omega) (by have := bI_r (inn ((c % ((M 1) 1)) + 1) 0 (((M 1) 1) - 1)); omega) (fun k94 => ?_) (fun k94 => ?_)
          · replace k94 := bI_0.mp k94
            refine Eq.trans (x_iconst 112 d_X8_beside_111 rfl) ?_
            refine Eq.trans (x_ireturn d_X8_beside_112 rfl rfl) (lf ?_)
            unfold bes; repeat (first | rw [if_pos (by omega)] | rw [if_neg (by omega)]); try omega
          · replace k94 := bI_n0.mp k94
            refine Eq.trans (x_aload_n 98 d_X8_beside_97 rfl rfl) ?_
            refine Eq.trans (x_getfield 101 d_X8_beside_98 rfl f_8_9 (Nat.le_of_ble_eq_true rfl) (Nat.le_of_ble_eq_true rfl) (q_gf_of m_o rfl)) ?_
            refine Eq.trans (x_iconst 102 d_X8_beside_101 rfl) ?_
            refine Eq.trans (x_iaload 103 d_X8_beside_102 rfl ((m_g1 (by omega) (by omega)).trans (rfl : _ = some (Value.int (zi ((M 1) 1)))))) ?_
            have q20 : -1000000 ≤ (M 1) 1 ∧ (M 1) 1 ≤ 1000000 := hr _
            refine Eq.trans (x_iload_n 104 d_X8_beside_103 rfl rfl) ?_
            refine Eq.trans (x_imul 105 d_X8_beside_104 rfl) ?_
            refine Eq.trans (x_iload 107 d_X8_beside_105 rfl rfl) ?_
            refine Eq.trans (x_iadd 108 d_X8_beside_107 rfl) ?_
            refine Eq.trans (x_goto 112 d_X8_beside_108 rfl) ?_
            refine Eq.trans (x_ireturn d_X8_beside_112 rfl rfl) (lf ?_)
            unfold bes; repeat (first | rw [if_pos (by omega)] | rw [if_neg (by omega)]); try omega
  · refine Eq.trans (x_iconst 25 d_X8_beside_24 rfl) ?_
    refine Eq.trans (x_goto 38 d_X8_beside_25 rfl) ?_
    refine Eq.trans (x_iadd 39 d_X8_beside_38 rfl) ?_
    refine Eq.trans (x_istore_n 40 d_X8_beside_39 rfl (Nat.le_of_ble_eq_true rfl)) ?_
    show q_ex E q_m_X8_beside 40 [Value.ref am, Value.int (zi c), Value.int (zi w), Value.int (zi ((c / ((M 1) 1)) + (-1))), Value.int (zi (c % ((M 1) 1)))] [] (q_mw h am M) = _
    refine Eq.trans (x_iload 42 d_X8_beside_40 rfl rfl) ?_
    refine Eq.trans (x_iload_n 43 d_X8_beside_42 rfl rfl) ?_
    refine Eq.trans (x_iconst 44 d_X8_beside_43 rfl) ?_
    refine x_icmp_ne 51 47 d_X8_beside_44 rfl rfl (by omega) (by omega) (by omega) (by omega) (fun k44 => ?_) (fun k44 => ?_)
    · refine Eq.trans (x_iload_n 52 d_X8_beside_51 rfl rfl) ?_
      refine Eq.trans (x_iconst 53 d_X8_beside_52 rfl) ?_
      refine x_icmp_ne 60 56 d_X8_beside_53 rfl rfl (by omega) (by omega) (by omega) (by omega) (fun k53 => ?_) (fun k53 => ?_)
      · refine Eq.trans (x_iconst 61 d_X8_beside_60 rfl) ?_
        refine Eq.trans (x_iadd 62 d_X8_beside_61 rfl) ?_
        refine Eq.trans (x_istore 64 d_X8_beside_62 rfl (Nat.le_of_ble_eq_true rfl)) ?_
        show q_ex E q_m_X8_beside 64 [Value.ref am, Value.int (zi c), Value.int (zi w), Value.int (zi ((c / ((M 1) 1)) + (-1))), Value.int (zi ((c % ((M 1) 1)) + 0))] [] (q_mw h am M) = _
        refine Eq.trans (x_iload_n 65 d_X8_beside_64 rfl rfl) ?_
        refine Eq.trans (x_iconst 66 d_X8_beside_65 rfl) ?_
        refine Eq.trans (x_aload_n 67 d_X8_beside_66 rfl rfl) ?_
        refine Eq.trans (x_getfield 70 d_X8_beside_67 rfl f_8_9 (Nat.le_of_ble_eq_true rfl) (Nat.le_of_ble_eq_true rfl) (q_gf_of m_o rfl)) ?_
        refine Eq.trans (x_iconst 71 d_X8_beside_70 rfl) ?_
        refine Eq.trans (x_iaload 72 d_X8_beside_71 rfl ((m_g1 (by omega) (by omega)).trans (rfl : _ = some (Value.int (zi ((M 1) 0)))))) ?_
        have q21 : -1000000 ≤ (M 1) 0 ∧ (M 1) 0 ≤ 1000000 := hr _
        refine Eq.trans (x_iconst 73 d_X8_beside_72 rfl) ?_
        refine Eq.trans (x_isub 74 d_X8_beside_73 rfl) ?_
        refine Eq.trans (x_ins1 77 (as := [Value.int (zi ((c / ((M 1) 1)) + (-1))), Value.int (zi 0), Value.int (zi (((M 1) 0) - 1))]) d_X8_beside_74 rfl c_8_71 rfl (Nat.le_of_ble_eq_true rfl) (Nat.le_of_ble_eq_true rfl) (Nat.le_of_ble_eq_true rfl) rfl (S_X8_in (by omega) (by omega) (by omega) (by omega) (by omega) (by omega))) ?_
        refine x_if_eq 111 80 d_X8_beside_77 rfl rfl (by have := bI_r (inn ((c / ((M 1) 1)) + (-1)) 0 (((M 1) 0) - 1)); omega) (by have := bI_r (inn ((c / ((M 1) 1)) + (-1)) 0 (((M 1) 0) - 1)); omega) (fun k77 => ?_) (fun k77 => ?_)
        · replace k77 := bI_0.mp k77
          refine Eq.trans (x_iconst 112 d_X8_beside_111 rfl) ?_
          refine Eq.trans (x_ireturn d_X8_beside_112 rfl rfl) (lf ?_)
          unfold bes; repeat (first | rw [if_pos (by omega)] | rw [if_neg (by omega)]); try omega
        · replace k77 := bI_n0.mp k77
          refine Eq.trans (x_iload 82 d_X8_beside_80 rfl rfl) ?_
          refine Eq.trans (x_iconst 83 d_X8_beside_82 rfl) ?_
          refine Eq.trans (x_aload_n 84 d_X8_beside_83 rfl rfl) ?_
          refine Eq.trans (x_getfield 87 d_X8_beside_84 rfl f_8_9 (Nat.le_of_ble_eq_true rfl) (Nat.le_of_ble_eq_true rfl) (q_gf_of m_o rfl)) ?_
          refine Eq.trans (x_iconst 88 d_X8_beside_87 rfl) ?_
          refine Eq.trans (x_iaload 89 d_X8_beside_88 rfl ((m_g1 (by omega) (by omega)).trans (rfl : _ = some (Value.int (zi ((M 1) 1)))))) ?_
          have q22 : -1000000 ≤ (M 1) 1 ∧ (M 1) 1 ≤ 1000000 := hr _
          refine Eq.trans (x_iconst 90 d_X8_beside_89 rfl) ?_
          refine Eq.trans (x_isub 91 d_X8_beside_90 rfl) ?_
          refine Eq.trans (x_ins1 94 (as := [Value.int (zi ((c % ((M 1) 1)) + 0)), Value.int (zi 0), Value.int (zi (((M 1) 1) - 1))]) d_X8_beside_91 rfl c_8_71 rfl (Nat.le_of_ble_eq_true rfl) (Nat.le_of_ble_eq_true rfl) (Nat.le_of_ble_eq_true rfl) rfl (S_X8_in (by omega) (by omega) (by omega) (by omega) (by omega) (by omega))) ?_
          refine x_if_eq 111 97 d_X8_beside_94 rfl rfl (by have := bI_r (inn ((c % ((M 1) 1)) + 0) 0 (((M 1) 1) - 1)); omega) (by have := bI_r (inn ((c % ((M 1) 1)) + 0) 0 (((M 1) 1) - 1)); omega) (fun k94 => ?_) (fun k94 => ?_)
          · replace k94 := bI_0.mp k94
            refine Eq.trans (x_iconst 112 d_X8_beside_111 rfl) ?_
            refine Eq.trans (x_ireturn d_X8_beside_112 rfl rfl) (lf ?_)
            unfold bes; repeat (first | rw [if_pos (by omega)] | rw [if_neg (by omega)]); try omega
          · replace k94 := bI_n0.mp k94
            refine Eq.trans (x_aload_n 98 d_X8_beside_97 rfl rfl) ?_
            refine Eq.trans (x_getfield 101 d_X8_beside_98 rfl f_8_9 (Nat.le_of_ble_eq_true rfl) (Nat.le_of_ble_eq_true rfl) (q_gf_of m_o rfl)) ?_
            refine Eq.trans (x_iconst 102 d_X8_beside_101 rfl) ?_
            refine Eq.trans (x_iaload 103 d_X8_beside_102 rfl ((m_g1 (by omega) (by omega)).trans (rfl : _ = some (Value.int (zi ((M 1) 1)))))) ?_
            have q23 : -1000000 ≤ (M 1) 1 ∧ (M 1) 1 ≤ 1000000 := hr _
            refine Eq.trans (x_iload_n 104 d_X8_beside_103 rfl rfl) ?_
            refine Eq.trans (x_imul 105 d_X8_beside_104 rfl) ?_
            refine Eq.trans (x_iload 107 d_X8_beside_105 rfl rfl) ?_
            refine Eq.trans (x_iadd 108 d_X8_beside_107 rfl) ?_
            refine Eq.trans (x_goto 112 d_X8_beside_108 rfl) ?_
            refine Eq.trans (x_ireturn d_X8_beside_112 rfl rfl) (lf ?_)
            unfold bes; repeat (first | rw [if_pos (by omega)] | rw [if_neg (by omega)]); try omega
      · refine Eq.trans (x_iconst 57 d_X8_beside_56 rfl) ?_
        refine Eq.trans (x_goto 61 d_X8_beside_57 rfl) ?_
        refine Eq.trans (x_iadd 62 d_X8_beside_61 rfl) ?_
        refine Eq.trans (x_istore 64 d_X8_beside_62 rfl (Nat.le_of_ble_eq_true rfl)) ?_
        show q_ex E q_m_X8_beside 64 [Value.ref am, Value.int (zi c), Value.int (zi w), Value.int (zi ((c / ((M 1) 1)) + (-1))), Value.int (zi ((c % ((M 1) 1)) + (-1)))] [] (q_mw h am M) = _
        refine Eq.trans (x_iload_n 65 d_X8_beside_64 rfl rfl) ?_
        refine Eq.trans (x_iconst 66 d_X8_beside_65 rfl) ?_
        refine Eq.trans (x_aload_n 67 d_X8_beside_66 rfl rfl) ?_
        refine Eq.trans (x_getfield 70 d_X8_beside_67 rfl f_8_9 (Nat.le_of_ble_eq_true rfl) (Nat.le_of_ble_eq_true rfl) (q_gf_of m_o rfl)) ?_
        refine Eq.trans (x_iconst 71 d_X8_beside_70 rfl) ?_
        refine Eq.trans (x_iaload 72 d_X8_beside_71 rfl ((m_g1 (by omega) (by omega)).trans (rfl : _ = some (Value.int (zi ((M 1) 0)))))) ?_
        have q24 : -1000000 ≤ (M 1) 0 ∧ (M 1) 0 ≤ 1000000 := hr _
        refine Eq.trans (x_iconst 73 d_X8_beside_72 rfl) ?_
        refine Eq.trans (x_isub 74 d_X8_beside_73 rfl) ?_
        refine Eq.trans (x_ins1 77 (as := [Value.int (zi ((c / ((M 1) 1)) + (-1))), Value.int (zi 0), Value.int (zi (((M 1) 0) - 1))]) d_X8_beside_74 rfl c_8_71 rfl (Nat.le_of_ble_eq_true rfl) (Nat.le_of_ble_eq_true rfl) (Nat.le_of_ble_eq_true rfl) rfl (S_X8_in (by omega) (by omega) (by omega) (by omega) (by omega) (by omega))) ?_
        refine x_if_eq 111 80 d_X8_beside_77 rfl rfl (by have := bI_r (inn ((c / ((M 1) 1)) + (-1)) 0 (((M 1) 0) - 1)); omega) (by have := bI_r (inn ((c / ((M 1) 1)) + (-1)) 0 (((M 1) 0) - 1)); omega) (fun k77 => ?_) (fun k77 => ?_)
        · replace k77 := bI_0.mp k77
          refine Eq.trans (x_iconst 112 d_X8_beside_111 rfl) ?_
          refine Eq.trans (x_ireturn d_X8_beside_112 rfl rfl) (lf ?_)
          unfold bes; repeat (first | rw [if_pos (by omega)] | rw [if_neg (by omega)]); try omega
        · replace k77 := bI_n0.mp k77
          refine Eq.trans (x_iload 82 d_X8_beside_80 rfl rfl) ?_
          refine Eq.trans (x_iconst 83 d_X8_beside_82 rfl) ?_
          refine Eq.trans (x_aload_n 84 d_X8_beside_83 rfl rfl) ?_
          refine Eq.trans (x_getfield 87 d_X8_beside_84 rfl f_8_9 (Nat.le_of_ble_eq_true rfl) (Nat.le_of_ble_eq_true rfl) (q_gf_of m_o rfl)) ?_
          refine Eq.trans (x_iconst 88 d_X8_beside_87 rfl) ?_
          refine Eq.trans (x_iaload 89 d_X8_beside_88 rfl ((m_g1 (by omega) (by omega)).trans (rfl : _ = some (Value.int (zi ((M 1) 1)))))) ?_
          have q25 : -1000000 ≤ (M 1) 1 ∧ (M 1) 1 ≤ 1000000 := hr _
          refine Eq.trans (x_iconst 90 d_X8_beside_89 rfl) ?_
          refine Eq.trans (x_isub 91 d_X8_beside_90 rfl) ?_
          refine Eq.trans (x_ins1 94 (as := [Value.int (zi ((c % ((M 1) 1)) + (-1))), Value.int (zi 0), Value.int (zi (((M 1) 1) - 1))]) d_X8_beside_91 rfl c_8_71 rfl (Nat.le_of_ble_eq_true rfl) (Nat.le_of_ble_eq_true rfl) (Nat.le_of_ble_eq_true rfl) rfl (S_X8_in (by omega) (by omega) (by omega) (by omega) (by omega) (by omega))) ?_
          refine x_if_eq 111 97 d_X8_beside_94 rfl rfl (by have := bI_r (inn ((c % ((M 1) 1)) + (-1)) 0 (((M 1) 1) - 1)); omega) (by have := bI_r (inn ((c % ((M 1) 1)) + (-1)) 0 (((M 1) 1) - 1)); omega) (fun k94 => ?_) (fun k94 => ?_)
          · replace k94 := bI_0.mp k94
            refine Eq.trans (x_iconst 112 d_X8_beside_111 rfl) ?_
            refine Eq.trans (x_ireturn d_X8_beside_112 rfl rfl) (lf ?_)
            unfold bes; repeat (first | rw [if_pos (by omega)] | rw [if_neg (by omega)]); try omega
          · replace k94 := bI_n0.mp k94
            refine Eq.trans (x_aload_n 98 d_X8_beside_97 rfl rfl) ?_
            refine Eq.trans (x_getfield 101 d_X8_beside_98 rfl f_8_9 (Nat.le_of_ble_eq_true rfl) (Nat.le_of_ble_eq_true rfl) (q_gf_of m_o rfl)) ?_
            refine Eq.trans (x_iconst 102 d_X8_beside_101 rfl) ?_
            refine Eq.trans (x_iaload 103 d_X8_beside_102 rfl ((m_g1 (by omega) (by omega)).trans (rfl : _ = some (Value.int (zi ((M 1) 1)))))) ?_
            have q26 : -1000000 ≤ (M 1) 1 ∧ (M 1) 1 ≤ 1000000 := hr _
            refine Eq.trans (x_iload_n 104 d_X8_beside_103 rfl rfl) ?_
            refine Eq.trans (x_imul 105 d_X8_beside_104 rfl) ?_
            refine Eq.trans (x_iload 107 d_X8_beside_105 rfl rfl) ?_
            refine Eq.trans (x_iadd 108 d_X8_beside_107 rfl) ?_
            refine Eq.trans (x_goto 112 d_X8_beside_108 rfl) ?_
            refine Eq.trans (x_ireturn d_X8_beside_112 rfl rfl) (lf ?_)
            unfold bes; repeat (first | rw [if_pos (by omega)] | rw [if_neg (by omega)]); try omega
    · refine Eq.trans (x_iconst 48 d_X8_beside_47 rfl) ?_
      refine Eq.trans (x_goto 61 d_X8_beside_48 rfl) ?_
      refine Eq.trans (x_iadd 62 d_X8_beside_61 rfl) ?_
      refine Eq.trans (x_istore 64 d_X8_beside_62 rfl (Nat.le_of_ble_eq_true rfl)) ?_
      show q_ex E q_m_X8_beside 64 [Value.ref am, Value.int (zi c), Value.int (zi w), Value.int (zi ((c / ((M 1) 1)) + (-1))), Value.int (zi ((c % ((M 1) 1)) + 1))] [] (q_mw h am M) = _
      refine Eq.trans (x_iload_n 65 d_X8_beside_64 rfl rfl) ?_
      refine Eq.trans (x_iconst 66 d_X8_beside_65 rfl) ?_
      refine Eq.trans (x_aload_n 67 d_X8_beside_66 rfl rfl) ?_
      refine Eq.trans (x_getfield 70 d_X8_beside_67 rfl f_8_9 (Nat.le_of_ble_eq_true rfl) (Nat.le_of_ble_eq_true rfl) (q_gf_of m_o rfl)) ?_
      refine Eq.trans (x_iconst 71 d_X8_beside_70 rfl) ?_
      refine Eq.trans (x_iaload 72 d_X8_beside_71 rfl ((m_g1 (by omega) (by omega)).trans (rfl : _ = some (Value.int (zi ((M 1) 0)))))) ?_
      have q27 : -1000000 ≤ (M 1) 0 ∧ (M 1) 0 ≤ 1000000 := hr _
      refine Eq.trans (x_iconst 73 d_X8_beside_72 rfl) ?_
      refine Eq.trans (x_isub 74 d_X8_beside_73 rfl) ?_
      refine Eq.trans (x_ins1 77 (as := [Value.int (zi ((c / ((M 1) 1)) + (-1))), Value.int (zi 0), Value.int (zi (((M 1) 0) - 1))]) d_X8_beside_74 rfl c_8_71 rfl (Nat.le_of_ble_eq_true rfl) (Nat.le_of_ble_eq_true rfl) (Nat.le_of_ble_eq_true rfl) rfl (S_X8_in (by omega) (by omega) (by omega) (by omega) (by omega) (by omega))) ?_
      refine x_if_eq 111 80 d_X8_beside_77 rfl rfl (by have := bI_r (inn ((c / ((M 1) 1)) + (-1)) 0 (((M 1) 0) - 1)); omega) (by have := bI_r (inn ((c / ((M 1) 1)) + (-1)) 0 (((M 1) 0) - 1)); omega) (fun k77 => ?_) (fun k77 => ?_)
      · replace k77 := bI_0.mp k77
        refine Eq.trans (x_iconst 112 d_X8_beside_111 rfl) ?_
        refine Eq.trans (x_ireturn d_X8_beside_112 rfl rfl) (lf ?_)
        unfold bes; repeat (first | rw [if_pos (by omega)] | rw [if_neg (by omega)]); try omega
      · replace k77 := bI_n0.mp k77
        refine Eq.trans (x_iload 82 d_X8_beside_80 rfl rfl) ?_
        refine Eq.trans (x_iconst 83 d_X8_beside_82 rfl) ?_
        refine Eq.trans (x_aload_n 84 d_X8_beside_83 rfl rfl) ?_
        refine Eq.trans (x_getfield 87 d_X8_beside_84 rfl f_8_9 (Nat.le_of_ble_eq_true rfl) (Nat.le_of_ble_eq_true rfl) (q_gf_of m_o rfl)) ?_
        refine Eq.trans (x_iconst 88 d_X8_beside_87 rfl) ?_
        refine Eq.trans (x_iaload 89 d_X8_beside_88 rfl ((m_g1 (by omega) (by omega)).trans (rfl : _ = some (Value.int (zi ((M 1) 1)))))) ?_
        have q28 : -1000000 ≤ (M 1) 1 ∧ (M 1) 1 ≤ 1000000 := hr _
        refine Eq.trans (x_iconst 90 d_X8_beside_89 rfl) ?_
        refine Eq.trans (x_isub 91 d_X8_beside_90 rfl) ?_
        refine Eq.trans (x_ins1 94 (as := [Value.int (zi ((c % ((M 1) 1)) + 1)), Value.int (zi 0), Value.int (zi (((M 1) 1) - 1))]) d_X8_beside_91 rfl c_8_71 rfl (Nat.le_of_ble_eq_true rfl) (Nat.le_of_ble_eq_true rfl) (Nat.le_of_ble_eq_true rfl) rfl (S_X8_in (by omega) (by omega) (by omega) (by omega) (by omega) (by omega))) ?_
        refine x_if_eq 111 97 d_X8_beside_94 rfl rfl (by have := bI_r (inn ((c % ((M 1) 1)) + 1) 0 (((M 1) 1) - 1)); omega) (by have := bI_r (inn ((c % ((M 1) 1)) + 1) 0 (((M 1) 1) - 1)); omega) (fun k94 => ?_) (fun k94 => ?_)
        · replace k94 := bI_0.mp k94
          refine Eq.trans (x_iconst 112 d_X8_beside_111 rfl) ?_
          refine Eq.trans (x_ireturn d_X8_beside_112 rfl rfl) (lf ?_)
          unfold bes; repeat (first | rw [if_pos (by omega)] | rw [if_neg (by omega)]); try omega
        · replace k94 := bI_n0.mp k94
          refine Eq.trans (x_aload_n 98 d_X8_beside_97 rfl rfl) ?_
          refine Eq.trans (x_getfield 101 d_X8_beside_98 rfl f_8_9 (Nat.le_of_ble_eq_true rfl) (Nat.le_of_ble_eq_true rfl) (q_gf_of m_o rfl)) ?_
          refine Eq.trans (x_iconst 102 d_X8_beside_101 rfl) ?_
          refine Eq.trans (x_iaload 103 d_X8_beside_102 rfl ((m_g1 (by omega) (by omega)).trans (rfl : _ = some (Value.int (zi ((M 1) 1)))))) ?_
          have q29 : -1000000 ≤ (M 1) 1 ∧ (M 1) 1 ≤ 1000000 := hr _
          refine Eq.trans (x_iload_n 104 d_X8_beside_103 rfl rfl) ?_
          refine Eq.trans (x_imul 105 d_X8_beside_104 rfl) ?_
          refine Eq.trans (x_iload 107 d_X8_beside_105 rfl rfl) ?_
          refine Eq.trans (x_iadd 108 d_X8_beside_107 rfl) ?_
          refine Eq.trans (x_goto 112 d_X8_beside_108 rfl) ?_
          refine Eq.trans (x_ireturn d_X8_beside_112 rfl rfl) (lf ?_)
          unfold bes; repeat (first | rw [if_pos (by omega)] | rw [if_neg (by omega)]); try omega
theorem L_X8_willBe20 (hR : Rg (M 1)) {cell fr but r : Int} (hr0 : isR (M 1) r) (hcell : -2147483648 ≤ cell) (jcell : cell < 2147483648) : ∀ (n : Nat) (v : Int) (p : Prop) (t : Int), (t + n = 32) → (0 ≤ t) → (v = bI p) → q_ex E q_m_X8_willBe 20 [Value.ref am, Value.int (zi cell), Value.int (zi fr), Value.int (zi but), Value.int (zi r), Value.int (zi v), Value.int (zi t)] [] (q_mw h am M) = q_ex E q_m_X8_willBe 57 [Value.ref am, Value.int (zi cell), Value.int (zi fr), Value.int (zi but), Value.int (zi r), Value.int (zi (bI (p ∨ exI (fun t => ahd (M 1) r t = cell) n t))), Value.int (zi 32)] [] (q_mw h am M) := by
  obtain ⟨hr, g0, g1, g3, g4, gc, g5, g6, g7, gk, gl, gr, go⟩ := id hR
  intro n
  induction n with
  | zero =>
    intro v p t e h0 hv
    have hvr := bI_r p
    refine Eq.trans (x_iload 22 d_X8_willBe_20 rfl rfl) ?_
    refine Eq.trans (x_bipush 24 d_X8_willBe_22 rfl rfl) ?_
    refine x_icmp_gt 57 27 d_X8_willBe_24 rfl rfl (by omega) (by omega) (by omega) (by omega) (fun k24 => ?_) (fun k24 => ?_)
    · obtain rfl : t = 32 := by omega
      rw [hv, bI_c (show (p ∨ exI (fun t => ahd (M 1) r t = cell) 0 32) ↔ p from or_iff_left exI_0)]
    · omega
  | succ n ih =>
    intro v p t e h0 hv
    have hvr := bI_r p
    refine Eq.trans (x_iload 22 d_X8_willBe_20 rfl rfl) ?_
    refine Eq.trans (x_bipush 24 d_X8_willBe_22 rfl rfl) ?_
    refine x_icmp_gt 57 27 d_X8_willBe_24 rfl rfl (by omega) (by omega) (by omega) (by omega) (fun k24 => ?_) (fun k24 => ?_)
    · omega
    · refine Eq.trans (x_iload 29 d_X8_willBe_27 rfl rfl) ?_
      refine x_if_ne 44 32 d_X8_willBe_29 rfl rfl (by omega) (by omega) (fun k29 => ?_) (fun k29 => ?_)
      · refine Eq.trans (x_iconst 45 d_X8_willBe_44 rfl) ?_
        refine Eq.trans (x_goto 49 d_X8_willBe_45 rfl) ?_
        refine Eq.trans (x_istore 51 d_X8_willBe_49 rfl (Nat.le_of_ble_eq_true rfl)) ?_
        show q_ex E q_m_X8_willBe 51 [Value.ref am, Value.int (zi cell), Value.int (zi fr), Value.int (zi but), Value.int (zi r), Value.int (zi 1), Value.int (zi t)] [] (q_mw h am M) = _
        refine Eq.trans (x_iinc 54 d_X8_willBe_51 rfl rfl) ?_
        show q_ex E q_m_X8_willBe 54 [Value.ref am, Value.int (zi cell), Value.int (zi fr), Value.int (zi but), Value.int (zi r), Value.int (zi 1), Value.int (zi (t + 1))] [] (q_mw h am M) = _
        refine Eq.trans (x_goto 20 d_X8_willBe_54 rfl) ?_
        have es : bI (p ∨ exI (fun t => ahd (M 1) r t = cell) (n + 1) t) = bI ((p ∨ ahd (M 1) r t = cell) ∨ exI (fun t => ahd (M 1) r t = cell) n (t + 1)) := bI_c (by rw [exI_s, or_assoc])
        rw [es]
        refine ih 1 (p ∨ ahd (M 1) r t = cell) (t + 1) (by omega) (by omega) (bI_t ?_).symm
        first | exact .inl (bI_n0.mp (hv ▸ k29)) | exact .inr k41
      · refine Eq.trans (x_aload_n 33 d_X8_willBe_32 rfl rfl) ?_
        refine Eq.trans (x_iload 35 d_X8_willBe_33 rfl rfl) ?_
        refine Eq.trans (x_iload 37 d_X8_willBe_35 rfl rfl) ?_
        refine Eq.trans (x_inv1 40 (as := [Value.int (zi r), Value.int (zi t)]) d_X8_willBe_37 rfl c_8_83 rfl (Nat.le_of_ble_eq_true rfl) (Nat.le_of_ble_eq_true rfl) m_o (Nat.le_of_ble_eq_true rfl) (Nat.le_of_ble_eq_true rfl) rfl (S_X8_cellOf hR (by omega) (by omega) (by omega))) ?_
        have q1 := ahd_r hR (r := r) (t := t) (by omega) (by omega)
        refine Eq.trans (x_iload_n 41 d_X8_willBe_40 rfl rfl) ?_
        refine x_icmp_ne 48 44 d_X8_willBe_41 rfl rfl (by omega) (by omega) (by omega) (by omega) (fun k41 => ?_) (fun k41 => ?_)
        · refine Eq.trans (x_iconst 49 d_X8_willBe_48 rfl) ?_
          refine Eq.trans (x_istore 51 d_X8_willBe_49 rfl (Nat.le_of_ble_eq_true rfl)) ?_
          show q_ex E q_m_X8_willBe 51 [Value.ref am, Value.int (zi cell), Value.int (zi fr), Value.int (zi but), Value.int (zi r), Value.int (zi 0), Value.int (zi t)] [] (q_mw h am M) = _
          refine Eq.trans (x_iinc 54 d_X8_willBe_51 rfl rfl) ?_
          show q_ex E q_m_X8_willBe 54 [Value.ref am, Value.int (zi cell), Value.int (zi fr), Value.int (zi but), Value.int (zi r), Value.int (zi 0), Value.int (zi (t + 1))] [] (q_mw h am M) = _
          refine Eq.trans (x_goto 20 d_X8_willBe_54 rfl) ?_
          have es : bI (p ∨ exI (fun t => ahd (M 1) r t = cell) (n + 1) t) = bI ((p ∨ ahd (M 1) r t = cell) ∨ exI (fun t => ahd (M 1) r t = cell) n (t + 1)) := bI_c (by rw [exI_s, or_assoc])
          rw [es]
          refine ih 0 (p ∨ ahd (M 1) r t = cell) (t + 1) (by omega) (by omega) (bI_f ?_).symm
          exact fun x => x.elim (bI_0.mp (hv ▸ k29)) k41
        · refine Eq.trans (x_iconst 45 d_X8_willBe_44 rfl) ?_
          refine Eq.trans (x_goto 49 d_X8_willBe_45 rfl) ?_
          refine Eq.trans (x_istore 51 d_X8_willBe_49 rfl (Nat.le_of_ble_eq_true rfl)) ?_
          show q_ex E q_m_X8_willBe 51 [Value.ref am, Value.int (zi cell), Value.int (zi fr), Value.int (zi but), Value.int (zi r), Value.int (zi 1), Value.int (zi t)] [] (q_mw h am M) = _
          refine Eq.trans (x_iinc 54 d_X8_willBe_51 rfl rfl) ?_
          show q_ex E q_m_X8_willBe 54 [Value.ref am, Value.int (zi cell), Value.int (zi fr), Value.int (zi but), Value.int (zi r), Value.int (zi 1), Value.int (zi (t + 1))] [] (q_mw h am M) = _
          refine Eq.trans (x_goto 20 d_X8_willBe_54 rfl) ?_
          have es : bI (p ∨ exI (fun t => ahd (M 1) r t = cell) (n + 1) t) = bI ((p ∨ ahd (M 1) r t = cell) ∨ exI (fun t => ahd (M 1) r t = cell) n (t + 1)) := bI_c (by rw [exI_s, or_assoc])
          rw [es]
          refine ih 1 (p ∨ ahd (M 1) r t = cell) (t + 1) (by omega) (by omega) (bI_t ?_).symm
          first | exact .inl (bI_n0.mp (hv ▸ k29)) | exact .inr k41
theorem wb_i {s : Int → Int} {cell fr but r : Int} (h : False ∨ exI (fun t => ahd s r t = cell) (32 - fr).toNat fr) (k : ¬ r = but) : wbA s cell fr but r := by
  rcases h with h | ⟨t, h, e⟩
  · exact h.elim
  · exact ⟨⟨t, by omega, e⟩, k⟩
theorem wb_n {s : Int → Int} {cell fr but r : Int} (h : (¬ (False ∨ exI (fun t => ahd s r t = cell) (32 - fr).toNat fr)) ∨ r = but) : ¬ wbA s cell fr but r := by
  rintro ⟨⟨t, a, e⟩, k⟩
  rcases h with h | h
  · exact h (.inr ⟨t, by omega, e⟩)
  · exact k h
theorem L_X8_willBe (hR : Rg (M 1)) {cell fr but : Int} (f0 : 0 ≤ fr) (f1 : fr ≤ 32) (hcell : -2147483648 ≤ cell) (jcell : cell < 2147483648) (hbut : -2147483648 ≤ but) (jbut : but < 2147483648) : ∀ (n : Nat) (r : Int) (x5 : Value) (x6 : Value), (r + n = M 1 3) → (0 ≤ r) → q_ex E q_m_X8_willBe 3 [Value.ref am, Value.int (zi cell), Value.int (zi fr), Value.int (zi but), Value.int (zi r), x5, x6] [] (q_mw h am M) = some (.inl (some (Value.int (zi (fnd (wbA (M 1) cell fr but) n r)))), q_mw h am M) := by
  obtain ⟨hr, g0, g1, g3, g4, gc, g5, g6, g7, gk, gl, gr, go⟩ := id hR
  intro n
  induction n with
  | zero =>
    intro r x5 x6 e h0
    refine Eq.trans (x_iload 5 d_X8_willBe_3 rfl rfl) ?_
    refine Eq.trans (x_aload_n 6 d_X8_willBe_5 rfl rfl) ?_
    refine Eq.trans (x_getfield 9 d_X8_willBe_6 rfl f_8_9 (Nat.le_of_ble_eq_true rfl) (Nat.le_of_ble_eq_true rfl) (q_gf_of m_o rfl)) ?_
    refine Eq.trans (x_iconst 10 d_X8_willBe_9 rfl) ?_
    refine Eq.trans (x_iaload 11 d_X8_willBe_10 rfl ((m_g1 (by omega) (by omega)).trans (rfl : _ = some (Value.int (zi ((M 1) 3)))))) ?_
    have q1 : -1000000 ≤ (M 1) 3 ∧ (M 1) 3 ≤ 1000000 := hr _
    refine x_icmp_ge 77 14 d_X8_willBe_11 rfl rfl (by omega) (by omega) (by omega) (by omega) (fun k11 => ?_) (fun k11 => ?_)
    · refine Eq.trans (x_iconst 78 d_X8_willBe_77 rfl) ?_
      refine Eq.trans (x_ireturn d_X8_willBe_78 rfl rfl) (lf ?_)
      rfl
    · omega
  | succ n ih =>
    intro r x5 x6 e h0
    refine Eq.trans (x_iload 5 d_X8_willBe_3 rfl rfl) ?_
    refine Eq.trans (x_aload_n 6 d_X8_willBe_5 rfl rfl) ?_
    refine Eq.trans (x_getfield 9 d_X8_willBe_6 rfl f_8_9 (Nat.le_of_ble_eq_true rfl) (Nat.le_of_ble_eq_true rfl) (q_gf_of m_o rfl)) ?_
    refine Eq.trans (x_iconst 10 d_X8_willBe_9 rfl) ?_
    refine Eq.trans (x_iaload 11 d_X8_willBe_10 rfl ((m_g1 (by omega) (by omega)).trans (rfl : _ = some (Value.int (zi ((M 1) 3)))))) ?_
    have q1 : -1000000 ≤ (M 1) 3 ∧ (M 1) 3 ≤ 1000000 := hr _
    refine x_icmp_ge 77 14 d_X8_willBe_11 rfl rfl (by omega) (by omega) (by omega) (by omega) (fun k11 => ?_) (fun k11 => ?_)
    · omega
    · refine Eq.trans (x_iconst 15 d_X8_willBe_14 rfl) ?_
      refine Eq.trans (x_istore 17 d_X8_willBe_15 rfl (Nat.le_of_ble_eq_true rfl)) ?_
      show q_ex E q_m_X8_willBe 17 [Value.ref am, Value.int (zi cell), Value.int (zi fr), Value.int (zi but), Value.int (zi r), Value.int (zi 0), x6] [] (q_mw h am M) = _
      refine Eq.trans (x_iload_n 18 d_X8_willBe_17 rfl rfl) ?_
      refine Eq.trans (x_istore 20 d_X8_willBe_18 rfl (Nat.le_of_ble_eq_true rfl)) ?_
      show q_ex E q_m_X8_willBe 20 [Value.ref am, Value.int (zi cell), Value.int (zi fr), Value.int (zi but), Value.int (zi r), Value.int (zi 0), Value.int (zi fr)] [] (q_mw h am M) = _
      refine Eq.trans (L_X8_willBe20 hR (cell := cell) (fr := fr) (but := but) (r := r) (by omega) (by omega) (by omega) (32 - fr).toNat 0 False fr (by omega) (by omega) (bI_f id).symm) ?_
      show q_ex E q_m_X8_willBe 57 [Value.ref am, Value.int (zi cell), Value.int (zi fr), Value.int (zi but), Value.int (zi r), Value.int (zi (bI (False ∨ exI (fun t => ahd (M 1) r t = cell) (32 - fr).toNat fr))), Value.int (zi 32)] [] (q_mw h am M) = _
      refine Eq.trans (x_iload 59 d_X8_willBe_57 rfl rfl) ?_
      refine x_if_eq 71 62 d_X8_willBe_59 rfl rfl (by have := bI_r (False ∨ exI (fun t => ahd (M 1) r t = cell) (32 - fr).toNat fr); omega) (by have := bI_r (False ∨ exI (fun t => ahd (M 1) r t = cell) (32 - fr).toNat fr); omega) (fun k59 => ?_) (fun k59 => ?_)
      · replace k59 := bI_0.mp k59
        refine Eq.trans (x_iinc 74 d_X8_willBe_71 rfl rfl) ?_
        show q_ex E q_m_X8_willBe 74 [Value.ref am, Value.int (zi cell), Value.int (zi fr), Value.int (zi but), Value.int (zi (r + 1)), Value.int (zi (bI (False ∨ exI (fun t => ahd (M 1) r t = cell) (32 - fr).toNat fr))), Value.int (zi 32)] [] (q_mw h am M) = _
        refine Eq.trans (x_goto 3 d_X8_willBe_74 rfl) ?_
        refine (ih (r + 1) _ _ (by omega) (by omega)).trans ?_
        rw [fnd_f (wb_n (by first | exact .inl k59 | exact .inr k65))]
      · replace k59 := bI_n0.mp k59
        refine Eq.trans (x_iload 64 d_X8_willBe_62 rfl rfl) ?_
        refine Eq.trans (x_iload_n 65 d_X8_willBe_64 rfl rfl) ?_
        refine x_icmp_eq 71 68 d_X8_willBe_65 rfl rfl (by omega) (by omega) (by omega) (by omega) (fun k65 => ?_) (fun k65 => ?_)
        · refine Eq.trans (x_iinc 74 d_X8_willBe_71 rfl rfl) ?_
          show q_ex E q_m_X8_willBe 74 [Value.ref am, Value.int (zi cell), Value.int (zi fr), Value.int (zi but), Value.int (zi (r + 1)), Value.int (zi (bI (False ∨ exI (fun t => ahd (M 1) r t = cell) (32 - fr).toNat fr))), Value.int (zi 32)] [] (q_mw h am M) = _
          refine Eq.trans (x_goto 3 d_X8_willBe_74 rfl) ?_
          refine (ih (r + 1) _ _ (by omega) (by omega)).trans ?_
          rw [fnd_f (wb_n (by first | exact .inl k59 | exact .inr k65))]
        · refine Eq.trans (x_iload 70 d_X8_willBe_68 rfl rfl) ?_
          refine Eq.trans (x_ireturn d_X8_willBe_70 rfl rfl) (lf ?_)
          rw [fnd_t (wb_i k59 k65)]
theorem S_X8_willBe (hR : Rg (M 1)) {cell fr but : Int} (f0 : 0 ≤ fr) (f1 : fr ≤ 32) (hcell : -2147483648 ≤ cell) (jcell : cell < 2147483648) (hbut : -2147483648 ≤ but) (jbut : but < 2147483648) : q_cl E q_m_X8_willBe [Value.ref am, Value.int (zi cell), Value.int (zi fr), Value.int (zi but)] (q_mw h am M) = some (.inl (some (Value.int (zi (wbe (M 1) cell fr but)))), (q_mw h am M)) := by
  show q_ex E q_m_X8_willBe 0 [Value.ref am, Value.int (zi cell), Value.int (zi fr), Value.int (zi but), Value.null, Value.null, Value.null] [] (q_mw h am M) = _
  obtain ⟨hr, g0, g1, g3, g4, gc, g5, g6, g7, gk, gl, gr, go⟩ := id hR
  refine Eq.trans (x_iconst 1 d_X8_willBe_0 rfl) ?_
  refine Eq.trans (x_istore 3 d_X8_willBe_1 rfl (Nat.le_of_ble_eq_true rfl)) ?_
  show q_ex E q_m_X8_willBe 3 [Value.ref am, Value.int (zi cell), Value.int (zi fr), Value.int (zi but), Value.int (zi 0), Value.null, Value.null] [] (q_mw h am M) = _
  exact L_X8_willBe hR f0 f1 (by omega) (by omega) (by omega) (by omega) (M 1 3).toNat 0 _ _ (by omega) (by omega)
theorem L_X8_mayGo (hR : Rg (M 1)) {robot fr to t : Int} (t0 : 0 ≤ t) (t1 : t < 1000) (hrobot : -2147483648 ≤ robot) (jrobot : robot < 2147483648) (hfr : -2147483648 ≤ fr) (jfr : fr < 2147483648) (hto : -2147483648 ≤ to) (jto : to < 2147483648) : ∀ (n : Nat) (v : Int) (p : Prop) (r : Int), (r + n = M 1 3) → (0 ≤ r) → (v = bI p) → q_ex E q_m_X8_mayGo 10 [Value.ref am, Value.int (zi robot), Value.int (zi fr), Value.int (zi to), Value.int (zi t), Value.int (zi v), Value.int (zi r)] [] (q_mw h am M) = some (.inl (some (Value.int (zi (bI (p ∧ alI (okR (M 1) robot fr to t) r (M 1 3)))))), q_mw h am M) := by
  obtain ⟨hr, g0, g1, g3, g4, gc, g5, g6, g7, gk, gl, gr, go⟩ := id hR
  intro n
  induction n with
  | zero =>
    intro v p r e h0 hv
    have hvr := bI_r p
    refine Eq.trans (x_iload 12 d_X8_mayGo_10 rfl rfl) ?_
    refine Eq.trans (x_aload_n 13 d_X8_mayGo_12 rfl rfl) ?_
    refine Eq.trans (x_getfield 16 d_X8_mayGo_13 rfl f_8_9 (Nat.le_of_ble_eq_true rfl) (Nat.le_of_ble_eq_true rfl) (q_gf_of m_o rfl)) ?_
    refine Eq.trans (x_iconst 17 d_X8_mayGo_16 rfl) ?_
    refine Eq.trans (x_iaload 18 d_X8_mayGo_17 rfl ((m_g1 (by omega) (by omega)).trans (rfl : _ = some (Value.int (zi ((M 1) 3)))))) ?_
    have q1 : -1000000 ≤ (M 1) 3 ∧ (M 1) 3 ≤ 1000000 := hr _
    refine x_icmp_ge 85 21 d_X8_mayGo_18 rfl rfl (by omega) (by omega) (by omega) (by omega) (fun k18 => ?_) (fun k18 => ?_)
    · refine Eq.trans (x_iload 87 d_X8_mayGo_85 rfl rfl) ?_
      refine Eq.trans (x_ireturn d_X8_mayGo_87 rfl (by rw [hv]; exact nb_bI)) (lf ?_)
      rw [hv, bI_c (and_iff_left (alI_0 (by omega)))]
    · omega
  | succ n ih =>
    intro v p r e h0 hv
    have hvr := bI_r p
    refine Eq.trans (x_iload 12 d_X8_mayGo_10 rfl rfl) ?_
    refine Eq.trans (x_aload_n 13 d_X8_mayGo_12 rfl rfl) ?_
    refine Eq.trans (x_getfield 16 d_X8_mayGo_13 rfl f_8_9 (Nat.le_of_ble_eq_true rfl) (Nat.le_of_ble_eq_true rfl) (q_gf_of m_o rfl)) ?_
    refine Eq.trans (x_iconst 17 d_X8_mayGo_16 rfl) ?_
    refine Eq.trans (x_iaload 18 d_X8_mayGo_17 rfl ((m_g1 (by omega) (by omega)).trans (rfl : _ = some (Value.int (zi ((M 1) 3)))))) ?_
    have q1 : -1000000 ≤ (M 1) 3 ∧ (M 1) 3 ≤ 1000000 := hr _
    refine x_icmp_ge 85 21 d_X8_mayGo_18 rfl rfl (by omega) (by omega) (by omega) (by omega) (fun k18 => ?_) (fun k18 => ?_)
    · omega
    · refine Eq.trans (x_iload 23 d_X8_mayGo_21 rfl rfl) ?_
      refine x_if_eq 85 26 d_X8_mayGo_23 rfl rfl (by omega) (by omega) (fun k23 => ?_) (fun k23 => ?_)
      · refine Eq.trans (x_iload 87 d_X8_mayGo_85 rfl rfl) ?_
        refine Eq.trans (x_ireturn d_X8_mayGo_87 rfl (by rw [hv]; exact nb_bI)) (lf ?_)
        rw [hv, bI_c (show p ↔ (p ∧ alI (okR (M 1) robot fr to t) r (M 1 3)) from ⟨fun x => absurd x (bI_0.mp (hv ▸ k23)), fun x => x.1⟩)]
      · have hp : p := bI_n0.mp (hv ▸ k23)
        refine Eq.trans (x_iload 28 d_X8_mayGo_26 rfl rfl) ?_
        refine Eq.trans (x_iload_n 29 d_X8_mayGo_28 rfl rfl) ?_
        refine x_icmp_eq 72 32 d_X8_mayGo_29 rfl rfl (by omega) (by omega) (by omega) (by omega) (fun k29 => ?_) (fun k29 => ?_)
        · refine Eq.trans (x_iconst 73 d_X8_mayGo_72 rfl) ?_
          refine Eq.trans (x_goto 77 d_X8_mayGo_73 rfl) ?_
          refine Eq.trans (x_istore 79 d_X8_mayGo_77 rfl (Nat.le_of_ble_eq_true rfl)) ?_
          show q_ex E q_m_X8_mayGo 79 [Value.ref am, Value.int (zi robot), Value.int (zi fr), Value.int (zi to), Value.int (zi t), Value.int (zi 1), Value.int (zi r)] [] (q_mw h am M) = _
          refine Eq.trans (x_iinc 82 d_X8_mayGo_79 rfl rfl) ?_
          show q_ex E q_m_X8_mayGo 82 [Value.ref am, Value.int (zi robot), Value.int (zi fr), Value.int (zi to), Value.int (zi t), Value.int (zi 1), Value.int (zi (r + 1))] [] (q_mw h am M) = _
          refine Eq.trans (x_goto 10 d_X8_mayGo_82 rfl) ?_
          refine (ih 1 (okR (M 1) robot fr to t r) (r + 1) (by omega) (by omega) (bI_t ?_).symm).trans ?_
          · omega
          · rw [bI_c (show (p ∧ alI (okR (M 1) robot fr to t) r (M 1 3)) ↔ (okR (M 1) robot fr to t r ∧ alI (okR (M 1) robot fr to t) (r + 1) (M 1 3)) from (and_iff_right hp).trans (alI_s (by omega)))]
        · refine Eq.trans (x_aload_n 33 d_X8_mayGo_32 rfl rfl) ?_
          refine Eq.trans (x_iload 35 d_X8_mayGo_33 rfl rfl) ?_
          refine Eq.trans (x_iload 37 d_X8_mayGo_35 rfl rfl) ?_
          refine Eq.trans (x_iconst 38 d_X8_mayGo_37 rfl) ?_
          refine Eq.trans (x_iadd 39 d_X8_mayGo_38 rfl) ?_
          refine Eq.trans (x_inv1 42 (as := [Value.int (zi r), Value.int (zi (t + 1))]) d_X8_mayGo_39 rfl c_8_83 rfl (Nat.le_of_ble_eq_true rfl) (Nat.le_of_ble_eq_true rfl) m_o (Nat.le_of_ble_eq_true rfl) (Nat.le_of_ble_eq_true rfl) rfl (S_X8_cellOf hR (by omega) (by omega) (by omega))) ?_
          have q2 := ahd_r hR (r := r) (t := t + 1) (by omega) (by omega)
          refine Eq.trans (x_iload_n 43 d_X8_mayGo_42 rfl rfl) ?_
          refine x_icmp_eq 76 46 d_X8_mayGo_43 rfl rfl (by omega) (by omega) (by omega) (by omega) (fun k43 => ?_) (fun k43 => ?_)
          · refine Eq.trans (x_iconst 77 d_X8_mayGo_76 rfl) ?_
            refine Eq.trans (x_istore 79 d_X8_mayGo_77 rfl (Nat.le_of_ble_eq_true rfl)) ?_
            show q_ex E q_m_X8_mayGo 79 [Value.ref am, Value.int (zi robot), Value.int (zi fr), Value.int (zi to), Value.int (zi t), Value.int (zi 0), Value.int (zi r)] [] (q_mw h am M) = _
            refine Eq.trans (x_iinc 82 d_X8_mayGo_79 rfl rfl) ?_
            show q_ex E q_m_X8_mayGo 82 [Value.ref am, Value.int (zi robot), Value.int (zi fr), Value.int (zi to), Value.int (zi t), Value.int (zi 0), Value.int (zi (r + 1))] [] (q_mw h am M) = _
            refine Eq.trans (x_goto 10 d_X8_mayGo_82 rfl) ?_
            refine (ih 0 (okR (M 1) robot fr to t r) (r + 1) (by omega) (by omega) (bI_f ?_).symm).trans ?_
            · omega
            · rw [bI_c (show (p ∧ alI (okR (M 1) robot fr to t) r (M 1 3)) ↔ (okR (M 1) robot fr to t r ∧ alI (okR (M 1) robot fr to t) (r + 1) (M 1 3)) from (and_iff_right hp).trans (alI_s (by omega)))]
          · refine Eq.trans (x_aload_n 47 d_X8_mayGo_46 rfl rfl) ?_
            refine Eq.trans (x_iload 49 d_X8_mayGo_47 rfl rfl) ?_
            refine Eq.trans (x_iload 51 d_X8_mayGo_49 rfl rfl) ?_
            refine Eq.trans (x_iconst 52 d_X8_mayGo_51 rfl) ?_
            refine Eq.trans (x_iadd 53 d_X8_mayGo_52 rfl) ?_
            refine Eq.trans (x_inv1 56 (as := [Value.int (zi r), Value.int (zi (t + 1))]) d_X8_mayGo_53 rfl c_8_83 rfl (Nat.le_of_ble_eq_true rfl) (Nat.le_of_ble_eq_true rfl) m_o (Nat.le_of_ble_eq_true rfl) (Nat.le_of_ble_eq_true rfl) rfl (S_X8_cellOf hR (by omega) (by omega) (by omega))) ?_
            have q3 := ahd_r hR (r := r) (t := t + 1) (by omega) (by omega)
            refine Eq.trans (x_iload_n 57 d_X8_mayGo_56 rfl rfl) ?_
            refine x_icmp_ne 72 60 d_X8_mayGo_57 rfl rfl (by omega) (by omega) (by omega) (by omega) (fun k57 => ?_) (fun k57 => ?_)
            · refine Eq.trans (x_iconst 73 d_X8_mayGo_72 rfl) ?_
              refine Eq.trans (x_goto 77 d_X8_mayGo_73 rfl) ?_
              refine Eq.trans (x_istore 79 d_X8_mayGo_77 rfl (Nat.le_of_ble_eq_true rfl)) ?_
              show q_ex E q_m_X8_mayGo 79 [Value.ref am, Value.int (zi robot), Value.int (zi fr), Value.int (zi to), Value.int (zi t), Value.int (zi 1), Value.int (zi r)] [] (q_mw h am M) = _
              refine Eq.trans (x_iinc 82 d_X8_mayGo_79 rfl rfl) ?_
              show q_ex E q_m_X8_mayGo 82 [Value.ref am, Value.int (zi robot), Value.int (zi fr), Value.int (zi to), Value.int (zi t), Value.int (zi 1), Value.int (zi (r + 1))] [] (q_mw h am M) = _
              refine Eq.trans (x_goto 10 d_X8_mayGo_82 rfl) ?_
              refine (ih 1 (okR (M 1) robot fr to t r) (r + 1) (by omega) (by omega) (bI_t ?_).symm).trans ?_
              · omega
              · rw [bI_c (show (p ∧ alI (okR (M 1) robot fr to t) r (M 1 3)) ↔ (okR (M 1) robot fr to t r ∧ alI (okR (M 1) robot fr to t) (r + 1) (M 1 3)) from (and_iff_right hp).trans (alI_s (by omega)))]
            · refine Eq.trans (x_aload_n 61 d_X8_mayGo_60 rfl rfl) ?_
              refine Eq.trans (x_iload 63 d_X8_mayGo_61 rfl rfl) ?_
              refine Eq.trans (x_iload 65 d_X8_mayGo_63 rfl rfl) ?_
              refine Eq.trans (x_inv1 68 (as := [Value.int (zi r), Value.int (zi t)]) d_X8_mayGo_65 rfl c_8_83 rfl (Nat.le_of_ble_eq_true rfl) (Nat.le_of_ble_eq_true rfl) m_o (Nat.le_of_ble_eq_true rfl) (Nat.le_of_ble_eq_true rfl) rfl (S_X8_cellOf hR (by omega) (by omega) (by omega))) ?_
              have q4 := ahd_r hR (r := r) (t := t) (by omega) (by omega)
              refine Eq.trans (x_iload_n 69 d_X8_mayGo_68 rfl rfl) ?_
              refine x_icmp_eq 76 72 d_X8_mayGo_69 rfl rfl (by omega) (by omega) (by omega) (by omega) (fun k69 => ?_) (fun k69 => ?_)
              · refine Eq.trans (x_iconst 77 d_X8_mayGo_76 rfl) ?_
                refine Eq.trans (x_istore 79 d_X8_mayGo_77 rfl (Nat.le_of_ble_eq_true rfl)) ?_
                show q_ex E q_m_X8_mayGo 79 [Value.ref am, Value.int (zi robot), Value.int (zi fr), Value.int (zi to), Value.int (zi t), Value.int (zi 0), Value.int (zi r)] [] (q_mw h am M) = _
                refine Eq.trans (x_iinc 82 d_X8_mayGo_79 rfl rfl) ?_
                show q_ex E q_m_X8_mayGo 82 [Value.ref am, Value.int (zi robot), Value.int (zi fr), Value.int (zi to), Value.int (zi t), Value.int (zi 0), Value.int (zi (r + 1))] [] (q_mw h am M) = _
                refine Eq.trans (x_goto 10 d_X8_mayGo_82 rfl) ?_
                refine (ih 0 (okR (M 1) robot fr to t r) (r + 1) (by omega) (by omega) (bI_f ?_).symm).trans ?_
                · omega
                · rw [bI_c (show (p ∧ alI (okR (M 1) robot fr to t) r (M 1 3)) ↔ (okR (M 1) robot fr to t r ∧ alI (okR (M 1) robot fr to t) (r + 1) (M 1 3)) from (and_iff_right hp).trans (alI_s (by omega)))]
              · refine Eq.trans (x_iconst 73 d_X8_mayGo_72 rfl) ?_
                refine Eq.trans (x_goto 77 d_X8_mayGo_73 rfl) ?_
                refine Eq.trans (x_istore 79 d_X8_mayGo_77 rfl (Nat.le_of_ble_eq_true rfl)) ?_
                show q_ex E q_m_X8_mayGo 79 [Value.ref am, Value.int (zi robot), Value.int (zi fr), Value.int (zi to), Value.int (zi t), Value.int (zi 1), Value.int (zi r)] [] (q_mw h am M) = _
                refine Eq.trans (x_iinc 82 d_X8_mayGo_79 rfl rfl) ?_
                show q_ex E q_m_X8_mayGo 82 [Value.ref am, Value.int (zi robot), Value.int (zi fr), Value.int (zi to), Value.int (zi t), Value.int (zi 1), Value.int (zi (r + 1))] [] (q_mw h am M) = _
                refine Eq.trans (x_goto 10 d_X8_mayGo_82 rfl) ?_
                refine (ih 1 (okR (M 1) robot fr to t r) (r + 1) (by omega) (by omega) (bI_t ?_).symm).trans ?_
                · omega
                · rw [bI_c (show (p ∧ alI (okR (M 1) robot fr to t) r (M 1 3)) ↔ (okR (M 1) robot fr to t r ∧ alI (okR (M 1) robot fr to t) (r + 1) (M 1 3)) from (and_iff_right hp).trans (alI_s (by omega)))]
theorem S_X8_mayGo (hR : Rg (M 1)) {robot fr to t : Int} (t0 : 0 ≤ t) (t1 : t < 1000) (u0 : 0 ≤ to) (u1 : to < 48) (hrobot : -2147483648 ≤ robot) (jrobot : robot < 2147483648) (hfr : -2147483648 ≤ fr) (jfr : fr < 2147483648) : q_cl E q_m_X8_mayGo [Value.ref am, Value.int (zi robot), Value.int (zi fr), Value.int (zi to), Value.int (zi t)] (q_mw h am M) = some (.inl (some (Value.int (zi (bI (mgo (M 1) robot fr to t))))), (q_mw h am M)) := by
  show q_ex E q_m_X8_mayGo 0 [Value.ref am, Value.int (zi robot), Value.int (zi fr), Value.int (zi to), Value.int (zi t), Value.null, Value.null] [] (q_mw h am M) = _
  obtain ⟨hr, g0, g1, g3, g4, gc, g5, g6, g7, gk, gl, gr, go⟩ := id hR
  refine Eq.trans (x_aload_n 1 d_X8_mayGo_0 rfl rfl) ?_
  refine Eq.trans (x_iload_n 2 d_X8_mayGo_1 rfl rfl) ?_
  refine Eq.trans (x_inv1 5 (as := [Value.int (zi to)]) d_X8_mayGo_2 rfl c_8_93 rfl (Nat.le_of_ble_eq_true rfl) (Nat.le_of_ble_eq_true rfl) m_o (Nat.le_of_ble_eq_true rfl) (Nat.le_of_ble_eq_true rfl) rfl (S_X8_canEnter hR (by omega) (by omega))) ?_
  refine Eq.trans (x_istore 7 d_X8_mayGo_5 rfl (Nat.le_of_ble_eq_true rfl)) ?_
  show q_ex E q_m_X8_mayGo 7 [Value.ref am, Value.int (zi robot), Value.int (zi fr), Value.int (zi to), Value.int (zi t), Value.int (zi (bI (ent (M 1) to))), Value.null] [] (q_mw h am M) = _
  refine Eq.trans (x_iconst 8 d_X8_mayGo_7 rfl) ?_
  refine Eq.trans (x_istore 10 d_X8_mayGo_8 rfl (Nat.le_of_ble_eq_true rfl)) ?_
  show q_ex E q_m_X8_mayGo 10 [Value.ref am, Value.int (zi robot), Value.int (zi fr), Value.int (zi to), Value.int (zi t), Value.int (zi (bI (ent (M 1) to))), Value.int (zi 0)] [] (q_mw h am M) = _
  exact L_X8_mayGo hR t0 t1 (by omega) (by omega) (by omega) (by omega) (by omega) (by omega) (M 1 3).toNat _ _ 0 (by omega) (by omega) rfl
theorem S_X8_robotIn_ : True := trivial
theorem L_X8_robotIn (hR : Rg (M 1)) {cell t : Int} (t0 : 0 ≤ t) (t1 : t < 2147483648) (hcell : -2147483648 ≤ cell) (jcell : cell < 2147483648) : ∀ (n : Nat) (j : Nat) (v : Int) (r : Int), (r + 1 = n) → (r + 1 + j = M 1 3) → (v = fnd (fun r => ahd (M 1) r t = cell) j (r + 1)) → q_ex E q_m_X8_robotIn 12 [Value.ref am, Value.int (zi cell), Value.int (zi t), Value.int (zi v), Value.int (zi r)] [] (q_mw h am M) = some (.inl (some (Value.int (zi (fnd (fun r => ahd (M 1) r t = cell) (j + n) 0)))), q_mw h am M) := by
  obtain ⟨hr, g0, g1, g3, g4, gc, g5, g6, g7, gk, gl, gr, go⟩ := id hR
  intro n
  induction n with
  | zero =>
    intro j v r e h0 hv
    have hvr := @fnd_r (fun r => ahd (M 1) r t = cell) j (r + 1)
    refine Eq.trans (x_iload 14 d_X8_robotIn_12 rfl rfl) ?_
    refine x_if_lt 41 17 d_X8_robotIn_14 rfl rfl (by omega) (by omega) (fun k14 => ?_) (fun k14 => ?_)
    · refine Eq.trans (x_iload_n 42 d_X8_robotIn_41 rfl rfl) ?_
      refine Eq.trans (x_ireturn d_X8_robotIn_42 rfl rfl) (lf ?_)
      rw [hv, show r + 1 = 0 by omega]; rfl
    · omega
  | succ n ih =>
    intro j v r e h0 hv
    have hvr := @fnd_r (fun r => ahd (M 1) r t = cell) j (r + 1)
    refine Eq.trans (x_iload 14 d_X8_robotIn_12 rfl rfl) ?_
    refine x_if_lt 41 17 d_X8_robotIn_14 rfl rfl (by omega) (by omega) (fun k14 => ?_) (fun k14 => ?_)
    · omega
    · refine Eq.trans (x_aload_n 18 d_X8_robotIn_17 rfl rfl) ?_
      refine Eq.trans (x_iload 20 d_X8_robotIn_18 rfl rfl) ?_
      refine Eq.trans (x_iload_n 21 d_X8_robotIn_20 rfl rfl) ?_
      refine Eq.trans (x_inv1 24 (as := [Value.int (zi r), Value.int (zi t)]) d_X8_robotIn_21 rfl c_8_83 rfl (Nat.le_of_ble_eq_true rfl) (Nat.le_of_ble_eq_true rfl) m_o (Nat.le_of_ble_eq_true rfl) (Nat.le_of_ble_eq_true rfl) rfl (S_X8_cellOf hR (by omega) (by omega) (by omega))) ?_
      have q1 := ahd_r hR (r := r) (t := t) (by omega) (by omega)
      refine Eq.trans (x_iload_n 25 d_X8_robotIn_24 rfl rfl) ?_
      refine x_icmp_ne 33 28 d_X8_robotIn_25 rfl rfl (by omega) (by omega) (by omega) (by omega) (fun k25 => ?_) (fun k25 => ?_)
      · refine Eq.trans (x_iload_n 34 d_X8_robotIn_33 rfl rfl) ?_
        refine Eq.trans (x_istore_n 35 d_X8_robotIn_34 rfl (Nat.le_of_ble_eq_true rfl)) ?_
        show q_ex E q_m_X8_robotIn 35 [Value.ref am, Value.int (zi cell), Value.int (zi t), Value.int (zi v), Value.int (zi r)] [] (q_mw h am M) = _
        refine Eq.trans (x_iinc 38 d_X8_robotIn_35 rfl rfl) ?_
        show q_ex E q_m_X8_robotIn 38 [Value.ref am, Value.int (zi cell), Value.int (zi t), Value.int (zi v), Value.int (zi (r + (-1)))] [] (q_mw h am M) = _
        refine Eq.trans (x_goto 12 d_X8_robotIn_38 rfl) ?_
        rw [show j + (n + 1) = (j + 1) + n by omega]
        refine ih (j + 1) _ (r - 1) (by omega) (by omega) ?_
        rw [show r - 1 + 1 = r by omega]
        first | exact (fnd_t (P := (fun r => ahd (M 1) r t = cell)) k25).symm | exact hv.trans (fnd_f (P := (fun r => ahd (M 1) r t = cell)) k25).symm
      · refine Eq.trans (x_iload 30 d_X8_robotIn_28 rfl rfl) ?_
        refine Eq.trans (x_goto 34 d_X8_robotIn_30 rfl) ?_
        refine Eq.trans (x_istore_n 35 d_X8_robotIn_34 rfl (Nat.le_of_ble_eq_true rfl)) ?_
        show q_ex E q_m_X8_robotIn 35 [Value.ref am, Value.int (zi cell), Value.int (zi t), Value.int (zi r), Value.int (zi r)] [] (q_mw h am M) = _
        refine Eq.trans (x_iinc 38 d_X8_robotIn_35 rfl rfl) ?_
        show q_ex E q_m_X8_robotIn 38 [Value.ref am, Value.int (zi cell), Value.int (zi t), Value.int (zi r), Value.int (zi (r + (-1)))] [] (q_mw h am M) = _
        refine Eq.trans (x_goto 12 d_X8_robotIn_38 rfl) ?_
        rw [show j + (n + 1) = (j + 1) + n by omega]
        refine ih (j + 1) _ (r - 1) (by omega) (by omega) ?_
        rw [show r - 1 + 1 = r by omega]
        first | exact (fnd_t (P := (fun r => ahd (M 1) r t = cell)) k25).symm | exact hv.trans (fnd_f (P := (fun r => ahd (M 1) r t = cell)) k25).symm
theorem S_X8_robotIn (hR : Rg (M 1)) {cell t : Int} (t0 : 0 ≤ t) (t1 : t < 2147483648) (hcell : -2147483648 ≤ cell) (jcell : cell < 2147483648) : q_cl E q_m_X8_robotIn [Value.ref am, Value.int (zi cell), Value.int (zi t)] (q_mw h am M) = some (.inl (some (Value.int (zi (rin (M 1) cell t)))), (q_mw h am M)) := by
  show q_ex E q_m_X8_robotIn 0 [Value.ref am, Value.int (zi cell), Value.int (zi t), Value.null, Value.null] [] (q_mw h am M) = _
  obtain ⟨hr, g0, g1, g3, g4, gc, g5, g6, g7, gk, gl, gr, go⟩ := id hR
  refine Eq.trans (x_iconst 1 d_X8_robotIn_0 rfl) ?_
  refine Eq.trans (x_istore_n 2 d_X8_robotIn_1 rfl (Nat.le_of_ble_eq_true rfl)) ?_
  show q_ex E q_m_X8_robotIn 2 [Value.ref am, Value.int (zi cell), Value.int (zi t), Value.int (zi (-1)), Value.null] [] (q_mw h am M) = _
  refine Eq.trans (x_aload_n 3 d_X8_robotIn_2 rfl rfl) ?_
  refine Eq.trans (x_getfield 6 d_X8_robotIn_3 rfl f_8_9 (Nat.le_of_ble_eq_true rfl) (Nat.le_of_ble_eq_true rfl) (q_gf_of m_o rfl)) ?_
  refine Eq.trans (x_iconst 7 d_X8_robotIn_6 rfl) ?_
  refine Eq.trans (x_iaload 8 d_X8_robotIn_7 rfl ((m_g1 (by omega) (by omega)).trans (rfl : _ = some (Value.int (zi ((M 1) 3)))))) ?_
  have q1 : -1000000 ≤ (M 1) 3 ∧ (M 1) 3 ≤ 1000000 := hr _
  refine Eq.trans (x_iconst 9 d_X8_robotIn_8 rfl) ?_
  refine Eq.trans (x_isub 10 d_X8_robotIn_9 rfl) ?_
  refine Eq.trans (x_istore 12 d_X8_robotIn_10 rfl (Nat.le_of_ble_eq_true rfl)) ?_
  show q_ex E q_m_X8_robotIn 12 [Value.ref am, Value.int (zi cell), Value.int (zi t), Value.int (zi (-1)), Value.int (zi (((M 1) 3) - 1))] [] (q_mw h am M) = _
  refine Eq.trans (L_X8_robotIn hR t0 t1 (by omega) (by omega) (M 1 3).toNat 0 _ (M 1 3 - 1) (by omega) (by omega) rfl) ?_
  rw [Nat.zero_add]; rfl
theorem L_X8_overRobots (hR : Rg (M 1)) {w : Int} (w0 : 0 ≤ w) (w1 : w < 36) : ∀ (n : Nat) (a : Int) (r : Int), (r + n = M 1 3) → (0 ≤ r) → q_ex E q_m_X8_overRobots 4 [Value.ref am, Value.int (zi w), Value.int (zi a), Value.int (zi r)] [] (q_mw h am M) = some (.inl (some (Value.int (zi (lpI (fun k a => a + rb (M 1) k w) n r a)))), q_mw h am M) := by
  obtain ⟨hr, g0, g1, g3, g4, gc, g5, g6, g7, gk, gl, gr, go⟩ := id hR
  intro n
  induction n with
  | zero =>
    intro a r e h0
    refine Eq.trans (x_iload_n 5 d_X8_overRobots_4 rfl rfl) ?_
    refine Eq.trans (x_aload_n 6 d_X8_overRobots_5 rfl rfl) ?_
    refine Eq.trans (x_getfield 9 d_X8_overRobots_6 rfl f_8_9 (Nat.le_of_ble_eq_true rfl) (Nat.le_of_ble_eq_true rfl) (q_gf_of m_o rfl)) ?_
    refine Eq.trans (x_iconst 10 d_X8_overRobots_9 rfl) ?_
    refine Eq.trans (x_iaload 11 d_X8_overRobots_10 rfl ((m_g1 (by omega) (by omega)).trans (rfl : _ = some (Value.int (zi ((M 1) 3)))))) ?_
    have q1 : -1000000 ≤ (M 1) 3 ∧ (M 1) 3 ≤ 1000000 := hr _
    refine x_icmp_ge 29 14 d_X8_overRobots_11 rfl rfl (by omega) (by omega) (by omega) (by omega) (fun k11 => ?_) (fun k11 => ?_)
    · refine Eq.trans (x_iload_n 30 d_X8_overRobots_29 rfl rfl) ?_
      refine Eq.trans (x_ireturn d_X8_overRobots_30 rfl rfl) (lf ?_)
      rfl
    · omega
  | succ n ih =>
    intro a r e h0
    refine Eq.trans (x_iload_n 5 d_X8_overRobots_4 rfl rfl) ?_
    refine Eq.trans (x_aload_n 6 d_X8_overRobots_5 rfl rfl) ?_
    refine Eq.trans (x_getfield 9 d_X8_overRobots_6 rfl f_8_9 (Nat.le_of_ble_eq_true rfl) (Nat.le_of_ble_eq_true rfl) (q_gf_of m_o rfl)) ?_
    refine Eq.trans (x_iconst 10 d_X8_overRobots_9 rfl) ?_
    refine Eq.trans (x_iaload 11 d_X8_overRobots_10 rfl ((m_g1 (by omega) (by omega)).trans (rfl : _ = some (Value.int (zi ((M 1) 3)))))) ?_
    have q1 : -1000000 ≤ (M 1) 3 ∧ (M 1) 3 ≤ 1000000 := hr _
    refine x_icmp_ge 29 14 d_X8_overRobots_11 rfl rfl (by omega) (by omega) (by omega) (by omega) (fun k11 => ?_) (fun k11 => ?_)
    · omega
    · refine Eq.trans (x_iload_n 15 d_X8_overRobots_14 rfl rfl) ?_
      refine Eq.trans (x_aload_n 16 d_X8_overRobots_15 rfl rfl) ?_
      refine Eq.trans (x_iload_n 17 d_X8_overRobots_16 rfl rfl) ?_
      refine Eq.trans (x_iload_n 18 d_X8_overRobots_17 rfl rfl) ?_
      refine Eq.trans (x_inv1 21 (as := [Value.int (zi r), Value.int (zi w)]) d_X8_overRobots_18 rfl c_8_79 rfl (Nat.le_of_ble_eq_true rfl) (Nat.le_of_ble_eq_true rfl) m_o (Nat.le_of_ble_eq_true rfl) (Nat.le_of_ble_eq_true rfl) rfl (S_X8_of hR (by omega) (by omega) (by omega) (by omega))) ?_
      have q2 : -1000000 ≤ rb (M 1) r w ∧ rb (M 1) r w ≤ 1000000 := hr _
      refine Eq.trans (x_iadd 22 d_X8_overRobots_21 rfl) ?_
      refine Eq.trans (x_istore_n 23 d_X8_overRobots_22 rfl (Nat.le_of_ble_eq_true rfl)) ?_
      show q_ex E q_m_X8_overRobots 23 [Value.ref am, Value.int (zi w), Value.int (zi (a + (rb (M 1) r w))), Value.int (zi r)] [] (q_mw h am M) = _
      refine Eq.trans (x_iinc 26 d_X8_overRobots_23 rfl rfl) ?_
      show q_ex E q_m_X8_overRobots 26 [Value.ref am, Value.int (zi w), Value.int (zi (a + (rb (M 1) r w))), Value.int (zi (r + 1))] [] (q_mw h am M) = _
      refine Eq.trans (x_goto 4 d_X8_overRobots_26 rfl) ?_
      exact ih (a + rb (M 1) r w) (r + 1) (by omega) (by omega)
theorem S_X8_overRobots (hR : Rg (M 1)) {w : Int} (w0 : 0 ≤ w) (w1 : w < 36) : q_cl E q_m_X8_overRobots [Value.ref am, Value.int (zi w)] (q_mw h am M) = some (.inl (some (Value.int (zi (ovR (M 1) w)))), (q_mw h am M)) := by
  show q_ex E q_m_X8_overRobots 0 [Value.ref am, Value.int (zi w), Value.null, Value.null] [] (q_mw h am M) = _
  obtain ⟨hr, g0, g1, g3, g4, gc, g5, g6, g7, gk, gl, gr, go⟩ := id hR
  refine Eq.trans (x_iconst 1 d_X8_overRobots_0 rfl) ?_
  refine Eq.trans (x_istore_n 2 d_X8_overRobots_1 rfl (Nat.le_of_ble_eq_true rfl)) ?_
  show q_ex E q_m_X8_overRobots 2 [Value.ref am, Value.int (zi w), Value.int (zi 0), Value.null] [] (q_mw h am M) = _
  refine Eq.trans (x_iconst 3 d_X8_overRobots_2 rfl) ?_
  refine Eq.trans (x_istore_n 4 d_X8_overRobots_3 rfl (Nat.le_of_ble_eq_true rfl)) ?_
  show q_ex E q_m_X8_overRobots 4 [Value.ref am, Value.int (zi w), Value.int (zi 0), Value.int (zi 0)] [] (q_mw h am M) = _
  exact L_X8_overRobots hR w0 w1 (M 1 3).toNat 0 0 (by omega) (by omega)
theorem L_X8_overOrders (hR : Rg (M 1)) {w : Int} (w0 : -1 ≤ w) (w1 : w < 36) : ∀ (n : Nat) (a : Int) (o : Int), (o + n = M 1 4) → (0 ≤ o) → q_ex E q_m_X8_overOrders 4 [Value.ref am, Value.int (zi w), Value.int (zi a), Value.int (zi o)] [] (q_mw h am M) = some (.inl (some (Value.int (zi (lpI (fun k a => a + (if w < 0 then ob (M 1) k 2 else if sto (M 1) k = w then 1 else 0)) n o a)))), q_mw h am M) := by
  obtain ⟨hr, g0, g1, g3, g4, gc, g5, g6, g7, gk, gl, gr, go⟩ := id hR
  intro n
  induction n with
  | zero =>
    intro a o e h0
    refine Eq.trans (x_iload_n 5 d_X8_overOrders_4 rfl rfl) ?_
    refine Eq.trans (x_aload_n 6 d_X8_overOrders_5 rfl rfl) ?_
    refine Eq.trans (x_getfield 9 d_X8_overOrders_6 rfl f_8_9 (Nat.le_of_ble_eq_true rfl) (Nat.le_of_ble_eq_true rfl) (q_gf_of m_o rfl)) ?_
    refine Eq.trans (x_iconst 10 d_X8_overOrders_9 rfl) ?_
    refine Eq.trans (x_iaload 11 d_X8_overOrders_10 rfl ((m_g1 (by omega) (by omega)).trans (rfl : _ = some (Value.int (zi ((M 1) 4)))))) ?_
    have q1 : -1000000 ≤ (M 1) 4 ∧ (M 1) 4 ≤ 1000000 := hr _
    refine x_icmp_ge 50 14 d_X8_overOrders_11 rfl rfl (by omega) (by omega) (by omega) (by omega) (fun k11 => ?_) (fun k11 => ?_)
    · refine Eq.trans (x_iload_n 51 d_X8_overOrders_50 rfl rfl) ?_
      refine Eq.trans (x_ireturn d_X8_overOrders_51 rfl rfl) (lf ?_)
      rfl
    · omega
  | succ n ih =>
    intro a o e h0
    refine Eq.trans (x_iload_n 5 d_X8_overOrders_4 rfl rfl) ?_
    refine Eq.trans (x_aload_n 6 d_X8_overOrders_5 rfl rfl) ?_
    refine Eq.trans (x_getfield 9 d_X8_overOrders_6 rfl f_8_9 (Nat.le_of_ble_eq_true rfl) (Nat.le_of_ble_eq_true rfl) (q_gf_of m_o rfl)) ?_
    refine Eq.trans (x_iconst 10 d_X8_overOrders_9 rfl) ?_
    refine Eq.trans (x_iaload 11 d_X8_overOrders_10 rfl ((m_g1 (by omega) (by omega)).trans (rfl : _ = some (Value.int (zi ((M 1) 4)))))) ?_
    have q1 : -1000000 ≤ (M 1) 4 ∧ (M 1) 4 ≤ 1000000 := hr _
    refine x_icmp_ge 50 14 d_X8_overOrders_11 rfl rfl (by omega) (by omega) (by omega) (by omega) (fun k11 => ?_) (fun k11 => ?_)
    · omega
    · refine Eq.trans (x_iload_n 15 d_X8_overOrders_14 rfl rfl) ?_
      refine Eq.trans (x_iload_n 16 d_X8_overOrders_15 rfl rfl) ?_
      refine x_if_ge 28 19 d_X8_overOrders_16 rfl rfl (by omega) (by omega) (fun k16 => ?_) (fun k16 => ?_)
      · refine Eq.trans (x_aload_n 29 d_X8_overOrders_28 rfl rfl) ?_
        refine Eq.trans (x_iload_n 30 d_X8_overOrders_29 rfl rfl) ?_
        refine Eq.trans (x_inv1 33 (as := [Value.int (zi o)]) d_X8_overOrders_30 rfl c_8_115 rfl (Nat.le_of_ble_eq_true rfl) (Nat.le_of_ble_eq_true rfl) m_o (Nat.le_of_ble_eq_true rfl) (Nat.le_of_ble_eq_true rfl) rfl (S_X8_stateOf hR (by omega))) ?_
        have q2 := @sto_r (M 1) o
        refine Eq.trans (x_iload_n 34 d_X8_overOrders_33 rfl rfl) ?_
        refine x_icmp_ne 41 37 d_X8_overOrders_34 rfl rfl (by omega) (by omega) (by omega) (by omega) (fun k34 => ?_) (fun k34 => ?_)
        · refine Eq.trans (x_iconst 42 d_X8_overOrders_41 rfl) ?_
          refine Eq.trans (x_iadd 43 d_X8_overOrders_42 rfl) ?_
          refine Eq.trans (x_istore_n 44 d_X8_overOrders_43 rfl (Nat.le_of_ble_eq_true rfl)) ?_
          show q_ex E q_m_X8_overOrders 44 [Value.ref am, Value.int (zi w), Value.int (zi (a + 0)), Value.int (zi o)] [] (q_mw h am M) = _
          refine Eq.trans (x_iinc 47 d_X8_overOrders_44 rfl rfl) ?_
          show q_ex E q_m_X8_overOrders 47 [Value.ref am, Value.int (zi w), Value.int (zi (a + 0)), Value.int (zi (o + 1))] [] (q_mw h am M) = _
          refine Eq.trans (x_goto 4 d_X8_overOrders_47 rfl) ?_
          refine (ih (a + 0) (o + 1) (by omega) (by omega)).trans ?_
          show _ = some (Sum.inl (some (Value.int (zi (lpI (fun k a => a + (if w < 0 then ob (M 1) k 2 else if sto (M 1) k = w then 1 else 0)) n (o + 1) (a + (if w < 0 then ob (M 1) o 2 else if sto (M 1) o = w then 1 else 0)))))), q_mw h am M)
          repeat (first | rw [if_pos (by omega)] | rw [if_neg (by omega)])
        · refine Eq.trans (x_iconst 38 d_X8_overOrders_37 rfl) ?_
          refine Eq.trans (x_goto 42 d_X8_overOrders_38 rfl) ?_
          refine Eq.trans (x_iadd 43 d_X8_overOrders_42 rfl) ?_
          refine Eq.trans (x_istore_n 44 d_X8_overOrders_43 rfl (Nat.le_of_ble_eq_true rfl)) ?_
          show q_ex E q_m_X8_overOrders 44 [Value.ref am, Value.int (zi w), Value.int (zi (a + 1)), Value.int (zi o)] [] (q_mw h am M) = _
          refine Eq.trans (x_iinc 47 d_X8_overOrders_44 rfl rfl) ?_
          show q_ex E q_m_X8_overOrders 47 [Value.ref am, Value.int (zi w), Value.int (zi (a + 1)), Value.int (zi (o + 1))] [] (q_mw h am M) = _
          refine Eq.trans (x_goto 4 d_X8_overOrders_47 rfl) ?_
          refine (ih (a + 1) (o + 1) (by omega) (by omega)).trans ?_
          show _ = some (Sum.inl (some (Value.int (zi (lpI (fun k a => a + (if w < 0 then ob (M 1) k 2 else if sto (M 1) k = w then 1 else 0)) n (o + 1) (a + (if w < 0 then ob (M 1) o 2 else if sto (M 1) o = w then 1 else 0)))))), q_mw h am M)
          repeat (first | rw [if_pos (by omega)] | rw [if_neg (by omega)])
      · refine Eq.trans (x_aload_n 20 d_X8_overOrders_19 rfl rfl) ?_
        refine Eq.trans (x_iload_n 21 d_X8_overOrders_20 rfl rfl) ?_
        refine Eq.trans (x_iconst 22 d_X8_overOrders_21 rfl) ?_
        refine Eq.trans (x_inv1 25 (as := [Value.int (zi o), Value.int (zi 2)]) d_X8_overOrders_22 rfl c_8_109 rfl (Nat.le_of_ble_eq_true rfl) (Nat.le_of_ble_eq_true rfl) m_o (Nat.le_of_ble_eq_true rfl) (Nat.le_of_ble_eq_true rfl) rfl (S_X8_get hR (by omega) (by omega) (by omega) (by omega))) ?_
        have q3 : -1000000 ≤ ob (M 1) o 2 ∧ ob (M 1) o 2 ≤ 1000000 := hr _
        refine Eq.trans (x_goto 42 d_X8_overOrders_25 rfl) ?_
        refine Eq.trans (x_iadd 43 d_X8_overOrders_42 rfl) ?_
        refine Eq.trans (x_istore_n 44 d_X8_overOrders_43 rfl (Nat.le_of_ble_eq_true rfl)) ?_
        show q_ex E q_m_X8_overOrders 44 [Value.ref am, Value.int (zi w), Value.int (zi (a + (ob (M 1) o 2))), Value.int (zi o)] [] (q_mw h am M) = _
        refine Eq.trans (x_iinc 47 d_X8_overOrders_44 rfl rfl) ?_
        show q_ex E q_m_X8_overOrders 47 [Value.ref am, Value.int (zi w), Value.int (zi (a + (ob (M 1) o 2))), Value.int (zi (o + 1))] [] (q_mw h am M) = _
        refine Eq.trans (x_goto 4 d_X8_overOrders_47 rfl) ?_
        refine (ih (a + (ob (M 1) o 2)) (o + 1) (by omega) (by omega)).trans ?_
        show _ = some (Sum.inl (some (Value.int (zi (lpI (fun k a => a + (if w < 0 then ob (M 1) k 2 else if sto (M 1) k = w then 1 else 0)) n (o + 1) (a + (if w < 0 then ob (M 1) o 2 else if sto (M 1) o = w then 1 else 0)))))), q_mw h am M)
        repeat (first | rw [if_pos (by omega)] | rw [if_neg (by omega)])
theorem S_X8_overOrders (hR : Rg (M 1)) {w : Int} (w0 : -1 ≤ w) (w1 : w < 36) : q_cl E q_m_X8_overOrders [Value.ref am, Value.int (zi w)] (q_mw h am M) = some (.inl (some (Value.int (zi (ovO (M 1) w)))), (q_mw h am M)) := by
  show q_ex E q_m_X8_overOrders 0 [Value.ref am, Value.int (zi w), Value.null, Value.null] [] (q_mw h am M) = _
  obtain ⟨hr, g0, g1, g3, g4, gc, g5, g6, g7, gk, gl, gr, go⟩ := id hR
  refine Eq.trans (x_iconst 1 d_X8_overOrders_0 rfl) ?_
  refine Eq.trans (x_istore_n 2 d_X8_overOrders_1 rfl (Nat.le_of_ble_eq_true rfl)) ?_
  show q_ex E q_m_X8_overOrders 2 [Value.ref am, Value.int (zi w), Value.int (zi 0), Value.null] [] (q_mw h am M) = _
  refine Eq.trans (x_iconst 3 d_X8_overOrders_2 rfl) ?_
  refine Eq.trans (x_istore_n 4 d_X8_overOrders_3 rfl (Nat.le_of_ble_eq_true rfl)) ?_
  show q_ex E q_m_X8_overOrders 4 [Value.ref am, Value.int (zi w), Value.int (zi 0), Value.int (zi 0)] [] (q_mw h am M) = _
  exact L_X8_overOrders hR w0 w1 (M 1 4).toNat 0 0 (by omega) (by omega)
theorem S_X8_isAhead (hR : Rg (M 1)) {x y : Int} (h1 : isO (M 1) x) (h2 : isO (M 1) y) : q_cl E q_m_X8_isAhead [Value.ref am, Value.int (zi x), Value.int (zi y)] (q_mw h am M) = some (.inl (some (Value.int (zi (bI (ahO (M 1) x y))))), (q_mw h am M)) := by
  show q_ex E q_m_X8_isAhead 0 [Value.ref am, Value.int (zi x), Value.int (zi y), Value.null] [] (q_mw h am M) = _
  obtain ⟨hr, g0, g1, g3, g4, gc, g5, g6, g7, gk, gl, gr, go⟩ := id hR
  refine Eq.trans (x_aload_n 1 d_X8_isAhead_0 rfl rfl) ?_
  refine Eq.trans (x_iload_n 2 d_X8_isAhead_1 rfl rfl) ?_
  refine Eq.trans (x_iconst 3 d_X8_isAhead_2 rfl) ?_
  refine Eq.trans (x_inv1 6 (as := [Value.int (zi x), Value.int (zi 0)]) d_X8_isAhead_3 rfl c_8_109 rfl (Nat.le_of_ble_eq_true rfl) (Nat.le_of_ble_eq_true rfl) m_o (Nat.le_of_ble_eq_true rfl) (Nat.le_of_ble_eq_true rfl) rfl (S_X8_get hR (by omega) (by omega) (by omega) (by omega))) ?_
  have q1 : -1000000 ≤ ob (M 1) x 0 ∧ ob (M 1) x 0 ≤ 1000000 := hr _
  refine Eq.trans (x_aload_n 7 d_X8_isAhead_6 rfl rfl) ?_
  refine Eq.trans (x_iload_n 8 d_X8_isAhead_7 rfl rfl) ?_
  refine Eq.trans (x_iconst 9 d_X8_isAhead_8 rfl) ?_
  refine Eq.trans (x_inv1 12 (as := [Value.int (zi y), Value.int (zi 0)]) d_X8_isAhead_9 rfl c_8_109 rfl (Nat.le_of_ble_eq_true rfl) (Nat.le_of_ble_eq_true rfl) m_o (Nat.le_of_ble_eq_true rfl) (Nat.le_of_ble_eq_true rfl) rfl (S_X8_get hR (by omega) (by omega) (by omega) (by omega))) ?_
  have q2 : -1000000 ≤ ob (M 1) y 0 ∧ ob (M 1) y 0 ≤ 1000000 := hr _
  refine Eq.trans (x_isub 13 d_X8_isAhead_12 rfl) ?_
  refine Eq.trans (x_istore_n 14 d_X8_isAhead_13 rfl (Nat.le_of_ble_eq_true rfl)) ?_
  show q_ex E q_m_X8_isAhead 14 [Value.ref am, Value.int (zi x), Value.int (zi y), Value.int (zi ((ob (M 1) x 0) - (ob (M 1) y 0)))] [] (q_mw h am M) = _
  refine Eq.trans (x_iload_n 15 d_X8_isAhead_14 rfl rfl) ?_
  refine x_if_ne 48 18 d_X8_isAhead_15 rfl rfl (by omega) (by omega) (fun k15 => ?_) (fun k15 => ?_)
  · refine Eq.trans (x_iload_n 49 d_X8_isAhead_48 rfl rfl) ?_
    refine Eq.trans (x_istore_n 50 d_X8_isAhead_49 rfl (Nat.le_of_ble_eq_true rfl)) ?_
    show q_ex E q_m_X8_isAhead 50 [Value.ref am, Value.int (zi x), Value.int (zi y), Value.int (zi ((ob (M 1) x 0) - (ob (M 1) y 0)))] [] (q_mw h am M) = _
    refine Eq.trans (x_iload_n 51 d_X8_isAhead_50 rfl rfl) ?_
    refine x_if_lt 63 54 d_X8_isAhead_51 rfl rfl (by omega) (by omega) (fun k51 => ?_) (fun k51 => ?_)
    · refine Eq.trans (x_iconst 64 d_X8_isAhead_63 rfl) ?_
      refine Eq.trans (x_goto 68 d_X8_isAhead_64 rfl) ?_
      refine Eq.trans (x_ireturn d_X8_isAhead_68 rfl rfl) (lf ?_)
      exact (bI_t (by omega)).symm
    · refine Eq.trans (x_iload_n 55 d_X8_isAhead_54 rfl rfl) ?_
      refine x_if_ne 67 58 d_X8_isAhead_55 rfl rfl (by omega) (by omega) (fun k55 => ?_) (fun k55 => ?_)
      · refine Eq.trans (x_iconst 68 d_X8_isAhead_67 rfl) ?_
        refine Eq.trans (x_ireturn d_X8_isAhead_68 rfl rfl) (lf ?_)
        exact (bI_f (by omega)).symm
      · refine Eq.trans (x_iload_n 59 d_X8_isAhead_58 rfl rfl) ?_
        refine Eq.trans (x_iload_n 60 d_X8_isAhead_59 rfl rfl) ?_
        refine x_icmp_ge 67 63 d_X8_isAhead_60 rfl rfl (by omega) (by omega) (by omega) (by omega) (fun k60 => ?_) (fun k60 => ?_)
        · refine Eq.trans (x_iconst 68 d_X8_isAhead_67 rfl) ?_
          refine Eq.trans (x_ireturn d_X8_isAhead_68 rfl rfl) (lf ?_)
          exact (bI_f (by omega)).symm
        · refine Eq.trans (x_iconst 64 d_X8_isAhead_63 rfl) ?_
          refine Eq.trans (x_goto 68 d_X8_isAhead_64 rfl) ?_
          refine Eq.trans (x_ireturn d_X8_isAhead_68 rfl rfl) (lf ?_)
          exact (bI_t (by omega)).symm
  · refine Eq.trans (x_aload_n 19 d_X8_isAhead_18 rfl rfl) ?_
    refine Eq.trans (x_iload_n 20 d_X8_isAhead_19 rfl rfl) ?_
    refine Eq.trans (x_iconst 21 d_X8_isAhead_20 rfl) ?_
    refine Eq.trans (x_inv1 24 (as := [Value.int (zi y), Value.int (zi 1)]) d_X8_isAhead_21 rfl c_8_109 rfl (Nat.le_of_ble_eq_true rfl) (Nat.le_of_ble_eq_true rfl) m_o (Nat.le_of_ble_eq_true rfl) (Nat.le_of_ble_eq_true rfl) rfl (S_X8_get hR (by omega) (by omega) (by omega) (by omega))) ?_
    have q3 : -1000000 ≤ ob (M 1) y 1 ∧ ob (M 1) y 1 ≤ 1000000 := hr _
    refine Eq.trans (x_aload_n 25 d_X8_isAhead_24 rfl rfl) ?_
    refine Eq.trans (x_iload_n 26 d_X8_isAhead_25 rfl rfl) ?_
    refine Eq.trans (x_iconst 27 d_X8_isAhead_26 rfl) ?_
    refine Eq.trans (x_inv1 30 (as := [Value.int (zi y), Value.int (zi 2)]) d_X8_isAhead_27 rfl c_8_109 rfl (Nat.le_of_ble_eq_true rfl) (Nat.le_of_ble_eq_true rfl) m_o (Nat.le_of_ble_eq_true rfl) (Nat.le_of_ble_eq_true rfl) rfl (S_X8_get hR (by omega) (by omega) (by omega) (by omega))) ?_
    have q4 : -1000000 ≤ ob (M 1) y 2 ∧ ob (M 1) y 2 ≤ 1000000 := hr _
    refine Eq.trans (x_isub 31 d_X8_isAhead_30 rfl) ?_
    refine Eq.trans (x_aload_n 32 d_X8_isAhead_31 rfl rfl) ?_
    refine Eq.trans (x_iload_n 33 d_X8_isAhead_32 rfl rfl) ?_
    refine Eq.trans (x_iconst 34 d_X8_isAhead_33 rfl) ?_
    refine Eq.trans (x_inv1 37 (as := [Value.int (zi x), Value.int (zi 1)]) d_X8_isAhead_34 rfl c_8_109 rfl (Nat.le_of_ble_eq_true rfl) (Nat.le_of_ble_eq_true rfl) m_o (Nat.le_of_ble_eq_true rfl) (Nat.le_of_ble_eq_true rfl) rfl (S_X8_get hR (by omega) (by omega) (by omega) (by omega))) ?_
    have q5 : -1000000 ≤ ob (M 1) x 1 ∧ ob (M 1) x 1 ≤ 1000000 := hr _
    refine Eq.trans (x_isub 38 d_X8_isAhead_37 rfl) ?_
    refine Eq.trans (x_aload_n 39 d_X8_isAhead_38 rfl rfl) ?_
    refine Eq.trans (x_iload_n 40 d_X8_isAhead_39 rfl rfl) ?_
    refine Eq.trans (x_iconst 41 d_X8_isAhead_40 rfl) ?_
    refine Eq.trans (x_inv1 44 (as := [Value.int (zi x), Value.int (zi 2)]) d_X8_isAhead_41 rfl c_8_109 rfl (Nat.le_of_ble_eq_true rfl) (Nat.le_of_ble_eq_true rfl) m_o (Nat.le_of_ble_eq_true rfl) (Nat.le_of_ble_eq_true rfl) rfl (S_X8_get hR (by omega) (by omega) (by omega) (by omega))) ?_
    have q6 : -1000000 ≤ ob (M 1) x 2 ∧ ob (M 1) x 2 ≤ 1000000 := hr _
    refine Eq.trans (x_iadd 45 d_X8_isAhead_44 rfl) ?_
    refine Eq.trans (x_goto 49 d_X8_isAhead_45 rfl) ?_
    refine Eq.trans (x_istore_n 50 d_X8_isAhead_49 rfl (Nat.le_of_ble_eq_true rfl)) ?_
    show q_ex E q_m_X8_isAhead 50 [Value.ref am, Value.int (zi x), Value.int (zi y), Value.int (zi ((((ob (M 1) y 1) - (ob (M 1) y 2)) - (ob (M 1) x 1)) + (ob (M 1) x 2)))] [] (q_mw h am M) = _
    refine Eq.trans (x_iload_n 51 d_X8_isAhead_50 rfl rfl) ?_
    refine x_if_lt 63 54 d_X8_isAhead_51 rfl rfl (by omega) (by omega) (fun k51 => ?_) (fun k51 => ?_)
    · refine Eq.trans (x_iconst 64 d_X8_isAhead_63 rfl) ?_
      refine Eq.trans (x_goto 68 d_X8_isAhead_64 rfl) ?_
      refine Eq.trans (x_ireturn d_X8_isAhead_68 rfl rfl) (lf ?_)
      exact (bI_t (by omega)).symm
    · refine Eq.trans (x_iload_n 55 d_X8_isAhead_54 rfl rfl) ?_
      refine x_if_ne 67 58 d_X8_isAhead_55 rfl rfl (by omega) (by omega) (fun k55 => ?_) (fun k55 => ?_)
      · refine Eq.trans (x_iconst 68 d_X8_isAhead_67 rfl) ?_
        refine Eq.trans (x_ireturn d_X8_isAhead_68 rfl rfl) (lf ?_)
        exact (bI_f (by omega)).symm
      · refine Eq.trans (x_iload_n 59 d_X8_isAhead_58 rfl rfl) ?_
        refine Eq.trans (x_iload_n 60 d_X8_isAhead_59 rfl rfl) ?_
        refine x_icmp_ge 67 63 d_X8_isAhead_60 rfl rfl (by omega) (by omega) (by omega) (by omega) (fun k60 => ?_) (fun k60 => ?_)
        · refine Eq.trans (x_iconst 68 d_X8_isAhead_67 rfl) ?_
          refine Eq.trans (x_ireturn d_X8_isAhead_68 rfl rfl) (lf ?_)
          exact (bI_f (by omega)).symm
        · refine Eq.trans (x_iconst 64 d_X8_isAhead_63 rfl) ?_
          refine Eq.trans (x_goto 68 d_X8_isAhead_64 rfl) ?_
          refine Eq.trans (x_ireturn d_X8_isAhead_68 rfl rfl) (lf ?_)
          exact (bI_t (by omega)).symm
end MS
