/-! what the reference's methods answer, readings (printed by program) -/
section MR
variable {E : q_E} {h : q_H} {am : Nat} {M : q_Im}
theorem S_X8_in {v lo hi : Int} (hv : -2147483648 ≤ v) (jv : v < 2147483648) (hlo : -2147483648 ≤ lo) (jlo : lo < 2147483648) (hhi : -2147483648 ≤ hi) (jhi : hi < 2147483648) : q_cl E q_m_X8_in [Value.int (zi v), Value.int (zi lo), Value.int (zi hi)] (q_mw h am M) = some (.inl (some (Value.int (zi (bI (inn v lo hi))))), (q_mw h am M)) := by
  show q_ex E q_m_X8_in 0 [Value.int (zi v), Value.int (zi lo), Value.int (zi hi)] [] (q_mw h am M) = _
  refine Eq.trans (x_iload_n 1 d_X8_in_0 rfl rfl) ?_
  refine Eq.trans (x_iload_n 2 d_X8_in_1 rfl rfl) ?_
  refine x_icmp_lt 14 5 d_X8_in_2 rfl rfl (by omega) (by omega) (by omega) (by omega) (fun k2 => ?_) (fun k2 => ?_)
  · refine Eq.trans (x_iconst 15 d_X8_in_14 rfl) ?_
    refine Eq.trans (x_ireturn d_X8_in_15 rfl rfl) (lf ?_)
    exact (bI_f (by omega)).symm
  · refine Eq.trans (x_iload_n 6 d_X8_in_5 rfl rfl) ?_
    refine Eq.trans (x_iload_n 7 d_X8_in_6 rfl rfl) ?_
    refine x_icmp_gt 14 10 d_X8_in_7 rfl rfl (by omega) (by omega) (by omega) (by omega) (fun k7 => ?_) (fun k7 => ?_)
    · refine Eq.trans (x_iconst 15 d_X8_in_14 rfl) ?_
      refine Eq.trans (x_ireturn d_X8_in_15 rfl rfl) (lf ?_)
      exact (bI_f (by omega)).symm
    · refine Eq.trans (x_iconst 11 d_X8_in_10 rfl) ?_
      refine Eq.trans (x_goto 15 d_X8_in_11 rfl) ?_
      refine Eq.trans (x_ireturn d_X8_in_15 rfl rfl) (lf ?_)
      exact (bI_t (by omega)).symm
theorem S_X8_cells (hR : Rg (M 1)) : q_cl E q_m_X8_cells [Value.ref am] (q_mw h am M) = some (.inl (some (Value.int (zi (cs (M 1))))), (q_mw h am M)) := by
  show q_ex E q_m_X8_cells 0 [Value.ref am] [] (q_mw h am M) = _
  obtain ⟨hr, g0, g1, g3, g4, gc, g5, g6, g7, gk, gl, gr, go⟩ := hR
  refine Eq.trans (x_aload_n 1 d_X8_cells_0 rfl rfl) ?_
  refine Eq.trans (x_getfield 4 d_X8_cells_1 rfl f_8_9 (Nat.le_of_ble_eq_true rfl) (Nat.le_of_ble_eq_true rfl) (q_gf_of m_o rfl)) ?_
  refine Eq.trans (x_iconst 5 d_X8_cells_4 rfl) ?_
  refine Eq.trans (x_iaload 6 d_X8_cells_5 rfl ((m_g1 (by omega) (by omega)).trans (rfl : _ = some (Value.int (zi ((M 1) 0)))))) ?_
  have q1 : -1000000 ≤ (M 1) 0 ∧ (M 1) 0 ≤ 1000000 := hr _
  refine Eq.trans (x_aload_n 7 d_X8_cells_6 rfl rfl) ?_
  refine Eq.trans (x_getfield 10 d_X8_cells_7 rfl f_8_9 (Nat.le_of_ble_eq_true rfl) (Nat.le_of_ble_eq_true rfl) (q_gf_of m_o rfl)) ?_
  refine Eq.trans (x_iconst 11 d_X8_cells_10 rfl) ?_
  refine Eq.trans (x_iaload 12 d_X8_cells_11 rfl ((m_g1 (by omega) (by omega)).trans (rfl : _ = some (Value.int (zi ((M 1) 1)))))) ?_
  have q2 : -1000000 ≤ (M 1) 1 ∧ (M 1) 1 ≤ 1000000 := hr _
  refine Eq.trans (x_imul 13 d_X8_cells_12 rfl) ?_
  refine Eq.trans (x_ireturn d_X8_cells_13 rfl rfl) (lf ?_)
  rfl
theorem S_X8_isCell (hR : Rg (M 1)) {c : Int} (hc : -2147483648 ≤ c) (jc : c < 2147483648) : q_cl E q_m_X8_isCell [Value.ref am, Value.int (zi c)] (q_mw h am M) = some (.inl (some (Value.int (zi (bI (isC (M 1) c))))), (q_mw h am M)) := by
  show q_ex E q_m_X8_isCell 0 [Value.ref am, Value.int (zi c)] [] (q_mw h am M) = _
  obtain ⟨hr, g0, g1, g3, g4, gc, g5, g6, g7, gk, gl, gr, go⟩ := id hR
  refine Eq.trans (x_iload_n 1 d_X8_isCell_0 rfl rfl) ?_
  refine Eq.trans (x_iconst 2 d_X8_isCell_1 rfl) ?_
  refine Eq.trans (x_aload_n 3 d_X8_isCell_2 rfl rfl) ?_
  refine Eq.trans (x_inv1 6 (as := []) d_X8_isCell_3 rfl c_8_67 rfl (Nat.le_of_ble_eq_true rfl) (Nat.le_of_ble_eq_true rfl) m_o (Nat.le_of_ble_eq_true rfl) (Nat.le_of_ble_eq_true rfl) rfl (S_X8_cells hR)) ?_
  refine Eq.trans (x_iconst 7 d_X8_isCell_6 rfl) ?_
  refine Eq.trans (x_isub 8 d_X8_isCell_7 rfl) ?_
  refine Eq.trans (x_ins1 11 (as := [Value.int (zi c), Value.int (zi 0), Value.int (zi ((cs (M 1)) - 1))]) d_X8_isCell_8 rfl c_8_71 rfl (Nat.le_of_ble_eq_true rfl) (Nat.le_of_ble_eq_true rfl) (Nat.le_of_ble_eq_true rfl) rfl (S_X8_in (by omega) (by omega) (by omega) (by omega) (by omega) (by omega))) ?_
  refine Eq.trans (x_ireturn d_X8_isCell_11 rfl nb_bI) (lf ?_)
  exact bI_c (by omega)
theorem S_X8_canEnter (hR : Rg (M 1)) {c : Int} (h1 : 0 ≤ c) (h2 : c < 48) : q_cl E q_m_X8_canEnter [Value.ref am, Value.int (zi c)] (q_mw h am M) = some (.inl (some (Value.int (zi (bI (ent (M 1) c))))), (q_mw h am M)) := by
  show q_ex E q_m_X8_canEnter 0 [Value.ref am, Value.int (zi c)] [] (q_mw h am M) = _
  obtain ⟨hr, g0, g1, g3, g4, gc, g5, g6, g7, gk, gl, gr, go⟩ := id hR
  refine Eq.trans (x_aload_n 1 d_X8_canEnter_0 rfl rfl) ?_
  refine Eq.trans (x_getfield 4 d_X8_canEnter_1 rfl f_8_9 (Nat.le_of_ble_eq_true rfl) (Nat.le_of_ble_eq_true rfl) (q_gf_of m_o rfl)) ?_
  refine Eq.trans (x_bipush 6 d_X8_canEnter_4 rfl rfl) ?_
  refine Eq.trans (x_iload_n 7 d_X8_canEnter_6 rfl rfl) ?_
  refine Eq.trans (x_iadd 8 d_X8_canEnter_7 rfl) ?_
  refine Eq.trans (x_iaload 9 d_X8_canEnter_8 rfl ((m_g1 (by omega) (by omega)).trans (rfl : _ = some (Value.int (zi ((M 1) (8 + c))))))) ?_
  have q1 : -1000000 ≤ (M 1) (8 + c) ∧ (M 1) (8 + c) ≤ 1000000 := hr _
  refine Eq.trans (x_iconst 10 d_X8_canEnter_9 rfl) ?_
  refine x_icmp_eq 29 13 d_X8_canEnter_10 rfl rfl (by omega) (by omega) (by omega) (by omega) (fun k10 => ?_) (fun k10 => ?_)
  · refine Eq.trans (x_iconst 30 d_X8_canEnter_29 rfl) ?_
    refine Eq.trans (x_ireturn d_X8_canEnter_30 rfl rfl) (lf ?_)
    exact (bI_f (by omega)).symm
  · refine Eq.trans (x_aload_n 14 d_X8_canEnter_13 rfl rfl) ?_
    refine Eq.trans (x_getfield 17 d_X8_canEnter_14 rfl f_8_9 (Nat.le_of_ble_eq_true rfl) (Nat.le_of_ble_eq_true rfl) (q_gf_of m_o rfl)) ?_
    refine Eq.trans (x_bipush 19 d_X8_canEnter_17 rfl rfl) ?_
    refine Eq.trans (x_iload_n 20 d_X8_canEnter_19 rfl rfl) ?_
    refine Eq.trans (x_iadd 21 d_X8_canEnter_20 rfl) ?_
    refine Eq.trans (x_iaload 22 d_X8_canEnter_21 rfl ((m_g1 (by omega) (by omega)).trans (rfl : _ = some (Value.int (zi ((M 1) (56 + c))))))) ?_
    have q2 : -1000000 ≤ (M 1) (56 + c) ∧ (M 1) (56 + c) ≤ 1000000 := hr _
    refine x_if_ne 29 25 d_X8_canEnter_22 rfl rfl (by omega) (by omega) (fun k22 => ?_) (fun k22 => ?_)
    · refine Eq.trans (x_iconst 30 d_X8_canEnter_29 rfl) ?_
      refine Eq.trans (x_ireturn d_X8_canEnter_30 rfl rfl) (lf ?_)
      exact (bI_f (by omega)).symm
    · refine Eq.trans (x_iconst 26 d_X8_canEnter_25 rfl) ?_
      refine Eq.trans (x_goto 30 d_X8_canEnter_26 rfl) ?_
      refine Eq.trans (x_ireturn d_X8_canEnter_30 rfl rfl) (lf ?_)
      exact (bI_t (by omega)).symm
theorem S_X8_isRobot (hR : Rg (M 1)) {r : Int} (hr : -2147483648 ≤ r) (jr : r < 2147483648) : q_cl E q_m_X8_isRobot [Value.ref am, Value.int (zi r)] (q_mw h am M) = some (.inl (some (Value.int (zi (bI (isR (M 1) r))))), (q_mw h am M)) := by
  show q_ex E q_m_X8_isRobot 0 [Value.ref am, Value.int (zi r)] [] (q_mw h am M) = _
  obtain ⟨hr, g0, g1, g3, g4, gc, g5, g6, g7, gk, gl, gr, go⟩ := id hR
  refine Eq.trans (x_iload_n 1 d_X8_isRobot_0 rfl rfl) ?_
  refine Eq.trans (x_iconst 2 d_X8_isRobot_1 rfl) ?_
  refine Eq.trans (x_aload_n 3 d_X8_isRobot_2 rfl rfl) ?_
  refine Eq.trans (x_getfield 6 d_X8_isRobot_3 rfl f_8_9 (Nat.le_of_ble_eq_true rfl) (Nat.le_of_ble_eq_true rfl) (q_gf_of m_o rfl)) ?_
  refine Eq.trans (x_iconst 7 d_X8_isRobot_6 rfl) ?_
  refine Eq.trans (x_iaload 8 d_X8_isRobot_7 rfl ((m_g1 (by omega) (by omega)).trans (rfl : _ = some (Value.int (zi ((M 1) 3)))))) ?_
  have q1 : -1000000 ≤ (M 1) 3 ∧ (M 1) 3 ≤ 1000000 := hr _
  refine Eq.trans (x_iconst 9 d_X8_isRobot_8 rfl) ?_
  refine Eq.trans (x_isub 10 d_X8_isRobot_9 rfl) ?_
  refine Eq.trans (x_ins1 13 (as := [Value.int (zi r), Value.int (zi 0), Value.int (zi (((M 1) 3) - 1))]) d_X8_isRobot_10 rfl c_8_71 rfl (Nat.le_of_ble_eq_true rfl) (Nat.le_of_ble_eq_true rfl) (Nat.le_of_ble_eq_true rfl) rfl (S_X8_in (by omega) (by omega) (by omega) (by omega) (by omega) (by omega))) ?_
  refine Eq.trans (x_ireturn d_X8_isRobot_13 rfl nb_bI) (lf ?_)
  exact bI_c (by omega)
theorem S_X8_isOrder (hR : Rg (M 1)) {r : Int} (hr : -2147483648 ≤ r) (jr : r < 2147483648) : q_cl E q_m_X8_isOrder [Value.ref am, Value.int (zi r)] (q_mw h am M) = some (.inl (some (Value.int (zi (bI (isO (M 1) r))))), (q_mw h am M)) := by
  show q_ex E q_m_X8_isOrder 0 [Value.ref am, Value.int (zi r)] [] (q_mw h am M) = _
  obtain ⟨hr, g0, g1, g3, g4, gc, g5, g6, g7, gk, gl, gr, go⟩ := id hR
  refine Eq.trans (x_iload_n 1 d_X8_isOrder_0 rfl rfl) ?_
  refine Eq.trans (x_iconst 2 d_X8_isOrder_1 rfl) ?_
  refine Eq.trans (x_aload_n 3 d_X8_isOrder_2 rfl rfl) ?_
  refine Eq.trans (x_getfield 6 d_X8_isOrder_3 rfl f_8_9 (Nat.le_of_ble_eq_true rfl) (Nat.le_of_ble_eq_true rfl) (q_gf_of m_o rfl)) ?_
  refine Eq.trans (x_iconst 7 d_X8_isOrder_6 rfl) ?_
  refine Eq.trans (x_iaload 8 d_X8_isOrder_7 rfl ((m_g1 (by omega) (by omega)).trans (rfl : _ = some (Value.int (zi ((M 1) 4)))))) ?_
  have q1 : -1000000 ≤ (M 1) 4 ∧ (M 1) 4 ≤ 1000000 := hr _
  refine Eq.trans (x_iconst 9 d_X8_isOrder_8 rfl) ?_
  refine Eq.trans (x_isub 10 d_X8_isOrder_9 rfl) ?_
  refine Eq.trans (x_ins1 13 (as := [Value.int (zi r), Value.int (zi 0), Value.int (zi (((M 1) 4) - 1))]) d_X8_isOrder_10 rfl c_8_71 rfl (Nat.le_of_ble_eq_true rfl) (Nat.le_of_ble_eq_true rfl) (Nat.le_of_ble_eq_true rfl) rfl (S_X8_in (by omega) (by omega) (by omega) (by omega) (by omega) (by omega))) ?_
  refine Eq.trans (x_ireturn d_X8_isOrder_13 rfl nb_bI) (lf ?_)
  exact bI_c (by omega)
theorem S_X8_at {r : Int} : q_cl E q_m_X8_at [Value.int (zi r)] (q_mw h am M) = some (.inl (some (Value.int (zi (104 + 36 * r)))), (q_mw h am M)) := by
  show q_ex E q_m_X8_at 0 [Value.int (zi r)] [] (q_mw h am M) = _
  refine Eq.trans (x_bipush 2 d_X8_at_0 rfl rfl) ?_
  refine Eq.trans (x_bipush 4 d_X8_at_2 rfl rfl) ?_
  refine Eq.trans (x_iload_n 5 d_X8_at_4 rfl rfl) ?_
  refine Eq.trans (x_imul 6 d_X8_at_5 rfl) ?_
  refine Eq.trans (x_iadd 7 d_X8_at_6 rfl) ?_
  refine Eq.trans (x_ireturn d_X8_at_7 rfl rfl) (lf ?_)
  rfl
theorem S_X8_order {r : Int} : q_cl E q_m_X8_order [Value.int (zi r)] (q_mw h am M) = some (.inl (some (Value.int (zi (320 + 8 * r)))), (q_mw h am M)) := by
  show q_ex E q_m_X8_order 0 [Value.int (zi r)] [] (q_mw h am M) = _
  refine Eq.trans (x_sipush 3 d_X8_order_0 rfl rfl) ?_
  refine Eq.trans (x_bipush 5 d_X8_order_3 rfl rfl) ?_
  refine Eq.trans (x_iload_n 6 d_X8_order_5 rfl rfl) ?_
  refine Eq.trans (x_imul 7 d_X8_order_6 rfl) ?_
  refine Eq.trans (x_iadd 8 d_X8_order_7 rfl) ?_
  refine Eq.trans (x_ireturn d_X8_order_8 rfl rfl) (lf ?_)
  rfl
theorem S_X8_of (hR : Rg (M 1)) {r k : Int} (h1 : 0 ≤ r) (h2 : r < 6) (h3 : 0 ≤ k) (h4 : k < 36) : q_cl E q_m_X8_of [Value.ref am, Value.int (zi r), Value.int (zi k)] (q_mw h am M) = some (.inl (some (Value.int (zi (rb (M 1) r k)))), (q_mw h am M)) := by
  show q_ex E q_m_X8_of 0 [Value.ref am, Value.int (zi r), Value.int (zi k)] [] (q_mw h am M) = _
  have hr := hR.1
  refine Eq.trans (x_aload_n 1 d_X8_of_0 rfl rfl) ?_
  refine Eq.trans (x_getfield 4 d_X8_of_1 rfl f_8_9 (Nat.le_of_ble_eq_true rfl) (Nat.le_of_ble_eq_true rfl) (q_gf_of m_o rfl)) ?_
  refine Eq.trans (x_iload_n 5 d_X8_of_4 rfl rfl) ?_
  refine Eq.trans (x_ins1 8 (as := [Value.int (zi r)]) d_X8_of_5 rfl c_8_75 rfl (Nat.le_of_ble_eq_true rfl) (Nat.le_of_ble_eq_true rfl) (Nat.le_of_ble_eq_true rfl) rfl S_X8_at) ?_
  refine Eq.trans (x_iload_n 9 d_X8_of_8 rfl rfl) ?_
  refine Eq.trans (x_iadd 10 d_X8_of_9 rfl) ?_
  refine Eq.trans (x_iaload 11 d_X8_of_10 rfl ((m_g1 (by omega) (by omega)).trans (rfl : _ = some (Value.int (zi (rb (M 1) r k)))))) ?_
  have q1 : -1000000 ≤ rb (M 1) r k ∧ rb (M 1) r k ≤ 1000000 := hr _
  refine Eq.trans (x_ireturn d_X8_of_11 rfl rfl) (lf ?_)
  rfl
theorem S_X8_get (hR : Rg (M 1)) {r k : Int} (h1 : 0 ≤ r) (h2 : r < 10) (h3 : 0 ≤ k) (h4 : k < 8) : q_cl E q_m_X8_get [Value.ref am, Value.int (zi r), Value.int (zi k)] (q_mw h am M) = some (.inl (some (Value.int (zi (ob (M 1) r k)))), (q_mw h am M)) := by
  show q_ex E q_m_X8_get 0 [Value.ref am, Value.int (zi r), Value.int (zi k)] [] (q_mw h am M) = _
  have hr := hR.1
  refine Eq.trans (x_aload_n 1 d_X8_get_0 rfl rfl) ?_
  refine Eq.trans (x_getfield 4 d_X8_get_1 rfl f_8_9 (Nat.le_of_ble_eq_true rfl) (Nat.le_of_ble_eq_true rfl) (q_gf_of m_o rfl)) ?_
  refine Eq.trans (x_iload_n 5 d_X8_get_4 rfl rfl) ?_
  refine Eq.trans (x_ins1 8 (as := [Value.int (zi r)]) d_X8_get_5 rfl c_8_106 rfl (Nat.le_of_ble_eq_true rfl) (Nat.le_of_ble_eq_true rfl) (Nat.le_of_ble_eq_true rfl) rfl S_X8_order) ?_
  refine Eq.trans (x_iload_n 9 d_X8_get_8 rfl rfl) ?_
  refine Eq.trans (x_iadd 10 d_X8_get_9 rfl) ?_
  refine Eq.trans (x_iaload 11 d_X8_get_10 rfl ((m_g1 (by omega) (by omega)).trans (rfl : _ = some (Value.int (zi (ob (M 1) r k)))))) ?_
  have q1 : -1000000 ≤ ob (M 1) r k ∧ ob (M 1) r k ≤ 1000000 := hr _
  refine Eq.trans (x_ireturn d_X8_get_11 rfl rfl) (lf ?_)
  rfl
theorem S_X8_cellOf (hR : Rg (M 1)) {r t : Int} (h1 : isR (M 1) r) (h2 : 0 ≤ t) (h3 : t < 2147483648) : q_cl E q_m_X8_cellOf [Value.ref am, Value.int (zi r), Value.int (zi t)] (q_mw h am M) = some (.inl (some (Value.int (zi (ahd (M 1) r t)))), (q_mw h am M)) := by
  show q_ex E q_m_X8_cellOf 0 [Value.ref am, Value.int (zi r), Value.int (zi t), Value.null] [] (q_mw h am M) = _
  obtain ⟨hr, g0, g1, g3, g4, gc, g5, g6, g7, gk, gl, gr, go⟩ := id hR
  have gq := gr r h1.1 h1.2
  refine Eq.trans (x_aload_n 1 d_X8_cellOf_0 rfl rfl) ?_
  refine Eq.trans (x_iload_n 2 d_X8_cellOf_1 rfl rfl) ?_
  refine Eq.trans (x_iconst 3 d_X8_cellOf_2 rfl) ?_
  refine Eq.trans (x_inv1 6 (as := [Value.int (zi r), Value.int (zi 3)]) d_X8_cellOf_3 rfl c_8_79 rfl (Nat.le_of_ble_eq_true rfl) (Nat.le_of_ble_eq_true rfl) m_o (Nat.le_of_ble_eq_true rfl) (Nat.le_of_ble_eq_true rfl) rfl (S_X8_of hR (by omega) (by omega) (by omega) (by omega))) ?_
  have q1 : -1000000 ≤ rb (M 1) r 3 ∧ rb (M 1) r 3 ≤ 1000000 := hr _
  refine Eq.trans (x_istore_n 7 d_X8_cellOf_6 rfl (Nat.le_of_ble_eq_true rfl)) ?_
  show q_ex E q_m_X8_cellOf 7 [Value.ref am, Value.int (zi r), Value.int (zi t), Value.int (zi (rb (M 1) r 3))] [] (q_mw h am M) = _
  refine Eq.trans (x_iload_n 8 d_X8_cellOf_7 rfl rfl) ?_
  refine x_if_eq 15 11 d_X8_cellOf_8 rfl rfl (by omega) (by omega) (fun k8 => ?_) (fun k8 => ?_)
  · refine Eq.trans (x_aload_n 16 d_X8_cellOf_15 rfl rfl) ?_
    refine Eq.trans (x_iload_n 17 d_X8_cellOf_16 rfl rfl) ?_
    refine Eq.trans (x_iconst 18 d_X8_cellOf_17 rfl) ?_
    refine Eq.trans (x_inv1 21 (as := [Value.int (zi r), Value.int (zi 0)]) d_X8_cellOf_18 rfl c_8_79 rfl (Nat.le_of_ble_eq_true rfl) (Nat.le_of_ble_eq_true rfl) m_o (Nat.le_of_ble_eq_true rfl) (Nat.le_of_ble_eq_true rfl) rfl (S_X8_of hR (by omega) (by omega) (by omega) (by omega))) ?_
    have q2 : -1000000 ≤ rb (M 1) r 0 ∧ rb (M 1) r 0 ≤ 1000000 := hr _
    refine Eq.trans (x_goto 44 d_X8_cellOf_21 rfl) ?_
    refine Eq.trans (x_ireturn d_X8_cellOf_44 rfl rfl) (lf ?_)
    (unfold ahd ahf; first | rw [if_pos (by omega)] | (rw [if_neg (by omega)]; first | rw [if_pos (by omega)] | rw [if_neg (by omega)]))
  · refine Eq.trans (x_iload_n 12 d_X8_cellOf_11 rfl rfl) ?_
    refine x_if_ne 24 15 d_X8_cellOf_12 rfl rfl (by omega) (by omega) (fun k12 => ?_) (fun k12 => ?_)
    · refine Eq.trans (x_aload_n 25 d_X8_cellOf_24 rfl rfl) ?_
      refine Eq.trans (x_iload_n 26 d_X8_cellOf_25 rfl rfl) ?_
      refine Eq.trans (x_bipush 28 d_X8_cellOf_26 rfl rfl) ?_
      refine Eq.trans (x_iload_n 29 d_X8_cellOf_28 rfl rfl) ?_
      refine Eq.trans (x_iload_n 30 d_X8_cellOf_29 rfl rfl) ?_
      refine x_icmp_le 37 33 d_X8_cellOf_30 rfl rfl (by omega) (by omega) (by omega) (by omega) (fun k30 => ?_) (fun k30 => ?_)
      · refine Eq.trans (x_iload_n 38 d_X8_cellOf_37 rfl rfl) ?_
        refine Eq.trans (x_iadd 39 d_X8_cellOf_38 rfl) ?_
        refine Eq.trans (x_iconst 40 d_X8_cellOf_39 rfl) ?_
        refine Eq.trans (x_isub 41 d_X8_cellOf_40 rfl) ?_
        refine Eq.trans (x_inv1 44 (as := [Value.int (zi r), Value.int (zi ((6 + t) - 1))]) d_X8_cellOf_41 rfl c_8_79 rfl (Nat.le_of_ble_eq_true rfl) (Nat.le_of_ble_eq_true rfl) m_o (Nat.le_of_ble_eq_true rfl) (Nat.le_of_ble_eq_true rfl) rfl (S_X8_of hR (by omega) (by omega) (by omega) (by omega))) ?_
        have q3 : -1000000 ≤ rb (M 1) r ((6 + t) - 1) ∧ rb (M 1) r ((6 + t) - 1) ≤ 1000000 := hr _
        refine Eq.trans (x_ireturn d_X8_cellOf_44 rfl rfl) (lf ?_)
        (unfold ahd ahf; first | rw [if_pos (by omega)] | (rw [if_neg (by omega)]; first | rw [if_pos (by omega)] | rw [if_neg (by omega)]))
      · refine Eq.trans (x_iload_n 34 d_X8_cellOf_33 rfl rfl) ?_
        refine Eq.trans (x_goto 38 d_X8_cellOf_34 rfl) ?_
        refine Eq.trans (x_iadd 39 d_X8_cellOf_38 rfl) ?_
        refine Eq.trans (x_iconst 40 d_X8_cellOf_39 rfl) ?_
        refine Eq.trans (x_isub 41 d_X8_cellOf_40 rfl) ?_
        refine Eq.trans (x_inv1 44 (as := [Value.int (zi r), Value.int (zi ((6 + (rb (M 1) r 3)) - 1))]) d_X8_cellOf_41 rfl c_8_79 rfl (Nat.le_of_ble_eq_true rfl) (Nat.le_of_ble_eq_true rfl) m_o (Nat.le_of_ble_eq_true rfl) (Nat.le_of_ble_eq_true rfl) rfl (S_X8_of hR (by omega) (by omega) (by omega) (by omega))) ?_
        have q4 : -1000000 ≤ rb (M 1) r ((6 + (rb (M 1) r 3)) - 1) ∧ rb (M 1) r ((6 + (rb (M 1) r 3)) - 1) ≤ 1000000 := hr _
        refine Eq.trans (x_ireturn d_X8_cellOf_44 rfl rfl) (lf ?_)
        (unfold ahd ahf; first | rw [if_pos (by omega)] | (rw [if_neg (by omega)]; first | rw [if_pos (by omega)] | rw [if_neg (by omega)]))
    · refine Eq.trans (x_aload_n 16 d_X8_cellOf_15 rfl rfl) ?_
      refine Eq.trans (x_iload_n 17 d_X8_cellOf_16 rfl rfl) ?_
      refine Eq.trans (x_iconst 18 d_X8_cellOf_17 rfl) ?_
      refine Eq.trans (x_inv1 21 (as := [Value.int (zi r), Value.int (zi 0)]) d_X8_cellOf_18 rfl c_8_79 rfl (Nat.le_of_ble_eq_true rfl) (Nat.le_of_ble_eq_true rfl) m_o (Nat.le_of_ble_eq_true rfl) (Nat.le_of_ble_eq_true rfl) rfl (S_X8_of hR (by omega) (by omega) (by omega) (by omega))) ?_
      have q5 : -1000000 ≤ rb (M 1) r 0 ∧ rb (M 1) r 0 ≤ 1000000 := hr _
      refine Eq.trans (x_goto 44 d_X8_cellOf_21 rfl) ?_
      refine Eq.trans (x_ireturn d_X8_cellOf_44 rfl rfl) (lf ?_)
      (unfold ahd ahf; first | rw [if_pos (by omega)] | (rw [if_neg (by omega)]; first | rw [if_pos (by omega)] | rw [if_neg (by omega)]))
theorem ahd_r {s : Int → Int} (hR : Rg s) {r t : Int} (h1 : isR s r) (h2 : 0 ≤ t) : 0 ≤ ahd s r t ∧ ahd s r t < cs s := by
  obtain ⟨hr, g0, g1, g3, g4, gc, g5, g6, g7, gk, gl, gr, go⟩ := hR
  obtain ⟨e0, e1, e2, e3, e4, e5, e6⟩ := gr r h1.1 h1.2
  unfold ahd ahf
  split
  · exact e0
  · split
    · have := e6 (rb s r 3 - 1) (by omega) (by omega)
      rw [show 6 + rb s r 3 - 1 = 6 + (rb s r 3 - 1) by omega]
      exact this
    · have := e6 (t - 1) (by omega) (by omega)
      rw [show 6 + t - 1 = 6 + (t - 1) by omega]
      exact this
end MR
