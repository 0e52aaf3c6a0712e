/-! the reference: small readers (printed by program) -/
section RQ
variable {E : q_E} {h : q_H} {am : Nat} {M M2 : q_Im} {l : Int → Int}
def plaM (l : Int → Int) (r t : Int) : Int × Int := if ¬ isR l r then (1, 0) else if t < 0 then (2, 0) else (0, ahd l r t)
noncomputable def resM (l : Int → Int) (c t : Int) : Int × Int := if ¬ isC l c then (1, 0) else if t < 0 then (2, 0) else (0, rin l c t)
noncomputable def ordM (l : Int → Int) (o w : Int) : Int × Int := if ¬ isO l o then (1, 0) else if ¬ inn w 0 5 then (2, 0) else if w = 3 then (0, sto l o) else if w = 4 then (0, ob l o 3) else if w = 5 then (0, ob l o 4) else (0, ob l o w)
def linM (l : Int → Int) (o i : Int) : Int × Int := if ¬ (isO l o ∧ inn i 0 (ob l o 1 - 1)) then (1, 0) else (0, ob l o (5 + i))
noncomputable def robM (l : Int → Int) (r w : Int) : Int × Int := if ¬ isR l r then (1, 0) else if ¬ inn w 0 6 then (2, 0) else if w = 3 then (0, rb l r 3) else if w = 4 then (0, if rb l r 3 = 0 then -1 else ahd l r 30) else if w = 5 then (0, bI (ldd l r)) else if w = 6 then (0, rb l r 5) else (0, rb l r w)
def reaM (k d w : Int) : Int × Int := if k = 0 then (1, 0) else if w = 0 then (0, k) else (0, d)
theorem S_X8_planned (hR : Rg (M 1)) {y z : Int} (y0 : -2147483648 ≤ y) (y1 : y < 2147483648) (z0 : -2147483648 ≤ z) (z1 : z < 2147483648) : ∃ r_ h', q_cl E q_m_X8_planned [Value.ref am, Value.int (zi y), Value.int (zi z)] (q_mw h am M) = some (r_, h') ∧ (r_ = .inl (some (.int (zi (plaM (M 1) y z).2))) ∧ h' = q_mw h am (uM M 0 5 (plaM (M 1) y z).1)) := by
  suffices K : ∀ Q : q_R → q_H → Prop, (∀ r_ h', (r_ = .inl (some (.int (zi (plaM (M 1) y z).2))) ∧ h' = q_mw h am (uM M 0 5 (plaM (M 1) y z).1)) → Q r_ h') → Xv E q_m_X8_planned 0 [Value.ref am, Value.int (zi y), Value.int (zi z)] [] (q_mw h am M) Q from K _ fun _ _ p => p
  intro Q hQ
  have hR0 := hR
  obtain ⟨hr, g0, g1, g3, g4, gc, g5, g6, g7, gk, gl, gr, go⟩ := hR0
  refine xv (x_aload_n 1 d_X8_planned_0 rfl rfl) ?_
  refine xv (x_aload_n 2 d_X8_planned_1 rfl rfl) ?_
  refine xv (x_iload_n 3 d_X8_planned_2 rfl rfl) ?_
  refine xv (x_inv1 6 (as := [Value.int (zi y)]) d_X8_planned_3 rfl c_8_103 rfl (Nat.le_of_ble_eq_true rfl) (Nat.le_of_ble_eq_true rfl) m_o (Nat.le_of_ble_eq_true rfl) (Nat.le_of_ble_eq_true rfl) rfl (S_X8_isRobot (E := E) (h := h) (am := am) (M := M) hR (by omega) (by omega))) ?_
  show Xv E q_m_X8_planned 6 [Value.ref am, Value.int (zi y), Value.int (zi z)] [Value.int (zi (bI (isR (M 1) y))), Value.ref am] (q_mw h am M) Q
  refine v_if_ne 13 9 d_X8_planned_6 rfl rfl (by have := bI_r (isR (M 1) y); omega) (by have := bI_r (isR (M 1) y); omega) (fun k6 => ?_) (fun k6 => ?_)
  · replace k6 := bI_n0.mp k6
    refine xv (x_iload_n 14 d_X8_planned_13 rfl rfl) ?_
    refine v_if_ge 21 17 d_X8_planned_14 rfl rfl (by omega) (by omega) (fun k14 => ?_) (fun k14 => ?_)
    · refine xv (x_iconst 22 d_X8_planned_21 rfl) ?_
      refine xv (x_putfield 25 d_X8_planned_22 rfl f_8_49 (Nat.le_of_ble_eq_true rfl) m_pf5 rfl rfl (fun e => absurd e (by decide))) ?_
      show Xv E q_m_X8_planned 25 [Value.ref am, Value.int (zi y), Value.int (zi z)] [] (q_mw h am (uM M 0 5 0)) Q
      refine xv (x_aload_n 26 d_X8_planned_25 rfl rfl) ?_
      refine xv (x_getfield 29 d_X8_planned_26 rfl f_8_49 (Nat.le_of_ble_eq_true rfl) (Nat.le_of_ble_eq_true rfl) ((q_gf_of (m_o (h := h) (am := am) (M := (uM M 0 5 0))) rfl : q_gf (q_mw h am (uM M 0 5 0)) am 8 5 = some (Value.int (zi 0))))) ?_
      refine v_if_le 36 32 d_X8_planned_29 rfl rfl (by omega) (by omega) (fun k29 => ?_) (fun k29 => ?_)
      · refine xv (x_aload_n 37 d_X8_planned_36 rfl rfl) ?_
        refine xv (x_iload_n 38 d_X8_planned_37 rfl rfl) ?_
        refine xv (x_iload_n 39 d_X8_planned_38 rfl rfl) ?_
        refine xv (x_inv1 42 (as := [Value.int (zi y), Value.int (zi z)]) d_X8_planned_39 rfl c_8_83 rfl (Nat.le_of_ble_eq_true rfl) (Nat.le_of_ble_eq_true rfl) m_o (Nat.le_of_ble_eq_true rfl) (Nat.le_of_ble_eq_true rfl) rfl (S_X8_cellOf (E := E) (h := h) (am := am) (M := (uM M 0 5 0)) hR (by first | omega | (rw [show (uM M 0 5 0) 1 = (M 1) from rfl]; omega)) (by first | omega | (rw [show (uM M 0 5 0) 1 = (M 1) from rfl]; omega)) (by first | omega | (rw [show (uM M 0 5 0) 1 = (M 1) from rfl]; omega)))) ?_
        have q_1 := ahd_r hR (r := y) (t := z) (by omega) (by omega)
        show Xv E q_m_X8_planned 42 [Value.ref am, Value.int (zi y), Value.int (zi z)] [Value.int (zi (ahd (M 1) y z))] (q_mw h am (uM M 0 5 0)) Q
        refine xv_r (x_ireturn d_X8_planned_42 rfl rfl) ?_
        have er : plaM (M 1) y z = (0, ahd (M 1) y z) := by unfold plaM; repeat (first | rw [if_pos (by omega)] | rw [if_neg (by omega)])
        refine hQ _ _ ?_
        rw [er]
        exact ⟨rfl, rfl⟩
      · omega
    · refine xv (x_iconst 18 d_X8_planned_17 rfl) ?_
      refine xv (x_goto 22 d_X8_planned_18 rfl) ?_
      refine xv (x_putfield 25 d_X8_planned_22 rfl f_8_49 (Nat.le_of_ble_eq_true rfl) m_pf5 rfl rfl (fun e => absurd e (by decide))) ?_
      show Xv E q_m_X8_planned 25 [Value.ref am, Value.int (zi y), Value.int (zi z)] [] (q_mw h am (uM M 0 5 2)) Q
      refine xv (x_aload_n 26 d_X8_planned_25 rfl rfl) ?_
      refine xv (x_getfield 29 d_X8_planned_26 rfl f_8_49 (Nat.le_of_ble_eq_true rfl) (Nat.le_of_ble_eq_true rfl) ((q_gf_of (m_o (h := h) (am := am) (M := (uM M 0 5 2))) rfl : q_gf (q_mw h am (uM M 0 5 2)) am 8 5 = some (Value.int (zi 2))))) ?_
      refine v_if_le 36 32 d_X8_planned_29 rfl rfl (by omega) (by omega) (fun k29 => ?_) (fun k29 => ?_)
      · omega
      · refine xv (x_iconst 33 d_X8_planned_32 rfl) ?_
        refine xv (x_goto 42 d_X8_planned_33 rfl) ?_
        refine xv_r (x_ireturn d_X8_planned_42 rfl rfl) ?_
        have er : plaM (M 1) y z = (2, 0) := by unfold plaM; repeat (first | rw [if_pos (by omega)] | rw [if_neg (by omega)])
        refine hQ _ _ ?_
        rw [er]
        exact ⟨rfl, rfl⟩
  · replace k6 := bI_0.mp k6
    refine xv (x_iconst 10 d_X8_planned_9 rfl) ?_
    refine xv (x_goto 22 d_X8_planned_10 rfl) ?_
    refine xv (x_putfield 25 d_X8_planned_22 rfl f_8_49 (Nat.le_of_ble_eq_true rfl) m_pf5 rfl rfl (fun e => absurd e (by decide))) ?_
    show Xv E q_m_X8_planned 25 [Value.ref am, Value.int (zi y), Value.int (zi z)] [] (q_mw h am (uM M 0 5 1)) Q
    refine xv (x_aload_n 26 d_X8_planned_25 rfl rfl) ?_
    refine xv (x_getfield 29 d_X8_planned_26 rfl f_8_49 (Nat.le_of_ble_eq_true rfl) (Nat.le_of_ble_eq_true rfl) ((q_gf_of (m_o (h := h) (am := am) (M := (uM M 0 5 1))) rfl : q_gf (q_mw h am (uM M 0 5 1)) am 8 5 = some (Value.int (zi 1))))) ?_
    refine v_if_le 36 32 d_X8_planned_29 rfl rfl (by omega) (by omega) (fun k29 => ?_) (fun k29 => ?_)
    · omega
    · refine xv (x_iconst 33 d_X8_planned_32 rfl) ?_
      refine xv (x_goto 42 d_X8_planned_33 rfl) ?_
      refine xv_r (x_ireturn d_X8_planned_42 rfl rfl) ?_
      have er : plaM (M 1) y z = (1, 0) := by unfold plaM; repeat (first | rw [if_pos (by omega)] | rw [if_neg (by omega)])
      refine hQ _ _ ?_
      rw [er]
      exact ⟨rfl, rfl⟩
theorem S_X8_reserved (hR : Rg (M 1)) {y z : Int} (y0 : -2147483648 ≤ y) (y1 : y < 2147483648) (z0 : -2147483648 ≤ z) (z1 : z < 2147483648) : ∃ r_ h', q_cl E q_m_X8_reserved [Value.ref am, Value.int (zi y), Value.int (zi z)] (q_mw h am M) = some (r_, h') ∧ (r_ = .inl (some (.int (zi (resM (M 1) y z).2))) ∧ h' = q_mw h am (uM M 0 5 (resM (M 1) y z).1)) := by
  suffices K : ∀ Q : q_R → q_H → Prop, (∀ r_ h', (r_ = .inl (some (.int (zi (resM (M 1) y z).2))) ∧ h' = q_mw h am (uM M 0 5 (resM (M 1) y z).1)) → Q r_ h') → Xv E q_m_X8_reserved 0 [Value.ref am, Value.int (zi y), Value.int (zi z)] [] (q_mw h am M) Q from K _ fun _ _ p => p
  intro Q hQ
  have hR0 := hR
  obtain ⟨hr, g0, g1, g3, g4, gc, g5, g6, g7, gk, gl, gr, go⟩ := hR0
  refine xv (x_aload_n 1 d_X8_reserved_0 rfl rfl) ?_
  refine xv (x_aload_n 2 d_X8_reserved_1 rfl rfl) ?_
  refine xv (x_iload_n 3 d_X8_reserved_2 rfl rfl) ?_
  refine xv (x_inv1 6 (as := [Value.int (zi y)]) d_X8_reserved_3 rfl c_8_86 rfl (Nat.le_of_ble_eq_true rfl) (Nat.le_of_ble_eq_true rfl) m_o (Nat.le_of_ble_eq_true rfl) (Nat.le_of_ble_eq_true rfl) rfl (S_X8_isCell (E := E) (h := h) (am := am) (M := M) hR (by omega) (by omega))) ?_
  show Xv E q_m_X8_reserved 6 [Value.ref am, Value.int (zi y), Value.int (zi z)] [Value.int (zi (bI (isC (M 1) y))), Value.ref am] (q_mw h am M) Q
  refine v_if_ne 13 9 d_X8_reserved_6 rfl rfl (by have := bI_r (isC (M 1) y); omega) (by have := bI_r (isC (M 1) y); omega) (fun k6 => ?_) (fun k6 => ?_)
  · replace k6 := bI_n0.mp k6
    refine xv (x_iload_n 14 d_X8_reserved_13 rfl rfl) ?_
    refine v_if_ge 21 17 d_X8_reserved_14 rfl rfl (by omega) (by omega) (fun k14 => ?_) (fun k14 => ?_)
    · refine xv (x_iconst 22 d_X8_reserved_21 rfl) ?_
      refine xv (x_putfield 25 d_X8_reserved_22 rfl f_8_49 (Nat.le_of_ble_eq_true rfl) m_pf5 rfl rfl (fun e => absurd e (by decide))) ?_
      show Xv E q_m_X8_reserved 25 [Value.ref am, Value.int (zi y), Value.int (zi z)] [] (q_mw h am (uM M 0 5 0)) Q
      refine xv (x_aload_n 26 d_X8_reserved_25 rfl rfl) ?_
      refine xv (x_getfield 29 d_X8_reserved_26 rfl f_8_49 (Nat.le_of_ble_eq_true rfl) (Nat.le_of_ble_eq_true rfl) ((q_gf_of (m_o (h := h) (am := am) (M := (uM M 0 5 0))) rfl : q_gf (q_mw h am (uM M 0 5 0)) am 8 5 = some (Value.int (zi 0))))) ?_
      refine v_if_le 36 32 d_X8_reserved_29 rfl rfl (by omega) (by omega) (fun k29 => ?_) (fun k29 => ?_)
      · refine xv (x_aload_n 37 d_X8_reserved_36 rfl rfl) ?_
        refine xv (x_iload_n 38 d_X8_reserved_37 rfl rfl) ?_
        refine xv (x_iload_n 39 d_X8_reserved_38 rfl rfl) ?_
        refine xv (x_inv1 42 (as := [Value.int (zi y), Value.int (zi z)]) d_X8_reserved_39 rfl c_8_168 rfl (Nat.le_of_ble_eq_true rfl) (Nat.le_of_ble_eq_true rfl) m_o (Nat.le_of_ble_eq_true rfl) (Nat.le_of_ble_eq_true rfl) rfl (S_X8_robotIn (E := E) (h := h) (am := am) (M := (uM M 0 5 0)) hR (by first | omega | (rw [show (uM M 0 5 0) 1 = (M 1) from rfl]; omega)) (by first | omega | (rw [show (uM M 0 5 0) 1 = (M 1) from rfl]; omega)) (by first | omega | (rw [show (uM M 0 5 0) 1 = (M 1) from rfl]; omega)) (by first | omega | (rw [show (uM M 0 5 0) 1 = (M 1) from rfl]; omega)))) ?_
        have q_2 : rin (M 1) y z = -1 ∨ (0 ≤ rin (M 1) y z ∧ rin (M 1) y z < 0 + (((M 1) 3).toNat : Nat)) :=  @fnd_r (fun r => ahd (M 1) r z = y) ((M 1) 3).toNat 0
        show Xv E q_m_X8_reserved 42 [Value.ref am, Value.int (zi y), Value.int (zi z)] [Value.int (zi (rin (M 1) y z))] (q_mw h am (uM M 0 5 0)) Q
        refine xv_r (x_ireturn d_X8_reserved_42 rfl rfl) ?_
        have er : resM (M 1) y z = (0, rin (M 1) y z) := by unfold resM; repeat (first | rw [if_pos (by omega)] | rw [if_neg (by omega)])
        refine hQ _ _ ?_
        rw [er]
        exact ⟨rfl, rfl⟩
      · omega
    · refine xv (x_iconst 18 d_X8_reserved_17 rfl) ?_
      refine xv (x_goto 22 d_X8_reserved_18 rfl) ?_
      refine xv (x_putfield 25 d_X8_reserved_22 rfl f_8_49 (Nat.le_of_ble_eq_true rfl) m_pf5 rfl rfl (fun e => absurd e (by decide))) ?_
      show Xv E q_m_X8_reserved 25 [Value.ref am, Value.int (zi y), Value.int (zi z)] [] (q_mw h am (uM M 0 5 2)) Q
      refine xv (x_aload_n 26 d_X8_reserved_25 rfl rfl) ?_
      refine xv (x_getfield 29 d_X8_reserved_26 rfl f_8_49 (Nat.le_of_ble_eq_true rfl) (Nat.le_of_ble_eq_true rfl) ((q_gf_of (m_o (h := h) (am := am) (M := (uM M 0 5 2))) rfl : q_gf (q_mw h am (uM M 0 5 2)) am 8 5 = some (Value.int (zi 2))))) ?_
      refine v_if_le 36 32 d_X8_reserved_29 rfl rfl (by omega) (by omega) (fun k29 => ?_) (fun k29 => ?_)
      · omega
      · refine xv (x_iconst 33 d_X8_reserved_32 rfl) ?_
        refine xv (x_goto 42 d_X8_reserved_33 rfl) ?_
        refine xv_r (x_ireturn d_X8_reserved_42 rfl rfl) ?_
        have er : resM (M 1) y z = (2, 0) := by unfold resM; repeat (first | rw [if_pos (by omega)] | rw [if_neg (by omega)])
        refine hQ _ _ ?_
        rw [er]
        exact ⟨rfl, rfl⟩
  · replace k6 := bI_0.mp k6
    refine xv (x_iconst 10 d_X8_reserved_9 rfl) ?_
    refine xv (x_goto 22 d_X8_reserved_10 rfl) ?_
    refine xv (x_putfield 25 d_X8_reserved_22 rfl f_8_49 (Nat.le_of_ble_eq_true rfl) m_pf5 rfl rfl (fun e => absurd e (by decide))) ?_
    show Xv E q_m_X8_reserved 25 [Value.ref am, Value.int (zi y), Value.int (zi z)] [] (q_mw h am (uM M 0 5 1)) Q
    refine xv (x_aload_n 26 d_X8_reserved_25 rfl rfl) ?_
    refine xv (x_getfield 29 d_X8_reserved_26 rfl f_8_49 (Nat.le_of_ble_eq_true rfl) (Nat.le_of_ble_eq_true rfl) ((q_gf_of (m_o (h := h) (am := am) (M := (uM M 0 5 1))) rfl : q_gf (q_mw h am (uM M 0 5 1)) am 8 5 = some (Value.int (zi 1))))) ?_
    refine v_if_le 36 32 d_X8_reserved_29 rfl rfl (by omega) (by omega) (fun k29 => ?_) (fun k29 => ?_)
    · omega
    · refine xv (x_iconst 33 d_X8_reserved_32 rfl) ?_
      refine xv (x_goto 42 d_X8_reserved_33 rfl) ?_
      refine xv_r (x_ireturn d_X8_reserved_42 rfl rfl) ?_
      have er : resM (M 1) y z = (1, 0) := by unfold resM; repeat (first | rw [if_pos (by omega)] | rw [if_neg (by omega)])
      refine hQ _ _ ?_
      rw [er]
      exact ⟨rfl, rfl⟩
theorem S_X8_orderOf (hR : Rg (M 1)) {y z : Int} (y0 : -2147483648 ≤ y) (y1 : y < 2147483648) (z0 : -2147483648 ≤ z) (z1 : z < 2147483648) : ∃ r_ h', q_cl E q_m_X8_orderOf [Value.ref am, Value.int (zi y), Value.int (zi z)] (q_mw h am M) = some (r_, h') ∧ (r_ = .inl (some (.int (zi (ordM (M 1) y z).2))) ∧ h' = q_mw h am (uM M 0 5 (ordM (M 1) y z).1)) := by
  suffices K : ∀ Q : q_R → q_H → Prop, (∀ r_ h', (r_ = .inl (some (.int (zi (ordM (M 1) y z).2))) ∧ h' = q_mw h am (uM M 0 5 (ordM (M 1) y z).1)) → Q r_ h') → Xv E q_m_X8_orderOf 0 [Value.ref am, Value.int (zi y), Value.int (zi z)] [] (q_mw h am M) Q from K _ fun _ _ p => p
  intro Q hQ
  have hR0 := hR
  obtain ⟨hr, g0, g1, g3, g4, gc, g5, g6, g7, gk, gl, gr, go⟩ := hR0
  refine xv (x_aload_n 1 d_X8_orderOf_0 rfl rfl) ?_
  refine xv (x_aload_n 2 d_X8_orderOf_1 rfl rfl) ?_
  refine xv (x_iload_n 3 d_X8_orderOf_2 rfl rfl) ?_
  refine xv (x_inv1 6 (as := [Value.int (zi y)]) d_X8_orderOf_3 rfl c_8_112 rfl (Nat.le_of_ble_eq_true rfl) (Nat.le_of_ble_eq_true rfl) m_o (Nat.le_of_ble_eq_true rfl) (Nat.le_of_ble_eq_true rfl) rfl (S_X8_isOrder (E := E) (h := h) (am := am) (M := M) hR (by omega) (by omega))) ?_
  show Xv E q_m_X8_orderOf 6 [Value.ref am, Value.int (zi y), Value.int (zi z)] [Value.int (zi (bI (isO (M 1) y))), Value.ref am] (q_mw h am M) Q
  refine v_if_ne 13 9 d_X8_orderOf_6 rfl rfl (by have := bI_r (isO (M 1) y); omega) (by have := bI_r (isO (M 1) y); omega) (fun k6 => ?_) (fun k6 => ?_)
  · replace k6 := bI_n0.mp k6
    refine xv (x_iload_n 14 d_X8_orderOf_13 rfl rfl) ?_
    refine xv (x_iconst 15 d_X8_orderOf_14 rfl) ?_
    refine xv (x_iconst 16 d_X8_orderOf_15 rfl) ?_
    refine xv (x_ins1 19 (as := [Value.int (zi z), Value.int (zi 0), Value.int (zi 5)]) d_X8_orderOf_16 rfl c_8_71 rfl (Nat.le_of_ble_eq_true rfl) (Nat.le_of_ble_eq_true rfl) (Nat.le_of_ble_eq_true rfl) rfl (S_X8_in (E := E) (h := h) (am := am) (M := M) (by omega) (by omega) (by omega) (by omega) (by omega) (by omega))) ?_
    show Xv E q_m_X8_orderOf 19 [Value.ref am, Value.int (zi y), Value.int (zi z)] [Value.int (zi (bI (inn z 0 5))), Value.ref am] (q_mw h am M) Q
    refine v_if_ne 26 22 d_X8_orderOf_19 rfl rfl (by have := bI_r (inn z 0 5); omega) (by have := bI_r (inn z 0 5); omega) (fun k19 => ?_) (fun k19 => ?_)
    · replace k19 := bI_n0.mp k19
      refine xv (x_iconst 27 d_X8_orderOf_26 rfl) ?_
      refine xv (x_putfield 30 d_X8_orderOf_27 rfl f_8_49 (Nat.le_of_ble_eq_true rfl) m_pf5 rfl rfl (fun e => absurd e (by decide))) ?_
      show Xv E q_m_X8_orderOf 30 [Value.ref am, Value.int (zi y), Value.int (zi z)] [] (q_mw h am (uM M 0 5 0)) Q
      refine xv (x_aload_n 31 d_X8_orderOf_30 rfl rfl) ?_
      refine xv (x_getfield 34 d_X8_orderOf_31 rfl f_8_49 (Nat.le_of_ble_eq_true rfl) (Nat.le_of_ble_eq_true rfl) ((q_gf_of (m_o (h := h) (am := am) (M := (uM M 0 5 0))) rfl : q_gf (q_mw h am (uM M 0 5 0)) am 8 5 = some (Value.int (zi 0))))) ?_
      refine v_if_le 39 37 d_X8_orderOf_34 rfl rfl (by omega) (by omega) (fun k34 => ?_) (fun k34 => ?_)
      · refine xv (x_iload_n 40 d_X8_orderOf_39 rfl rfl) ?_
        by_cases k40_0 : z = 3
        · refine xv (x_tsw_in 68 3 d_X8_orderOf_40 k40_0 (by decide) (by decide) (by decide) rfl rfl) ?_
          refine xv (x_aload_n 69 d_X8_orderOf_68 rfl rfl) ?_
          refine xv (x_iload_n 70 d_X8_orderOf_69 rfl rfl) ?_
          refine xv (x_inv1 73 (as := [Value.int (zi y)]) d_X8_orderOf_70 rfl c_8_115 rfl (Nat.le_of_ble_eq_true rfl) (Nat.le_of_ble_eq_true rfl) m_o (Nat.le_of_ble_eq_true rfl) (Nat.le_of_ble_eq_true rfl) rfl (S_X8_stateOf (E := E) (h := h) (am := am) (M := (uM M 0 5 0)) hR (by first | omega | (rw [show (uM M 0 5 0) 1 = (M 1) from rfl]; omega)))) ?_
          have q_1 := @sto_r (M 1) y
          show Xv E q_m_X8_orderOf 73 [Value.ref am, Value.int (zi y), Value.int (zi z)] [Value.int (zi (sto (M 1) y))] (q_mw h am (uM M 0 5 0)) Q
          refine xv_r (x_ireturn d_X8_orderOf_73 rfl rfl) ?_
          have er : ordM (M 1) y z = (0, sto (M 1) y) := by unfold ordM; repeat (first | rw [if_pos (by omega)] | rw [if_neg (by omega)])
          refine hQ _ _ ?_
          rw [er]
          exact ⟨rfl, rfl⟩
        by_cases k40_1 : z = 4
        · refine xv (x_tsw_in 74 4 d_X8_orderOf_40 k40_1 (by decide) (by decide) (by decide) rfl rfl) ?_
          refine xv (x_aload_n 75 d_X8_orderOf_74 rfl rfl) ?_
          refine xv (x_iload_n 76 d_X8_orderOf_75 rfl rfl) ?_
          refine xv (x_iconst 77 d_X8_orderOf_76 rfl) ?_
          refine xv (x_inv1 80 (as := [Value.int (zi y), Value.int (zi 3)]) d_X8_orderOf_77 rfl c_8_109 rfl (Nat.le_of_ble_eq_true rfl) (Nat.le_of_ble_eq_true rfl) m_o (Nat.le_of_ble_eq_true rfl) (Nat.le_of_ble_eq_true rfl) rfl (S_X8_get (E := E) (h := h) (am := am) (M := (uM M 0 5 0)) hR (by first | omega | (rw [show (uM M 0 5 0) 1 = (M 1) from rfl]; omega)) (by first | omega | (rw [show (uM M 0 5 0) 1 = (M 1) from rfl]; omega)) (by first | omega | (rw [show (uM M 0 5 0) 1 = (M 1) from rfl]; omega)) (by first | omega | (rw [show (uM M 0 5 0) 1 = (M 1) from rfl]; omega)))) ?_
          have q_2 : -1000000 ≤ ob (M 1) y 3 ∧ ob (M 1) y 3 ≤ 1000000 := hr _
          show Xv E q_m_X8_orderOf 80 [Value.ref am, Value.int (zi y), Value.int (zi z)] [Value.int (zi (ob (M 1) y 3))] (q_mw h am (uM M 0 5 0)) Q
          refine xv_r (x_ireturn d_X8_orderOf_80 rfl rfl) ?_
          have er : ordM (M 1) y z = (0, ob (M 1) y 3) := by unfold ordM; repeat (first | rw [if_pos (by omega)] | rw [if_neg (by omega)])
          refine hQ _ _ ?_
          rw [er]
          exact ⟨rfl, rfl⟩
        by_cases k40_2 : z = 5
        · refine xv (x_tsw_in 81 5 d_X8_orderOf_40 k40_2 (by decide) (by decide) (by decide) rfl rfl) ?_
          refine xv (x_aload_n 82 d_X8_orderOf_81 rfl rfl) ?_
          refine xv (x_iload_n 83 d_X8_orderOf_82 rfl rfl) ?_
          refine xv (x_iconst 84 d_X8_orderOf_83 rfl) ?_
          refine xv (x_inv1 87 (as := [Value.int (zi y), Value.int (zi 4)]) d_X8_orderOf_84 rfl c_8_109 rfl (Nat.le_of_ble_eq_true rfl) (Nat.le_of_ble_eq_true rfl) m_o (Nat.le_of_ble_eq_true rfl) (Nat.le_of_ble_eq_true rfl) rfl (S_X8_get (E := E) (h := h) (am := am) (M := (uM M 0 5 0)) hR (by first | omega | (rw [show (uM M 0 5 0) 1 = (M 1) from rfl]; omega)) (by first | omega | (rw [show (uM M 0 5 0) 1 = (M 1) from rfl]; omega)) (by first | omega | (rw [show (uM M 0 5 0) 1 = (M 1) from rfl]; omega)) (by first | omega | (rw [show (uM M 0 5 0) 1 = (M 1) from rfl]; omega)))) ?_
          have q_3 : -1000000 ≤ ob (M 1) y 4 ∧ ob (M 1) y 4 ≤ 1000000 := hr _
          show Xv E q_m_X8_orderOf 87 [Value.ref am, Value.int (zi y), Value.int (zi z)] [Value.int (zi (ob (M 1) y 4))] (q_mw h am (uM M 0 5 0)) Q
          refine xv_r (x_ireturn d_X8_orderOf_87 rfl rfl) ?_
          have er : ordM (M 1) y z = (0, ob (M 1) y 4) := by unfold ordM; repeat (first | rw [if_pos (by omega)] | rw [if_neg (by omega)])
          refine hQ _ _ ?_
          rw [er]
          exact ⟨rfl, rfl⟩
        refine xv (x_tsw_out 88 d_X8_orderOf_40 (by omega) (by omega) (by omega) rfl) ?_
        refine xv (x_aload_n 89 d_X8_orderOf_88 rfl rfl) ?_
        refine xv (x_iload_n 90 d_X8_orderOf_89 rfl rfl) ?_
        refine xv (x_iload_n 91 d_X8_orderOf_90 rfl rfl) ?_
        refine xv (x_inv1 94 (as := [Value.int (zi y), Value.int (zi z)]) d_X8_orderOf_91 rfl c_8_109 rfl (Nat.le_of_ble_eq_true rfl) (Nat.le_of_ble_eq_true rfl) m_o (Nat.le_of_ble_eq_true rfl) (Nat.le_of_ble_eq_true rfl) rfl (S_X8_get (E := E) (h := h) (am := am) (M := (uM M 0 5 0)) hR (by first | omega | (rw [show (uM M 0 5 0) 1 = (M 1) from rfl]; omega)) (by first | omega | (rw [show (uM M 0 5 0) 1 = (M 1) from rfl]; omega)) (by first | omega | (rw [show (uM M 0 5 0) 1 = (M 1) from rfl]; omega)) (by first | omega | (rw [show (uM M 0 5 0) 1 = (M 1) from rfl]; omega)))) ?_
        have q_4 : -1000000 ≤ ob (M 1) y z ∧ ob (M 1) y z ≤ 1000000 := hr _
        show Xv E q_m_X8_orderOf 94 [Value.ref am, Value.int (zi y), Value.int (zi z)] [Value.int (zi (ob (M 1) y z))] (q_mw h am (uM M 0 5 0)) Q
        refine xv_r (x_ireturn d_X8_orderOf_94 rfl rfl) ?_
        have er : ordM (M 1) y z = (0, ob (M 1) y z) := by unfold ordM; repeat (first | rw [if_pos (by omega)] | rw [if_neg (by omega)])
        refine hQ _ _ ?_
        rw [er]
        exact ⟨rfl, rfl⟩
      · omega
    · replace k19 := bI_0.mp k19
      refine xv (x_iconst 23 d_X8_orderOf_22 rfl) ?_
      refine xv (x_goto 27 d_X8_orderOf_23 rfl) ?_
      refine xv (x_putfield 30 d_X8_orderOf_27 rfl f_8_49 (Nat.le_of_ble_eq_true rfl) m_pf5 rfl rfl (fun e => absurd e (by decide))) ?_
      show Xv E q_m_X8_orderOf 30 [Value.ref am, Value.int (zi y), Value.int (zi z)] [] (q_mw h am (uM M 0 5 2)) Q
      refine xv (x_aload_n 31 d_X8_orderOf_30 rfl rfl) ?_
      refine xv (x_getfield 34 d_X8_orderOf_31 rfl f_8_49 (Nat.le_of_ble_eq_true rfl) (Nat.le_of_ble_eq_true rfl) ((q_gf_of (m_o (h := h) (am := am) (M := (uM M 0 5 2))) rfl : q_gf (q_mw h am (uM M 0 5 2)) am 8 5 = some (Value.int (zi 2))))) ?_
      refine v_if_le 39 37 d_X8_orderOf_34 rfl rfl (by omega) (by omega) (fun k34 => ?_) (fun k34 => ?_)
      · omega
      · refine xv (x_iconst 38 d_X8_orderOf_37 rfl) ?_
        refine xv_r (x_ireturn d_X8_orderOf_38 rfl rfl) ?_
        have er : ordM (M 1) y z = (2, 0) := by unfold ordM; repeat (first | rw [if_pos (by omega)] | rw [if_neg (by omega)])
        refine hQ _ _ ?_
        rw [er]
        exact ⟨rfl, rfl⟩
  · replace k6 := bI_0.mp k6
    refine xv (x_iconst 10 d_X8_orderOf_9 rfl) ?_
    refine xv (x_goto 27 d_X8_orderOf_10 rfl) ?_
    refine xv (x_putfield 30 d_X8_orderOf_27 rfl f_8_49 (Nat.le_of_ble_eq_true rfl) m_pf5 rfl rfl (fun e => absurd e (by decide))) ?_
    show Xv E q_m_X8_orderOf 30 [Value.ref am, Value.int (zi y), Value.int (zi z)] [] (q_mw h am (uM M 0 5 1)) Q
    refine xv (x_aload_n 31 d_X8_orderOf_30 rfl rfl) ?_
    refine xv (x_getfield 34 d_X8_orderOf_31 rfl f_8_49 (Nat.le_of_ble_eq_true rfl) (Nat.le_of_ble_eq_true rfl) ((q_gf_of (m_o (h := h) (am := am) (M := (uM M 0 5 1))) rfl : q_gf (q_mw h am (uM M 0 5 1)) am 8 5 = some (Value.int (zi 1))))) ?_
    refine v_if_le 39 37 d_X8_orderOf_34 rfl rfl (by omega) (by omega) (fun k34 => ?_) (fun k34 => ?_)
    · omega
    · refine xv (x_iconst 38 d_X8_orderOf_37 rfl) ?_
      refine xv_r (x_ireturn d_X8_orderOf_38 rfl rfl) ?_
      have er : ordM (M 1) y z = (1, 0) := by unfold ordM; repeat (first | rw [if_pos (by omega)] | rw [if_neg (by omega)])
      refine hQ _ _ ?_
      rw [er]
      exact ⟨rfl, rfl⟩
theorem S_X8_line (hR : Rg (M 1)) {y z : Int} (y0 : -2147483648 ≤ y) (y1 : y < 2147483648) (z0 : -2147483648 ≤ z) (z1 : z < 2147483648) : ∃ r_ h', q_cl E q_m_X8_line [Value.ref am, Value.int (zi y), Value.int (zi z)] (q_mw h am M) = some (r_, h') ∧ (r_ = .inl (some (.int (zi (linM (M 1) y z).2))) ∧ h' = q_mw h am (uM M 0 5 (linM (M 1) y z).1)) := by
  suffices K : ∀ Q : q_R → q_H → Prop, (∀ r_ h', (r_ = .inl (some (.int (zi (linM (M 1) y z).2))) ∧ h' = q_mw h am (uM M 0 5 (linM (M 1) y z).1)) → Q r_ h') → Xv E q_m_X8_line 0 [Value.ref am, Value.int (zi y), Value.int (zi z)] [] (q_mw h am M) Q from K _ fun _ _ p => p
  intro Q hQ
  have hR0 := hR
  obtain ⟨hr, g0, g1, g3, g4, gc, g5, g6, g7, gk, gl, gr, go⟩ := hR0
  refine xv (x_aload_n 1 d_X8_line_0 rfl rfl) ?_
  refine xv (x_aload_n 2 d_X8_line_1 rfl rfl) ?_
  refine xv (x_iload_n 3 d_X8_line_2 rfl rfl) ?_
  refine xv (x_inv1 6 (as := [Value.int (zi y)]) d_X8_line_3 rfl c_8_112 rfl (Nat.le_of_ble_eq_true rfl) (Nat.le_of_ble_eq_true rfl) m_o (Nat.le_of_ble_eq_true rfl) (Nat.le_of_ble_eq_true rfl) rfl (S_X8_isOrder (E := E) (h := h) (am := am) (M := M) hR (by omega) (by omega))) ?_
  show Xv E q_m_X8_line 6 [Value.ref am, Value.int (zi y), Value.int (zi z)] [Value.int (zi (bI (isO (M 1) y))), Value.ref am] (q_mw h am M) Q
  refine v_if_eq 29 9 d_X8_line_6 rfl rfl (by have := bI_r (isO (M 1) y); omega) (by have := bI_r (isO (M 1) y); omega) (fun k6 => ?_) (fun k6 => ?_)
  · replace k6 := bI_0.mp k6
    refine xv (x_iconst 30 d_X8_line_29 rfl) ?_
    refine xv (x_putfield 33 d_X8_line_30 rfl f_8_49 (Nat.le_of_ble_eq_true rfl) m_pf5 rfl rfl (fun e => absurd e (by decide))) ?_
    show Xv E q_m_X8_line 33 [Value.ref am, Value.int (zi y), Value.int (zi z)] [] (q_mw h am (uM M 0 5 1)) Q
    refine xv (x_aload_n 34 d_X8_line_33 rfl rfl) ?_
    refine xv (x_getfield 37 d_X8_line_34 rfl f_8_49 (Nat.le_of_ble_eq_true rfl) (Nat.le_of_ble_eq_true rfl) ((q_gf_of (m_o (h := h) (am := am) (M := (uM M 0 5 1))) rfl : q_gf (q_mw h am (uM M 0 5 1)) am 8 5 = some (Value.int (zi 1))))) ?_
    refine v_if_le 44 40 d_X8_line_37 rfl rfl (by omega) (by omega) (fun k37 => ?_) (fun k37 => ?_)
    · omega
    · refine xv (x_iconst 41 d_X8_line_40 rfl) ?_
      refine xv (x_goto 52 d_X8_line_41 rfl) ?_
      refine xv_r (x_ireturn d_X8_line_52 rfl rfl) ?_
      have er : linM (M 1) y z = (1, 0) := by unfold linM; repeat (first | rw [if_pos (by omega)] | rw [if_neg (by omega)])
      refine hQ _ _ ?_
      rw [er]
      exact ⟨rfl, rfl⟩
  · replace k6 := bI_n0.mp k6
    have gq := (go y k6.1 k6.2).1
    refine xv (x_iload_n 10 d_X8_line_9 rfl rfl) ?_
    refine xv (x_iconst 11 d_X8_line_10 rfl) ?_
    refine xv (x_aload_n 12 d_X8_line_11 rfl rfl) ?_
    refine xv (x_iload_n 13 d_X8_line_12 rfl rfl) ?_
    refine xv (x_iconst 14 d_X8_line_13 rfl) ?_
    refine xv (x_inv1 17 (as := [Value.int (zi y), Value.int (zi 1)]) d_X8_line_14 rfl c_8_109 rfl (Nat.le_of_ble_eq_true rfl) (Nat.le_of_ble_eq_true rfl) m_o (Nat.le_of_ble_eq_true rfl) (Nat.le_of_ble_eq_true rfl) rfl (S_X8_get (E := E) (h := h) (am := am) (M := M) hR (by omega) (by omega) (by omega) (by omega))) ?_
    have q_1 : -1000000 ≤ ob (M 1) y 1 ∧ ob (M 1) y 1 ≤ 1000000 := hr _
    show Xv E q_m_X8_line 17 [Value.ref am, Value.int (zi y), Value.int (zi z)] [Value.int (zi (ob (M 1) y 1)), Value.int (zi 0), Value.int (zi z), Value.ref am] (q_mw h am M) Q
    refine xv (x_iconst 18 d_X8_line_17 rfl) ?_
    refine xv (x_isub 19 d_X8_line_18 rfl) ?_
    refine xv (x_ins1 22 (as := [Value.int (zi z), Value.int (zi 0), Value.int (zi ((ob (M 1) y 1) - 1))]) d_X8_line_19 rfl c_8_71 rfl (Nat.le_of_ble_eq_true rfl) (Nat.le_of_ble_eq_true rfl) (Nat.le_of_ble_eq_true rfl) rfl (S_X8_in (E := E) (h := h) (am := am) (M := M) (by omega) (by omega) (by omega) (by omega) (by omega) (by omega))) ?_
    show Xv E q_m_X8_line 22 [Value.ref am, Value.int (zi y), Value.int (zi z)] [Value.int (zi (bI (inn z 0 ((ob (M 1) y 1) - 1)))), Value.ref am] (q_mw h am M) Q
    refine v_if_eq 29 25 d_X8_line_22 rfl rfl (by have := bI_r (inn z 0 ((ob (M 1) y 1) - 1)); omega) (by have := bI_r (inn z 0 ((ob (M 1) y 1) - 1)); omega) (fun k22 => ?_) (fun k22 => ?_)
    · replace k22 := bI_0.mp k22
      refine xv (x_iconst 30 d_X8_line_29 rfl) ?_
      refine xv (x_putfield 33 d_X8_line_30 rfl f_8_49 (Nat.le_of_ble_eq_true rfl) m_pf5 rfl rfl (fun e => absurd e (by decide))) ?_
      show Xv E q_m_X8_line 33 [Value.ref am, Value.int (zi y), Value.int (zi z)] [] (q_mw h am (uM M 0 5 1)) Q
      refine xv (x_aload_n 34 d_X8_line_33 rfl rfl) ?_
      refine xv (x_getfield 37 d_X8_line_34 rfl f_8_49 (Nat.le_of_ble_eq_true rfl) (Nat.le_of_ble_eq_true rfl) ((q_gf_of (m_o (h := h) (am := am) (M := (uM M 0 5 1))) rfl : q_gf (q_mw h am (uM M 0 5 1)) am 8 5 = some (Value.int (zi 1))))) ?_
      refine v_if_le 44 40 d_X8_line_37 rfl rfl (by omega) (by omega) (fun k37 => ?_) (fun k37 => ?_)
      · omega
      · refine xv (x_iconst 41 d_X8_line_40 rfl) ?_
        refine xv (x_goto 52 d_X8_line_41 rfl) ?_
        refine xv_r (x_ireturn d_X8_line_52 rfl rfl) ?_
        have er : linM (M 1) y z = (1, 0) := by unfold linM; repeat (first | rw [if_pos (by omega)] | rw [if_neg (by omega)])
        refine hQ _ _ ?_
        rw [er]
        exact ⟨rfl, rfl⟩
    · replace k22 := bI_n0.mp k22
      refine xv (x_iconst 26 d_X8_line_25 rfl) ?_
      refine xv (x_goto 30 d_X8_line_26 rfl) ?_
      refine xv (x_putfield 33 d_X8_line_30 rfl f_8_49 (Nat.le_of_ble_eq_true rfl) m_pf5 rfl rfl (fun e => absurd e (by decide))) ?_
      show Xv E q_m_X8_line 33 [Value.ref am, Value.int (zi y), Value.int (zi z)] [] (q_mw h am (uM M 0 5 0)) Q
      refine xv (x_aload_n 34 d_X8_line_33 rfl rfl) ?_
      refine xv (x_getfield 37 d_X8_line_34 rfl f_8_49 (Nat.le_of_ble_eq_true rfl) (Nat.le_of_ble_eq_true rfl) ((q_gf_of (m_o (h := h) (am := am) (M := (uM M 0 5 0))) rfl : q_gf (q_mw h am (uM M 0 5 0)) am 8 5 = some (Value.int (zi 0))))) ?_
      refine v_if_le 44 40 d_X8_line_37 rfl rfl (by omega) (by omega) (fun k37 => ?_) (fun k37 => ?_)
      · refine xv (x_aload_n 45 d_X8_line_44 rfl rfl) ?_
        refine xv (x_iload_n 46 d_X8_line_45 rfl rfl) ?_
        refine xv (x_iconst 47 d_X8_line_46 rfl) ?_
        refine xv (x_iload_n 48 d_X8_line_47 rfl rfl) ?_
        refine xv (x_iadd 49 d_X8_line_48 rfl) ?_
        refine xv (x_inv1 52 (as := [Value.int (zi y), Value.int (zi (5 + z))]) d_X8_line_49 rfl c_8_109 rfl (Nat.le_of_ble_eq_true rfl) (Nat.le_of_ble_eq_true rfl) m_o (Nat.le_of_ble_eq_true rfl) (Nat.le_of_ble_eq_true rfl) rfl (S_X8_get (E := E) (h := h) (am := am) (M := (uM M 0 5 0)) hR (by first | omega | (rw [show (uM M 0 5 0) 1 = (M 1) from rfl]; omega)) (by first | omega | (rw [show (uM M 0 5 0) 1 = (M 1) from rfl]; omega)) (by first | omega | (rw [show (uM M 0 5 0) 1 = (M 1) from rfl]; omega)) (by first | omega | (rw [show (uM M 0 5 0) 1 = (M 1) from rfl]; omega)))) ?_
        have q_2 : -1000000 ≤ ob (M 1) y (5 + z) ∧ ob (M 1) y (5 + z) ≤ 1000000 := hr _
        show Xv E q_m_X8_line 52 [Value.ref am, Value.int (zi y), Value.int (zi z)] [Value.int (zi (ob (M 1) y (5 + z)))] (q_mw h am (uM M 0 5 0)) Q
        refine xv_r (x_ireturn d_X8_line_52 rfl rfl) ?_
        have er : linM (M 1) y z = (0, ob (M 1) y (5 + z)) := by unfold linM; repeat (first | rw [if_pos (by omega)] | rw [if_neg (by omega)])
        refine hQ _ _ ?_
        rw [er]
        exact ⟨rfl, rfl⟩
      · omega
theorem S_X8_robotOf (hR : Rg (M 1)) {y z : Int} (y0 : -2147483648 ≤ y) (y1 : y < 2147483648) (z0 : -2147483648 ≤ z) (z1 : z < 2147483648) : ∃ r_ h', q_cl E q_m_X8_robotOf [Value.ref am, Value.int (zi y), Value.int (zi z)] (q_mw h am M) = some (r_, h') ∧ (r_ = .inl (some (.int (zi (robM (M 1) y z).2))) ∧ h' = q_mw h am (uM M 0 5 (robM (M 1) y z).1)) := by
  suffices K : ∀ Q : q_R → q_H → Prop, (∀ r_ h', (r_ = .inl (some (.int (zi (robM (M 1) y z).2))) ∧ h' = q_mw h am (uM M 0 5 (robM (M 1) y z).1)) → Q r_ h') → Xv E q_m_X8_robotOf 0 [Value.ref am, Value.int (zi y), Value.int (zi z)] [] (q_mw h am M) Q from K _ fun _ _ p => p
  intro Q hQ
  have hR0 := hR
  obtain ⟨hr, g0, g1, g3, g4, gc, g5, g6, g7, gk, gl, gr, go⟩ := hR0
  refine xv (x_aload_n 1 d_X8_robotOf_0 rfl rfl) ?_
  refine xv (x_aload_n 2 d_X8_robotOf_1 rfl rfl) ?_
  refine xv (x_iload_n 3 d_X8_robotOf_2 rfl rfl) ?_
  refine xv (x_inv1 6 (as := [Value.int (zi y)]) d_X8_robotOf_3 rfl c_8_103 rfl (Nat.le_of_ble_eq_true rfl) (Nat.le_of_ble_eq_true rfl) m_o (Nat.le_of_ble_eq_true rfl) (Nat.le_of_ble_eq_true rfl) rfl (S_X8_isRobot (E := E) (h := h) (am := am) (M := M) hR (by omega) (by omega))) ?_
  show Xv E q_m_X8_robotOf 6 [Value.ref am, Value.int (zi y), Value.int (zi z)] [Value.int (zi (bI (isR (M 1) y))), Value.ref am] (q_mw h am M) Q
  refine v_if_ne 13 9 d_X8_robotOf_6 rfl rfl (by have := bI_r (isR (M 1) y); omega) (by have := bI_r (isR (M 1) y); omega) (fun k6 => ?_) (fun k6 => ?_)
  · replace k6 := bI_n0.mp k6
    have gq := gr y k6.1 k6.2
    refine xv (x_iload_n 14 d_X8_robotOf_13 rfl rfl) ?_
    refine xv (x_iconst 15 d_X8_robotOf_14 rfl) ?_
    refine xv (x_bipush 17 d_X8_robotOf_15 rfl rfl) ?_
    refine xv (x_ins1 20 (as := [Value.int (zi z), Value.int (zi 0), Value.int (zi 6)]) d_X8_robotOf_17 rfl c_8_71 rfl (Nat.le_of_ble_eq_true rfl) (Nat.le_of_ble_eq_true rfl) (Nat.le_of_ble_eq_true rfl) rfl (S_X8_in (E := E) (h := h) (am := am) (M := M) (by omega) (by omega) (by omega) (by omega) (by omega) (by omega))) ?_
    show Xv E q_m_X8_robotOf 20 [Value.ref am, Value.int (zi y), Value.int (zi z)] [Value.int (zi (bI (inn z 0 6))), Value.ref am] (q_mw h am M) Q
    refine v_if_ne 27 23 d_X8_robotOf_20 rfl rfl (by have := bI_r (inn z 0 6); omega) (by have := bI_r (inn z 0 6); omega) (fun k20 => ?_) (fun k20 => ?_)
    · replace k20 := bI_n0.mp k20
      refine xv (x_iconst 28 d_X8_robotOf_27 rfl) ?_
      refine xv (x_putfield 31 d_X8_robotOf_28 rfl f_8_49 (Nat.le_of_ble_eq_true rfl) m_pf5 rfl rfl (fun e => absurd e (by decide))) ?_
      show Xv E q_m_X8_robotOf 31 [Value.ref am, Value.int (zi y), Value.int (zi z)] [] (q_mw h am (uM M 0 5 0)) Q
      refine xv (x_aload_n 32 d_X8_robotOf_31 rfl rfl) ?_
      refine xv (x_getfield 35 d_X8_robotOf_32 rfl f_8_49 (Nat.le_of_ble_eq_true rfl) (Nat.le_of_ble_eq_true rfl) ((q_gf_of (m_o (h := h) (am := am) (M := (uM M 0 5 0))) rfl : q_gf (q_mw h am (uM M 0 5 0)) am 8 5 = some (Value.int (zi 0))))) ?_
      refine v_if_le 40 38 d_X8_robotOf_35 rfl rfl (by omega) (by omega) (fun k35 => ?_) (fun k35 => ?_)
      · refine xv (x_iload_n 41 d_X8_robotOf_40 rfl rfl) ?_
        by_cases k41_0 : z = 3
        · refine xv (x_tsw_in 72 3 d_X8_robotOf_41 k41_0 (by decide) (by decide) (by decide) rfl rfl) ?_
          refine xv (x_aload_n 73 d_X8_robotOf_72 rfl rfl) ?_
          refine xv (x_iload_n 74 d_X8_robotOf_73 rfl rfl) ?_
          refine xv (x_iconst 75 d_X8_robotOf_74 rfl) ?_
          refine xv (x_inv1 78 (as := [Value.int (zi y), Value.int (zi 3)]) d_X8_robotOf_75 rfl c_8_79 rfl (Nat.le_of_ble_eq_true rfl) (Nat.le_of_ble_eq_true rfl) m_o (Nat.le_of_ble_eq_true rfl) (Nat.le_of_ble_eq_true rfl) rfl (S_X8_of (E := E) (h := h) (am := am) (M := (uM M 0 5 0)) hR (by first | omega | (rw [show (uM M 0 5 0) 1 = (M 1) from rfl]; omega)) (by first | omega | (rw [show (uM M 0 5 0) 1 = (M 1) from rfl]; omega)) (by first | omega | (rw [show (uM M 0 5 0) 1 = (M 1) from rfl]; omega)) (by first | omega | (rw [show (uM M 0 5 0) 1 = (M 1) from rfl]; omega)))) ?_
          have q_1 : -1000000 ≤ rb (M 1) y 3 ∧ rb (M 1) y 3 ≤ 1000000 := hr _
          show Xv E q_m_X8_robotOf 78 [Value.ref am, Value.int (zi y), Value.int (zi z)] [Value.int (zi (rb (M 1) y 3))] (q_mw h am (uM M 0 5 0)) Q
          refine xv_r (x_ireturn d_X8_robotOf_78 rfl rfl) ?_
          have er : robM (M 1) y z = (0, rb (M 1) y 3) := by unfold robM; repeat (first | rw [if_pos (by omega)] | rw [if_neg (by omega)])
          refine hQ _ _ ?_
          rw [er]
          exact ⟨rfl, rfl⟩
        by_cases k41_1 : z = 4
        · refine xv (x_tsw_in 79 4 d_X8_robotOf_41 k41_1 (by decide) (by decide) (by decide) rfl rfl) ?_
          refine xv (x_aload_n 80 d_X8_robotOf_79 rfl rfl) ?_
          refine xv (x_iload_n 81 d_X8_robotOf_80 rfl rfl) ?_
          refine xv (x_iconst 82 d_X8_robotOf_81 rfl) ?_
          refine xv (x_inv1 85 (as := [Value.int (zi y), Value.int (zi 3)]) d_X8_robotOf_82 rfl c_8_79 rfl (Nat.le_of_ble_eq_true rfl) (Nat.le_of_ble_eq_true rfl) m_o (Nat.le_of_ble_eq_true rfl) (Nat.le_of_ble_eq_true rfl) rfl (S_X8_of (E := E) (h := h) (am := am) (M := (uM M 0 5 0)) hR (by first | omega | (rw [show (uM M 0 5 0) 1 = (M 1) from rfl]; omega)) (by first | omega | (rw [show (uM M 0 5 0) 1 = (M 1) from rfl]; omega)) (by first | omega | (rw [show (uM M 0 5 0) 1 = (M 1) from rfl]; omega)) (by first | omega | (rw [show (uM M 0 5 0) 1 = (M 1) from rfl]; omega)))) ?_
          have q_2 : -1000000 ≤ rb (M 1) y 3 ∧ rb (M 1) y 3 ≤ 1000000 := hr _
          show Xv E q_m_X8_robotOf 85 [Value.ref am, Value.int (zi y), Value.int (zi z)] [Value.int (zi (rb (M 1) y 3))] (q_mw h am (uM M 0 5 0)) Q
          refine v_if_ne 92 88 d_X8_robotOf_85 rfl rfl (by omega) (by omega) (fun k85 => ?_) (fun k85 => ?_)
          · refine xv (x_aload_n 93 d_X8_robotOf_92 rfl rfl) ?_
            refine xv (x_iload_n 94 d_X8_robotOf_93 rfl rfl) ?_
            refine xv (x_bipush 96 d_X8_robotOf_94 rfl rfl) ?_
            refine xv (x_inv1 99 (as := [Value.int (zi y), Value.int (zi 30)]) d_X8_robotOf_96 rfl c_8_83 rfl (Nat.le_of_ble_eq_true rfl) (Nat.le_of_ble_eq_true rfl) m_o (Nat.le_of_ble_eq_true rfl) (Nat.le_of_ble_eq_true rfl) rfl (S_X8_cellOf (E := E) (h := h) (am := am) (M := (uM M 0 5 0)) hR (by first | omega | (rw [show (uM M 0 5 0) 1 = (M 1) from rfl]; omega)) (by first | omega | (rw [show (uM M 0 5 0) 1 = (M 1) from rfl]; omega)) (by first | omega | (rw [show (uM M 0 5 0) 1 = (M 1) from rfl]; omega)))) ?_
            have q_3 := ahd_r hR (r := y) (t := 30) (by omega) (by omega)
            show Xv E q_m_X8_robotOf 99 [Value.ref am, Value.int (zi y), Value.int (zi z)] [Value.int (zi (ahd (M 1) y 30))] (q_mw h am (uM M 0 5 0)) Q
            refine xv_r (x_ireturn d_X8_robotOf_99 rfl rfl) ?_
            have er : robM (M 1) y z = (0, if rb (M 1) y 3 = 0 then -1 else ahd (M 1) y 30) := by unfold robM; repeat (first | rw [if_pos (by omega)] | rw [if_neg (by omega)])
            refine hQ _ _ ?_
            rw [er]
            exact ⟨by first | rw [if_pos k85] | rw [if_neg k85], rfl⟩
          · refine xv (x_iconst 89 d_X8_robotOf_88 rfl) ?_
            refine xv (x_goto 99 d_X8_robotOf_89 rfl) ?_
            refine xv_r (x_ireturn d_X8_robotOf_99 rfl rfl) ?_
            have er : robM (M 1) y z = (0, if rb (M 1) y 3 = 0 then -1 else ahd (M 1) y 30) := by unfold robM; repeat (first | rw [if_pos (by omega)] | rw [if_neg (by omega)])
            refine hQ _ _ ?_
            rw [er]
            exact ⟨by first | rw [if_pos k85] | rw [if_neg k85], rfl⟩
        by_cases k41_2 : z = 5
        · refine xv (x_tsw_in 100 5 d_X8_robotOf_41 k41_2 (by decide) (by decide) (by decide) rfl rfl) ?_
          refine xv (x_aload_n 101 d_X8_robotOf_100 rfl rfl) ?_
          refine xv (x_iload_n 102 d_X8_robotOf_101 rfl rfl) ?_
          refine xv (x_inv1 105 (as := [Value.int (zi y)]) d_X8_robotOf_102 rfl c_8_145 rfl (Nat.le_of_ble_eq_true rfl) (Nat.le_of_ble_eq_true rfl) m_o (Nat.le_of_ble_eq_true rfl) (Nat.le_of_ble_eq_true rfl) rfl (S_X8_isLoaded (E := E) (h := h) (am := am) (M := (uM M 0 5 0)) hR (by first | omega | (rw [show (uM M 0 5 0) 1 = (M 1) from rfl]; omega)))) ?_
          show Xv E q_m_X8_robotOf 105 [Value.ref am, Value.int (zi y), Value.int (zi z)] [Value.int (zi (bI (ldd (M 1) y)))] (q_mw h am (uM M 0 5 0)) Q
          refine v_if_eq 112 108 d_X8_robotOf_105 rfl rfl (by have := bI_r (ldd (M 1) y); omega) (by have := bI_r (ldd (M 1) y); omega) (fun k105 => ?_) (fun k105 => ?_)
          · replace k105 := bI_0.mp k105
            refine xv (x_iconst 113 d_X8_robotOf_112 rfl) ?_
            refine xv_r (x_ireturn d_X8_robotOf_113 rfl rfl) ?_
            have er : robM (M 1) y z = (0, bI (ldd (M 1) y)) := by unfold robM; repeat (first | rw [if_pos (by omega)] | rw [if_neg (by omega)])
            refine hQ _ _ ?_
            rw [er]
            exact ⟨by first | rw [bI_t k105] | rw [bI_f k105], rfl⟩
          · replace k105 := bI_n0.mp k105
            refine xv (x_iconst 109 d_X8_robotOf_108 rfl) ?_
            refine xv (x_goto 113 d_X8_robotOf_109 rfl) ?_
            refine xv_r (x_ireturn d_X8_robotOf_113 rfl rfl) ?_
            have er : robM (M 1) y z = (0, bI (ldd (M 1) y)) := by unfold robM; repeat (first | rw [if_pos (by omega)] | rw [if_neg (by omega)])
            refine hQ _ _ ?_
            rw [er]
            exact ⟨by first | rw [bI_t k105] | rw [bI_f k105], rfl⟩
        by_cases k41_3 : z = 6
        · refine xv (x_tsw_in 114 6 d_X8_robotOf_41 k41_3 (by decide) (by decide) (by decide) rfl rfl) ?_
          refine xv (x_aload_n 115 d_X8_robotOf_114 rfl rfl) ?_
          refine xv (x_iload_n 116 d_X8_robotOf_115 rfl rfl) ?_
          refine xv (x_iconst 117 d_X8_robotOf_116 rfl) ?_
          refine xv (x_inv1 120 (as := [Value.int (zi y), Value.int (zi 5)]) d_X8_robotOf_117 rfl c_8_79 rfl (Nat.le_of_ble_eq_true rfl) (Nat.le_of_ble_eq_true rfl) m_o (Nat.le_of_ble_eq_true rfl) (Nat.le_of_ble_eq_true rfl) rfl (S_X8_of (E := E) (h := h) (am := am) (M := (uM M 0 5 0)) hR (by first | omega | (rw [show (uM M 0 5 0) 1 = (M 1) from rfl]; omega)) (by first | omega | (rw [show (uM M 0 5 0) 1 = (M 1) from rfl]; omega)) (by first | omega | (rw [show (uM M 0 5 0) 1 = (M 1) from rfl]; omega)) (by first | omega | (rw [show (uM M 0 5 0) 1 = (M 1) from rfl]; omega)))) ?_
          have q_4 : -1000000 ≤ rb (M 1) y 5 ∧ rb (M 1) y 5 ≤ 1000000 := hr _
          show Xv E q_m_X8_robotOf 120 [Value.ref am, Value.int (zi y), Value.int (zi z)] [Value.int (zi (rb (M 1) y 5))] (q_mw h am (uM M 0 5 0)) Q
          refine xv_r (x_ireturn d_X8_robotOf_120 rfl rfl) ?_
          have er : robM (M 1) y z = (0, rb (M 1) y 5) := by unfold robM; repeat (first | rw [if_pos (by omega)] | rw [if_neg (by omega)])
          refine hQ _ _ ?_
          rw [er]
          exact ⟨rfl, rfl⟩
        refine xv (x_tsw_out 121 d_X8_robotOf_41 (by omega) (by omega) (by omega) rfl) ?_
        refine xv (x_aload_n 122 d_X8_robotOf_121 rfl rfl) ?_
        refine xv (x_iload_n 123 d_X8_robotOf_122 rfl rfl) ?_
        refine xv (x_iload_n 124 d_X8_robotOf_123 rfl rfl) ?_
        refine xv (x_inv1 127 (as := [Value.int (zi y), Value.int (zi z)]) d_X8_robotOf_124 rfl c_8_79 rfl (Nat.le_of_ble_eq_true rfl) (Nat.le_of_ble_eq_true rfl) m_o (Nat.le_of_ble_eq_true rfl) (Nat.le_of_ble_eq_true rfl) rfl (S_X8_of (E := E) (h := h) (am := am) (M := (uM M 0 5 0)) hR (by first | omega | (rw [show (uM M 0 5 0) 1 = (M 1) from rfl]; omega)) (by first | omega | (rw [show (uM M 0 5 0) 1 = (M 1) from rfl]; omega)) (by first | omega | (rw [show (uM M 0 5 0) 1 = (M 1) from rfl]; omega)) (by first | omega | (rw [show (uM M 0 5 0) 1 = (M 1) from rfl]; omega)))) ?_
        have q_5 : -1000000 ≤ rb (M 1) y z ∧ rb (M 1) y z ≤ 1000000 := hr _
        show Xv E q_m_X8_robotOf 127 [Value.ref am, Value.int (zi y), Value.int (zi z)] [Value.int (zi (rb (M 1) y z))] (q_mw h am (uM M 0 5 0)) Q
        refine xv_r (x_ireturn d_X8_robotOf_127 rfl rfl) ?_
        have er : robM (M 1) y z = (0, rb (M 1) y z) := by unfold robM; repeat (first | rw [if_pos (by omega)] | rw [if_neg (by omega)])
        refine hQ _ _ ?_
        rw [er]
        exact ⟨rfl, rfl⟩
      · omega
    · replace k20 := bI_0.mp k20
      refine xv (x_iconst 24 d_X8_robotOf_23 rfl) ?_
      refine xv (x_goto 28 d_X8_robotOf_24 rfl) ?_
      refine xv (x_putfield 31 d_X8_robotOf_28 rfl f_8_49 (Nat.le_of_ble_eq_true rfl) m_pf5 rfl rfl (fun e => absurd e (by decide))) ?_
      show Xv E q_m_X8_robotOf 31 [Value.ref am, Value.int (zi y), Value.int (zi z)] [] (q_mw h am (uM M 0 5 2)) Q
      refine xv (x_aload_n 32 d_X8_robotOf_31 rfl rfl) ?_
      refine xv (x_getfield 35 d_X8_robotOf_32 rfl f_8_49 (Nat.le_of_ble_eq_true rfl) (Nat.le_of_ble_eq_true rfl) ((q_gf_of (m_o (h := h) (am := am) (M := (uM M 0 5 2))) rfl : q_gf (q_mw h am (uM M 0 5 2)) am 8 5 = some (Value.int (zi 2))))) ?_
      refine v_if_le 40 38 d_X8_robotOf_35 rfl rfl (by omega) (by omega) (fun k35 => ?_) (fun k35 => ?_)
      · omega
      · refine xv (x_iconst 39 d_X8_robotOf_38 rfl) ?_
        refine xv_r (x_ireturn d_X8_robotOf_39 rfl rfl) ?_
        have er : robM (M 1) y z = (2, 0) := by unfold robM; repeat (first | rw [if_pos (by omega)] | rw [if_neg (by omega)])
        refine hQ _ _ ?_
        rw [er]
        exact ⟨rfl, rfl⟩
  · replace k6 := bI_0.mp k6
    refine xv (x_iconst 10 d_X8_robotOf_9 rfl) ?_
    refine xv (x_goto 28 d_X8_robotOf_10 rfl) ?_
    refine xv (x_putfield 31 d_X8_robotOf_28 rfl f_8_49 (Nat.le_of_ble_eq_true rfl) m_pf5 rfl rfl (fun e => absurd e (by decide))) ?_
    show Xv E q_m_X8_robotOf 31 [Value.ref am, Value.int (zi y), Value.int (zi z)] [] (q_mw h am (uM M 0 5 1)) Q
    refine xv (x_aload_n 32 d_X8_robotOf_31 rfl rfl) ?_
    refine xv (x_getfield 35 d_X8_robotOf_32 rfl f_8_49 (Nat.le_of_ble_eq_true rfl) (Nat.le_of_ble_eq_true rfl) ((q_gf_of (m_o (h := h) (am := am) (M := (uM M 0 5 1))) rfl : q_gf (q_mw h am (uM M 0 5 1)) am 8 5 = some (Value.int (zi 1))))) ?_
    refine v_if_le 40 38 d_X8_robotOf_35 rfl rfl (by omega) (by omega) (fun k35 => ?_) (fun k35 => ?_)
    · omega
    · refine xv (x_iconst 39 d_X8_robotOf_38 rfl) ?_
      refine xv_r (x_ireturn d_X8_robotOf_39 rfl rfl) ?_
      have er : robM (M 1) y z = (1, 0) := by unfold robM; repeat (first | rw [if_pos (by omega)] | rw [if_neg (by omega)])
      refine hQ _ _ ?_
      rw [er]
      exact ⟨rfl, rfl⟩
theorem S_X8_reason (hk : -1000000 ≤ M 0 6 ∧ M 0 6 ≤ 1000000) {y : Int} (y0 : -2147483648 ≤ y) (y1 : y < 2147483648) : ∃ r_ h', q_cl E q_m_X8_reason [Value.ref am, Value.int (zi y)] (q_mw h am M) = some (r_, h') ∧ (r_ = .inl (some (.int (zi (reaM (M 0 6) (M 0 7) y).2))) ∧ h' = q_mw h am (uM M 0 5 (reaM (M 0 6) (M 0 7) y).1)) := by
  suffices K : ∀ Q : q_R → q_H → Prop, (∀ r_ h', (r_ = .inl (some (.int (zi (reaM (M 0 6) (M 0 7) y).2))) ∧ h' = q_mw h am (uM M 0 5 (reaM (M 0 6) (M 0 7) y).1)) → Q r_ h') → Xv E q_m_X8_reason 0 [Value.ref am, Value.int (zi y)] [] (q_mw h am M) Q from K _ fun _ _ p => p
  intro Q hQ
  refine xv (x_aload_n 1 d_X8_reason_0 rfl rfl) ?_
  refine xv (x_aload_n 2 d_X8_reason_1 rfl rfl) ?_
  refine xv (x_getfield 5 d_X8_reason_2 rfl f_8_61 (Nat.le_of_ble_eq_true rfl) (Nat.le_of_ble_eq_true rfl) ((q_gf_of (m_o (h := h) (am := am) (M := M)) rfl : q_gf (q_mw h am M) am 8 6 = some (Value.int (zi (M 0 6)))))) ?_
  refine v_if_ne 12 8 d_X8_reason_5 rfl rfl (by omega) (by omega) (fun k5 => ?_) (fun k5 => ?_)
  · refine xv (x_iconst 13 d_X8_reason_12 rfl) ?_
    refine xv (x_putfield 16 d_X8_reason_13 rfl f_8_49 (Nat.le_of_ble_eq_true rfl) m_pf5 rfl rfl (fun e => absurd e (by decide))) ?_
    show Xv E q_m_X8_reason 16 [Value.ref am, Value.int (zi y)] [] (q_mw h am (uM M 0 5 0)) Q
    refine xv (x_aload_n 17 d_X8_reason_16 rfl rfl) ?_
    refine xv (x_getfield 20 d_X8_reason_17 rfl f_8_49 (Nat.le_of_ble_eq_true rfl) (Nat.le_of_ble_eq_true rfl) ((q_gf_of (m_o (h := h) (am := am) (M := (uM M 0 5 0))) rfl : q_gf (q_mw h am (uM M 0 5 0)) am 8 5 = some (Value.int (zi 0))))) ?_
    refine v_if_le 27 23 d_X8_reason_20 rfl rfl (by omega) (by omega) (fun k20 => ?_) (fun k20 => ?_)
    · refine xv (x_iload_n 28 d_X8_reason_27 rfl rfl) ?_
      refine v_if_eq 38 31 d_X8_reason_28 rfl rfl (by omega) (by omega) (fun k28 => ?_) (fun k28 => ?_)
      · refine xv (x_aload_n 39 d_X8_reason_38 rfl rfl) ?_
        refine xv (x_getfield 42 d_X8_reason_39 rfl f_8_61 (Nat.le_of_ble_eq_true rfl) (Nat.le_of_ble_eq_true rfl) ((q_gf_of (m_o (h := h) (am := am) (M := (uM M 0 5 0))) rfl : q_gf (q_mw h am (uM M 0 5 0)) am 8 6 = some (Value.int (zi (M 0 6)))))) ?_
        refine xv_r (x_ireturn d_X8_reason_42 rfl rfl) ?_
        have er : reaM (M 0 6) (M 0 7) y = (0, M 0 6) := by unfold reaM; repeat (first | rw [if_pos (by omega)] | rw [if_neg (by omega)])
        refine hQ _ _ ?_
        rw [er]
        exact ⟨rfl, rfl⟩
      · refine xv (x_aload_n 32 d_X8_reason_31 rfl rfl) ?_
        refine xv (x_getfield 35 d_X8_reason_32 rfl f_8_64 (Nat.le_of_ble_eq_true rfl) (Nat.le_of_ble_eq_true rfl) ((q_gf_of (m_o (h := h) (am := am) (M := (uM M 0 5 0))) rfl : q_gf (q_mw h am (uM M 0 5 0)) am 8 7 = some (Value.int (zi (M 0 7)))))) ?_
        refine xv (x_goto 42 d_X8_reason_35 rfl) ?_
        refine xv_r (x_ireturn d_X8_reason_42 rfl rfl) ?_
        have er : reaM (M 0 6) (M 0 7) y = (0, M 0 7) := by unfold reaM; repeat (first | rw [if_pos (by omega)] | rw [if_neg (by omega)])
        refine hQ _ _ ?_
        rw [er]
        exact ⟨rfl, rfl⟩
    · omega
  · refine xv (x_iconst 9 d_X8_reason_8 rfl) ?_
    refine xv (x_goto 13 d_X8_reason_9 rfl) ?_
    refine xv (x_putfield 16 d_X8_reason_13 rfl f_8_49 (Nat.le_of_ble_eq_true rfl) m_pf5 rfl rfl (fun e => absurd e (by decide))) ?_
    show Xv E q_m_X8_reason 16 [Value.ref am, Value.int (zi y)] [] (q_mw h am (uM M 0 5 1)) Q
    refine xv (x_aload_n 17 d_X8_reason_16 rfl rfl) ?_
    refine xv (x_getfield 20 d_X8_reason_17 rfl f_8_49 (Nat.le_of_ble_eq_true rfl) (Nat.le_of_ble_eq_true rfl) ((q_gf_of (m_o (h := h) (am := am) (M := (uM M 0 5 1))) rfl : q_gf (q_mw h am (uM M 0 5 1)) am 8 5 = some (Value.int (zi 1))))) ?_
    refine v_if_le 27 23 d_X8_reason_20 rfl rfl (by omega) (by omega) (fun k20 => ?_) (fun k20 => ?_)
    · omega
    · refine xv (x_iconst 24 d_X8_reason_23 rfl) ?_
      refine xv (x_goto 42 d_X8_reason_24 rfl) ?_
      refine xv_r (x_ireturn d_X8_reason_42 rfl rfl) ?_
      have er : reaM (M 0 6) (M 0 7) y = (1, 0) := by unfold reaM; repeat (first | rw [if_pos (by omega)] | rw [if_neg (by omega)])
      refine hQ _ _ ?_
      rw [er]
      exact ⟨rfl, rfl⟩
end RQ
