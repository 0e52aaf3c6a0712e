/-! the reference: text, save, restore, undo; a cell (printed by program) -/
section RR
variable {E : q_E} {h : q_H} {am : Nat} {M M2 : q_Im} {l : Int → Int}
def mSav (M : q_Im) : q_Im := uM (uA (uM M 0 5 0) 2 (cpI (M 1) (M 2) 0 0 400)) 0 2 1
def mRes (M : q_Im) : q_Im := if M 0 2 = 0 then uM M 0 5 1 else uM (uA (uM M 0 5 0) 1 (cpI (M 2) (M 1) 0 0 400)) 0 4 0
def mUnd (M : q_Im) : q_Im := if M 0 4 = 0 then uM M 0 5 1 else uA (uM (uM M 0 5 0) 0 4 (M 0 4 - 1)) 1 (cpI (M 3) (M 1) (400 * (M 0 4 - 1)) 0 400)
def mApp (M : q_Im) (c : Int) : q_Im := if M 0 16 = 60 then uM M 0 5 1 else uM (uM (uM M 0 5 0) 11 (M 0 16) c) 0 16 (M 0 16 + 1)
theorem S_X8_save  : ∃ r_ h', q_cl E q_m_X8_save [Value.ref am] (q_mw h am M) = some (r_, h') ∧ (r_ = .inl (some (.int (zi (M 1 3)))) ∧ h' = q_mw h am (mSav M)) := by
  suffices K : ∀ Q : q_R → q_H → Prop, (∀ r_ h', (r_ = .inl (some (.int (zi (M 1 3)))) ∧ h' = q_mw h am (mSav M)) → Q r_ h') → Xv E q_m_X8_save 0 [Value.ref am] [] (q_mw h am M) Q from K _ fun _ _ p => p
  intro Q hQ
  refine xv (x_aload_n 1 d_X8_save_0 rfl rfl) ?_
  refine xv (x_iconst 2 d_X8_save_1 rfl) ?_
  refine xv (x_putfield 5 d_X8_save_2 rfl f_8_49 (Nat.le_of_ble_eq_true rfl) m_pf5 rfl rfl (fun e => absurd e (by decide))) ?_
  show Xv E q_m_X8_save 5 [Value.ref am] [] (q_mw h am (uM M 0 5 0)) Q
  refine xv (x_aload_n 6 d_X8_save_5 rfl rfl) ?_
  refine xv (x_getfield 9 d_X8_save_6 rfl f_8_9 (Nat.le_of_ble_eq_true rfl) (Nat.le_of_ble_eq_true rfl) (q_gf_of m_o rfl)) ?_
  refine xv (x_iconst 10 d_X8_save_9 rfl) ?_
  refine xv (x_aload_n 11 d_X8_save_10 rfl rfl) ?_
  refine xv (x_getfield 14 d_X8_save_11 rfl f_8_13 (Nat.le_of_ble_eq_true rfl) (Nat.le_of_ble_eq_true rfl) (q_gf_of m_o rfl)) ?_
  refine xv (x_iconst 15 d_X8_save_14 rfl) ?_
  refine xv (x_sipush 18 d_X8_save_15 rfl rfl) ?_
  refine xv (x_copy 21 d_X8_save_18 rfl rfl rfl (Nat.le_of_ble_eq_true rfl) (Nat.le_of_ble_eq_true rfl) (Nat.le_of_ble_eq_true rfl) (m_cpy 1 2 m_a1 m_a2 m_w2 (by omega) (by omega) (by omega) (by omega) (by omega) (by decide) (by decide))) ?_
  show Xv E q_m_X8_save 21 [Value.ref am] [] (q_mw h am (uA (uM M 0 5 0) 2 (cpI (M 1) (M 2) 0 0 400))) Q
  refine xv (x_aload_n 22 d_X8_save_21 rfl rfl) ?_
  refine xv (x_iconst 23 d_X8_save_22 rfl) ?_
  refine xv (x_putfield 26 d_X8_save_23 rfl f_8_207 (Nat.le_of_ble_eq_true rfl) m_pf2 rfl rfl (fun e => absurd e (by decide))) ?_
  show Xv E q_m_X8_save 26 [Value.ref am] [] (q_mw h am (uM (uA (uM M 0 5 0) 2 (cpI (M 1) (M 2) 0 0 400)) 0 2 1)) Q
  refine xv (x_aload_n 27 d_X8_save_26 rfl rfl) ?_
  refine xv (x_getfield 30 d_X8_save_27 rfl f_8_9 (Nat.le_of_ble_eq_true rfl) (Nat.le_of_ble_eq_true rfl) (q_gf_of m_o rfl)) ?_
  refine xv (x_iconst 31 d_X8_save_30 rfl) ?_
  refine xv (x_iaload 32 d_X8_save_31 rfl ((m_g1 (by omega) (by omega)).trans (rfl : _ = some (Value.int (zi ((M 1) 3)))))) ?_
  refine xv_r (x_ireturn d_X8_save_32 rfl rfl) ?_
  refine hQ _ _ ⟨?_, ?_⟩
  · first | rfl | (rw [if_pos (by omega)]) | (rw [if_neg (by omega)])
  · unfold mSav
    first | rfl | (rw [if_pos (by omega)]) | (rw [if_neg (by omega)])
theorem S_X8_restore (hs : 0 ≤ M 0 2 ∧ M 0 2 ≤ 1) : ∃ r_ h', q_cl E q_m_X8_restore [Value.ref am] (q_mw h am M) = some (r_, h') ∧ (r_ = .inl (some (.int (zi (if M 0 2 = 0 then 0 else cpI (M 2) (M 1) 0 0 400 3)))) ∧ h' = q_mw h am (mRes M)) := by
  suffices K : ∀ Q : q_R → q_H → Prop, (∀ r_ h', (r_ = .inl (some (.int (zi (if M 0 2 = 0 then 0 else cpI (M 2) (M 1) 0 0 400 3)))) ∧ h' = q_mw h am (mRes M)) → Q r_ h') → Xv E q_m_X8_restore 0 [Value.ref am] [] (q_mw h am M) Q from K _ fun _ _ p => p
  intro Q hQ
  refine xv (x_aload_n 1 d_X8_restore_0 rfl rfl) ?_
  refine xv (x_aload_n 2 d_X8_restore_1 rfl rfl) ?_
  refine xv (x_getfield 5 d_X8_restore_2 rfl f_8_207 (Nat.le_of_ble_eq_true rfl) (Nat.le_of_ble_eq_true rfl) ((q_gf_of (m_o (h := h) (am := am) (M := M)) rfl : q_gf (q_mw h am M) am 8 2 = some (Value.int (zi (M 0 2)))))) ?_
  refine v_if_eq 12 8 d_X8_restore_5 rfl rfl (by omega) (by omega) (fun k5 => ?_) (fun k5 => ?_)
  · refine xv (x_iconst 13 d_X8_restore_12 rfl) ?_
    refine xv (x_putfield 16 d_X8_restore_13 rfl f_8_49 (Nat.le_of_ble_eq_true rfl) m_pf5 rfl rfl (fun e => absurd e (by decide))) ?_
    show Xv E q_m_X8_restore 16 [Value.ref am] [] (q_mw h am (uM M 0 5 1)) Q
    refine xv (x_aload_n 17 d_X8_restore_16 rfl rfl) ?_
    refine xv (x_getfield 20 d_X8_restore_17 rfl f_8_49 (Nat.le_of_ble_eq_true rfl) (Nat.le_of_ble_eq_true rfl) ((q_gf_of (m_o (h := h) (am := am) (M := (uM M 0 5 1))) rfl : q_gf (q_mw h am (uM M 0 5 1)) am 8 5 = some (Value.int (zi 1))))) ?_
    refine v_if_le 25 23 d_X8_restore_20 rfl rfl (by omega) (by omega) (fun k20 => ?_) (fun k20 => ?_)
    · omega
    · refine xv (x_iconst 24 d_X8_restore_23 rfl) ?_
      refine xv_r (x_ireturn d_X8_restore_24 rfl rfl) ?_
      refine hQ _ _ ⟨?_, ?_⟩
      · first | rfl | (rw [if_pos (by omega)]) | (rw [if_neg (by omega)])
      · unfold mRes
        first | rfl | (rw [if_pos (by omega)]) | (rw [if_neg (by omega)])
  · refine xv (x_iconst 9 d_X8_restore_8 rfl) ?_
    refine xv (x_goto 13 d_X8_restore_9 rfl) ?_
    refine xv (x_putfield 16 d_X8_restore_13 rfl f_8_49 (Nat.le_of_ble_eq_true rfl) m_pf5 rfl rfl (fun e => absurd e (by decide))) ?_
    show Xv E q_m_X8_restore 16 [Value.ref am] [] (q_mw h am (uM M 0 5 0)) Q
    refine xv (x_aload_n 17 d_X8_restore_16 rfl rfl) ?_
    refine xv (x_getfield 20 d_X8_restore_17 rfl f_8_49 (Nat.le_of_ble_eq_true rfl) (Nat.le_of_ble_eq_true rfl) ((q_gf_of (m_o (h := h) (am := am) (M := (uM M 0 5 0))) rfl : q_gf (q_mw h am (uM M 0 5 0)) am 8 5 = some (Value.int (zi 0))))) ?_
    refine v_if_le 25 23 d_X8_restore_20 rfl rfl (by omega) (by omega) (fun k20 => ?_) (fun k20 => ?_)
    · refine xv (x_aload_n 26 d_X8_restore_25 rfl rfl) ?_
      refine xv (x_getfield 29 d_X8_restore_26 rfl f_8_13 (Nat.le_of_ble_eq_true rfl) (Nat.le_of_ble_eq_true rfl) (q_gf_of m_o rfl)) ?_
      refine xv (x_iconst 30 d_X8_restore_29 rfl) ?_
      refine xv (x_aload_n 31 d_X8_restore_30 rfl rfl) ?_
      refine xv (x_getfield 34 d_X8_restore_31 rfl f_8_9 (Nat.le_of_ble_eq_true rfl) (Nat.le_of_ble_eq_true rfl) (q_gf_of m_o rfl)) ?_
      refine xv (x_iconst 35 d_X8_restore_34 rfl) ?_
      refine xv (x_sipush 38 d_X8_restore_35 rfl rfl) ?_
      refine xv (x_copy 41 d_X8_restore_38 rfl rfl rfl (Nat.le_of_ble_eq_true rfl) (Nat.le_of_ble_eq_true rfl) (Nat.le_of_ble_eq_true rfl) (m_cpy 2 1 m_a2 m_a1 m_w1 (by omega) (by omega) (by omega) (by omega) (by omega) (by decide) (by decide))) ?_
      show Xv E q_m_X8_restore 41 [Value.ref am] [] (q_mw h am (uA (uM M 0 5 0) 1 (cpI (M 2) (M 1) 0 0 400))) Q
      refine xv (x_aload_n 42 d_X8_restore_41 rfl rfl) ?_
      refine xv (x_iconst 43 d_X8_restore_42 rfl) ?_
      refine xv (x_putfield 46 d_X8_restore_43 rfl f_8_52 (Nat.le_of_ble_eq_true rfl) m_pf4 rfl rfl (fun e => absurd e (by decide))) ?_
      show Xv E q_m_X8_restore 46 [Value.ref am] [] (q_mw h am (uM (uA (uM M 0 5 0) 1 (cpI (M 2) (M 1) 0 0 400)) 0 4 0)) Q
      refine xv (x_aload_n 47 d_X8_restore_46 rfl rfl) ?_
      refine xv (x_getfield 50 d_X8_restore_47 rfl f_8_9 (Nat.le_of_ble_eq_true rfl) (Nat.le_of_ble_eq_true rfl) (q_gf_of m_o rfl)) ?_
      refine xv (x_iconst 51 d_X8_restore_50 rfl) ?_
      refine xv (x_iaload 52 d_X8_restore_51 rfl ((m_g1 (by omega) (by omega)).trans (rfl : _ = some (Value.int (zi ((cpI (M 2) (M 1) 0 0 400) 3)))))) ?_
      refine xv_r (x_ireturn d_X8_restore_52 rfl rfl) ?_
      refine hQ _ _ ⟨?_, ?_⟩
      · first | rfl | (rw [if_pos (by omega)]) | (rw [if_neg (by omega)])
      · unfold mRes
        first | rfl | (rw [if_pos (by omega)]) | (rw [if_neg (by omega)])
    · omega
theorem S_X8_undo (hs : 0 ≤ M 0 4 ∧ M 0 4 ≤ 8) : ∃ r_ h', q_cl E q_m_X8_undo [Value.ref am] (q_mw h am M) = some (r_, h') ∧ (r_ = .inl (some (.int (zi (if M 0 4 = 0 then 0 else M 0 4 - 1)))) ∧ h' = q_mw h am (mUnd M)) := by
  suffices K : ∀ Q : q_R → q_H → Prop, (∀ r_ h', (r_ = .inl (some (.int (zi (if M 0 4 = 0 then 0 else M 0 4 - 1)))) ∧ h' = q_mw h am (mUnd M)) → Q r_ h') → Xv E q_m_X8_undo 0 [Value.ref am] [] (q_mw h am M) Q from K _ fun _ _ p => p
  intro Q hQ
  refine xv (x_aload_n 1 d_X8_undo_0 rfl rfl) ?_
  refine xv (x_aload_n 2 d_X8_undo_1 rfl rfl) ?_
  refine xv (x_getfield 5 d_X8_undo_2 rfl f_8_52 (Nat.le_of_ble_eq_true rfl) (Nat.le_of_ble_eq_true rfl) ((q_gf_of (m_o (h := h) (am := am) (M := M)) rfl : q_gf (q_mw h am M) am 8 4 = some (Value.int (zi (M 0 4)))))) ?_
  refine v_if_ne 12 8 d_X8_undo_5 rfl rfl (by omega) (by omega) (fun k5 => ?_) (fun k5 => ?_)
  · refine xv (x_iconst 13 d_X8_undo_12 rfl) ?_
    refine xv (x_putfield 16 d_X8_undo_13 rfl f_8_49 (Nat.le_of_ble_eq_true rfl) m_pf5 rfl rfl (fun e => absurd e (by decide))) ?_
    show Xv E q_m_X8_undo 16 [Value.ref am] [] (q_mw h am (uM M 0 5 0)) Q
    refine xv (x_aload_n 17 d_X8_undo_16 rfl rfl) ?_
    refine xv (x_getfield 20 d_X8_undo_17 rfl f_8_49 (Nat.le_of_ble_eq_true rfl) (Nat.le_of_ble_eq_true rfl) ((q_gf_of (m_o (h := h) (am := am) (M := (uM M 0 5 0))) rfl : q_gf (q_mw h am (uM M 0 5 0)) am 8 5 = some (Value.int (zi 0))))) ?_
    refine v_if_le 25 23 d_X8_undo_20 rfl rfl (by omega) (by omega) (fun k20 => ?_) (fun k20 => ?_)
    · refine xv (x_aload_n 26 d_X8_undo_25 rfl rfl) ?_
      refine xv (x_dup 27 d_X8_undo_26 rfl rfl) ?_
      refine xv (x_getfield 30 d_X8_undo_27 rfl f_8_52 (Nat.le_of_ble_eq_true rfl) (Nat.le_of_ble_eq_true rfl) ((q_gf_of (m_o (h := h) (am := am) (M := (uM M 0 5 0))) rfl : q_gf (q_mw h am (uM M 0 5 0)) am 8 4 = some (Value.int (zi (M 0 4)))))) ?_
      refine xv (x_iconst 31 d_X8_undo_30 rfl) ?_
      refine xv (x_isub 32 d_X8_undo_31 rfl) ?_
      refine xv (x_putfield 35 d_X8_undo_32 rfl f_8_52 (Nat.le_of_ble_eq_true rfl) m_pf4 rfl rfl (fun e => absurd e (by decide))) ?_
      show Xv E q_m_X8_undo 35 [Value.ref am] [] (q_mw h am (uM (uM M 0 5 0) 0 4 ((M 0 4) - 1))) Q
      refine xv (x_aload_n 36 d_X8_undo_35 rfl rfl) ?_
      refine xv (x_getfield 39 d_X8_undo_36 rfl f_8_16 (Nat.le_of_ble_eq_true rfl) (Nat.le_of_ble_eq_true rfl) (q_gf_of m_o rfl)) ?_
      refine xv (x_sipush 42 d_X8_undo_39 rfl rfl) ?_
      refine xv (x_aload_n 43 d_X8_undo_42 rfl rfl) ?_
      refine xv (x_getfield 46 d_X8_undo_43 rfl f_8_52 (Nat.le_of_ble_eq_true rfl) (Nat.le_of_ble_eq_true rfl) ((q_gf_of (m_o (h := h) (am := am) (M := (uM (uM M 0 5 0) 0 4 ((M 0 4) - 1)))) rfl : q_gf (q_mw h am (uM (uM M 0 5 0) 0 4 ((M 0 4) - 1))) am 8 4 = some (Value.int (zi ((M 0 4) - 1)))))) ?_
      refine xv (x_imul 47 d_X8_undo_46 rfl) ?_
      refine xv (x_aload_n 48 d_X8_undo_47 rfl rfl) ?_
      refine xv (x_getfield 51 d_X8_undo_48 rfl f_8_9 (Nat.le_of_ble_eq_true rfl) (Nat.le_of_ble_eq_true rfl) (q_gf_of m_o rfl)) ?_
      refine xv (x_iconst 52 d_X8_undo_51 rfl) ?_
      refine xv (x_sipush 55 d_X8_undo_52 rfl rfl) ?_
      refine xv (x_copy 58 d_X8_undo_55 rfl rfl rfl (Nat.le_of_ble_eq_true rfl) (Nat.le_of_ble_eq_true rfl) (Nat.le_of_ble_eq_true rfl) (m_cpy 3 1 m_a3 m_a1 m_w1 (by omega) (by omega) (by omega) (by omega) (by omega) (by decide) (by decide))) ?_
      show Xv E q_m_X8_undo 58 [Value.ref am] [] (q_mw h am (uA (uM (uM M 0 5 0) 0 4 ((M 0 4) - 1)) 1 (cpI (M 3) (M 1) (400 * ((M 0 4) - 1)) 0 400))) Q
      refine xv (x_aload_n 59 d_X8_undo_58 rfl rfl) ?_
      refine xv (x_getfield 62 d_X8_undo_59 rfl f_8_52 (Nat.le_of_ble_eq_true rfl) (Nat.le_of_ble_eq_true rfl) ((q_gf_of (m_o (h := h) (am := am) (M := (uA (uM (uM M 0 5 0) 0 4 ((M 0 4) - 1)) 1 (cpI (M 3) (M 1) (400 * ((M 0 4) - 1)) 0 400)))) rfl : q_gf (q_mw h am (uA (uM (uM M 0 5 0) 0 4 ((M 0 4) - 1)) 1 (cpI (M 3) (M 1) (400 * ((M 0 4) - 1)) 0 400))) am 8 4 = some (Value.int (zi ((M 0 4) - 1)))))) ?_
      refine xv_r (x_ireturn d_X8_undo_62 rfl rfl) ?_
      refine hQ _ _ ⟨?_, ?_⟩
      · first | rfl | (rw [if_pos (by omega)]) | (rw [if_neg (by omega)])
      · unfold mUnd
        first | rfl | (rw [if_pos (by omega)]) | (rw [if_neg (by omega)])
    · omega
  · refine xv (x_iconst 9 d_X8_undo_8 rfl) ?_
    refine xv (x_goto 13 d_X8_undo_9 rfl) ?_
    refine xv (x_putfield 16 d_X8_undo_13 rfl f_8_49 (Nat.le_of_ble_eq_true rfl) m_pf5 rfl rfl (fun e => absurd e (by decide))) ?_
    show Xv E q_m_X8_undo 16 [Value.ref am] [] (q_mw h am (uM M 0 5 1)) Q
    refine xv (x_aload_n 17 d_X8_undo_16 rfl rfl) ?_
    refine xv (x_getfield 20 d_X8_undo_17 rfl f_8_49 (Nat.le_of_ble_eq_true rfl) (Nat.le_of_ble_eq_true rfl) ((q_gf_of (m_o (h := h) (am := am) (M := (uM M 0 5 1))) rfl : q_gf (q_mw h am (uM M 0 5 1)) am 8 5 = some (Value.int (zi 1))))) ?_
    refine v_if_le 25 23 d_X8_undo_20 rfl rfl (by omega) (by omega) (fun k20 => ?_) (fun k20 => ?_)
    · omega
    · refine xv (x_iconst 24 d_X8_undo_23 rfl) ?_
      refine xv_r (x_ireturn d_X8_undo_24 rfl rfl) ?_
      refine hQ _ _ ⟨?_, ?_⟩
      · first | rfl | (rw [if_pos (by omega)]) | (rw [if_neg (by omega)])
      · unfold mUnd
        first | rfl | (rw [if_pos (by omega)]) | (rw [if_neg (by omega)])
theorem S_X8_append (hs : 0 ≤ M 0 16 ∧ M 0 16 ≤ 60) {y : Int} (hy : 0 ≤ y ∧ y < 65536) : ∃ r_ h', q_cl E q_m_X8_append [Value.ref am, Value.int (zi y)] (q_mw h am M) = some (r_, h') ∧ (r_ = .inl (some (.int (zi (if M 0 16 = 60 then 0 else M 0 16 + 1)))) ∧ h' = q_mw h am (mApp M y)) := by
  suffices K : ∀ Q : q_R → q_H → Prop, (∀ r_ h', (r_ = .inl (some (.int (zi (if M 0 16 = 60 then 0 else M 0 16 + 1)))) ∧ h' = q_mw h am (mApp M y)) → Q r_ h') → Xv E q_m_X8_append 0 [Value.ref am, Value.int (zi y)] [] (q_mw h am M) Q from K _ fun _ _ p => p
  intro Q hQ
  refine xv (x_aload_n 1 d_X8_append_0 rfl rfl) ?_
  refine xv (x_aload_n 2 d_X8_append_1 rfl rfl) ?_
  refine xv (x_getfield 5 d_X8_append_2 rfl f_8_192 (Nat.le_of_ble_eq_true rfl) (Nat.le_of_ble_eq_true rfl) ((q_gf_of (m_o (h := h) (am := am) (M := M)) rfl : q_gf (q_mw h am M) am 8 16 = some (Value.int (zi (M 0 16)))))) ?_
  refine xv (x_bipush 7 d_X8_append_5 rfl rfl) ?_
  refine v_icmp_ne 14 10 d_X8_append_7 rfl rfl (by omega) (by omega) (by omega) (by omega) (fun k7 => ?_) (fun k7 => ?_)
  · refine xv (x_iconst 15 d_X8_append_14 rfl) ?_
    refine xv (x_putfield 18 d_X8_append_15 rfl f_8_49 (Nat.le_of_ble_eq_true rfl) m_pf5 rfl rfl (fun e => absurd e (by decide))) ?_
    show Xv E q_m_X8_append 18 [Value.ref am, Value.int (zi y)] [] (q_mw h am (uM M 0 5 0)) Q
    refine xv (x_aload_n 19 d_X8_append_18 rfl rfl) ?_
    refine xv (x_getfield 22 d_X8_append_19 rfl f_8_49 (Nat.le_of_ble_eq_true rfl) (Nat.le_of_ble_eq_true rfl) ((q_gf_of (m_o (h := h) (am := am) (M := (uM M 0 5 0))) rfl : q_gf (q_mw h am (uM M 0 5 0)) am 8 5 = some (Value.int (zi 0))))) ?_
    refine v_if_le 27 25 d_X8_append_22 rfl rfl (by omega) (by omega) (fun k22 => ?_) (fun k22 => ?_)
    · refine xv (x_aload_n 28 d_X8_append_27 rfl rfl) ?_
      refine xv (x_getfield 31 d_X8_append_28 rfl f_8_41 (Nat.le_of_ble_eq_true rfl) (Nat.le_of_ble_eq_true rfl) (q_gf_of m_o rfl)) ?_
      refine xv (x_aload_n 32 d_X8_append_31 rfl rfl) ?_
      refine xv (x_getfield 35 d_X8_append_32 rfl f_8_192 (Nat.le_of_ble_eq_true rfl) (Nat.le_of_ble_eq_true rfl) ((q_gf_of (m_o (h := h) (am := am) (M := (uM M 0 5 0))) rfl : q_gf (q_mw h am (uM M 0 5 0)) am 8 16 = some (Value.int (zi (M 0 16)))))) ?_
      refine xv (x_iload_n 36 d_X8_append_35 rfl rfl) ?_
      refine xv (x_castore 37 d_X8_append_36 rfl ((congrArg (q_sI _ 3 _ _) (vc_n (by omega) (by omega))).trans (m_s11 (by omega) (by omega)))) ?_
      show Xv E q_m_X8_append 37 [Value.ref am, Value.int (zi y)] [] (q_mw h am (uM (uM M 0 5 0) 11 (M 0 16) y)) Q
      refine xv (x_aload_n 38 d_X8_append_37 rfl rfl) ?_
      refine xv (x_dup 39 d_X8_append_38 rfl rfl) ?_
      refine xv (x_getfield 42 d_X8_append_39 rfl f_8_192 (Nat.le_of_ble_eq_true rfl) (Nat.le_of_ble_eq_true rfl) ((q_gf_of (m_o (h := h) (am := am) (M := (uM (uM M 0 5 0) 11 (M 0 16) y))) rfl : q_gf (q_mw h am (uM (uM M 0 5 0) 11 (M 0 16) y)) am 8 16 = some (Value.int (zi (M 0 16)))))) ?_
      refine xv (x_iconst 43 d_X8_append_42 rfl) ?_
      refine xv (x_iadd 44 d_X8_append_43 rfl) ?_
      refine xv (x_putfield 47 d_X8_append_44 rfl f_8_192 (Nat.le_of_ble_eq_true rfl) m_pf16 rfl rfl (fun e => absurd e (by decide))) ?_
      show Xv E q_m_X8_append 47 [Value.ref am, Value.int (zi y)] [] (q_mw h am (uM (uM (uM M 0 5 0) 11 (M 0 16) y) 0 16 ((M 0 16) + 1))) Q
      refine xv (x_aload_n 48 d_X8_append_47 rfl rfl) ?_
      refine xv (x_getfield 51 d_X8_append_48 rfl f_8_192 (Nat.le_of_ble_eq_true rfl) (Nat.le_of_ble_eq_true rfl) ((q_gf_of (m_o (h := h) (am := am) (M := (uM (uM (uM M 0 5 0) 11 (M 0 16) y) 0 16 ((M 0 16) + 1)))) rfl : q_gf (q_mw h am (uM (uM (uM M 0 5 0) 11 (M 0 16) y) 0 16 ((M 0 16) + 1))) am 8 16 = some (Value.int (zi ((M 0 16) + 1)))))) ?_
      refine xv_r (x_ireturn d_X8_append_51 rfl rfl) ?_
      refine hQ _ _ ⟨?_, ?_⟩
      · first | rfl | (rw [if_pos (by omega)]) | (rw [if_neg (by omega)])
      · unfold mApp
        first | rfl | (rw [if_pos (by omega)]) | (rw [if_neg (by omega)])
    · omega
  · refine xv (x_iconst 11 d_X8_append_10 rfl) ?_
    refine xv (x_goto 15 d_X8_append_11 rfl) ?_
    refine xv (x_putfield 18 d_X8_append_15 rfl f_8_49 (Nat.le_of_ble_eq_true rfl) m_pf5 rfl rfl (fun e => absurd e (by decide))) ?_
    show Xv E q_m_X8_append 18 [Value.ref am, Value.int (zi y)] [] (q_mw h am (uM M 0 5 1)) Q
    refine xv (x_aload_n 19 d_X8_append_18 rfl rfl) ?_
    refine xv (x_getfield 22 d_X8_append_19 rfl f_8_49 (Nat.le_of_ble_eq_true rfl) (Nat.le_of_ble_eq_true rfl) ((q_gf_of (m_o (h := h) (am := am) (M := (uM M 0 5 1))) rfl : q_gf (q_mw h am (uM M 0 5 1)) am 8 5 = some (Value.int (zi 1))))) ?_
    refine v_if_le 27 25 d_X8_append_22 rfl rfl (by omega) (by omega) (fun k22 => ?_) (fun k22 => ?_)
    · omega
    · refine xv (x_iconst 26 d_X8_append_25 rfl) ?_
      refine xv_r (x_ireturn d_X8_append_26 rfl rfl) ?_
      refine hQ _ _ ⟨?_, ?_⟩
      · first | rfl | (rw [if_pos (by omega)]) | (rw [if_neg (by omega)])
      · unfold mApp
        first | rfl | (rw [if_pos (by omega)]) | (rw [if_neg (by omega)])
theorem S_X8_faultPosition  : ∃ r_ h', q_cl E q_m_X8_faultPosition [Value.ref am] (q_mw h am M) = some (r_, h') ∧ (r_ = .inl (some (.int (zi (M 0 17)))) ∧ h' = q_mw h am (uM M 0 5 0)) := by
  suffices K : ∀ Q : q_R → q_H → Prop, (∀ r_ h', (r_ = .inl (some (.int (zi (M 0 17)))) ∧ h' = q_mw h am (uM M 0 5 0)) → Q r_ h') → Xv E q_m_X8_faultPosition 0 [Value.ref am] [] (q_mw h am M) Q from K _ fun _ _ p => p
  intro Q hQ
  refine xv (x_aload_n 1 d_X8_faultPosition_0 rfl rfl) ?_
  refine xv (x_iconst 2 d_X8_faultPosition_1 rfl) ?_
  refine xv (x_putfield 5 d_X8_faultPosition_2 rfl f_8_49 (Nat.le_of_ble_eq_true rfl) m_pf5 rfl rfl (fun e => absurd e (by decide))) ?_
  show Xv E q_m_X8_faultPosition 5 [Value.ref am] [] (q_mw h am (uM M 0 5 0)) Q
  refine xv (x_aload_n 6 d_X8_faultPosition_5 rfl rfl) ?_
  refine xv (x_getfield 9 d_X8_faultPosition_6 rfl f_8_45 (Nat.le_of_ble_eq_true rfl) (Nat.le_of_ble_eq_true rfl) ((q_gf_of (m_o (h := h) (am := am) (M := (uM M 0 5 0))) rfl : q_gf (q_mw h am (uM M 0 5 0)) am 8 17 = some (Value.int (zi (M 0 17)))))) ?_
  refine xv_r (x_ireturn d_X8_faultPosition_9 rfl rfl) ?_
  exact hQ _ _ ⟨rfl, rfl⟩
noncomputable def celM (l : Int → Int) (c w : Int) : Int × Int := if ¬ isC l c then (1, 0) else if ¬ inn w 0 3 then (2, 0) else if w = 0 then (0, l (8 + c)) else if w = 1 then (0, bI (ent l c)) else if w = 2 then (0, rin l c 0) else (0, nbC l c)
noncomputable def accM (M : q_Im) (w : Int) : Int × Int := if ¬ inn w 0 16 then (1, 0) else if w = 0 then (0, M 1 0) else if w = 1 then (0, M 1 1) else if w = 2 then (0, M 1 3) else if w = 3 then (0, M 1 4) else if w = 4 ∨ w = 5 ∨ w = 6 then (0, ovO (M 1) (w - 4)) else if w = 7 then (0, ccl (M 1)) else if w = 8 then (0, M 1 2) else if w = 9 then (0, ovR (M 1) 5) else if w = 10 then (0, ovO (M 1) (-1)) else if w = 11 then (0, ovR (M 1) 1) else if w = 12 then (0, M 0 4) else if w = 13 then (0, M 0 16) else (0, M 1 (5 + w - 14))
theorem S_X8_cell (hR : Rg (M 1)) {y z : Int} (y0 : -2147483648 ≤ y) (y1 : y < 2147483648) (z0 : -2147483648 ≤ z) (z1 : z < 2147483648) : ∃ r_ h', q_cl E q_m_X8_cell [Value.ref am, Value.int (zi y), Value.int (zi z)] (q_mw h am M) = some (r_, h') ∧ (r_ = .inl (some (.int (zi (celM (M 1) y z).2))) ∧ h' = q_mw h am (uM M 0 5 (celM (M 1) y z).1)) := by
  suffices K : ∀ Q : q_R → q_H → Prop, (∀ r_ h', (r_ = .inl (some (.int (zi (celM (M 1) y z).2))) ∧ h' = q_mw h am (uM M 0 5 (celM (M 1) y z).1)) → Q r_ h') → Xv E q_m_X8_cell 0 [Value.ref am, Value.int (zi y), Value.int (zi z), Value.null, Value.null, Value.null] [] (q_mw h am M) Q from K _ fun _ _ p => p
  intro Q hQ
  have hR0 := hR
  obtain ⟨hr, g0, g1, g3, g4, gc, g5, g6, g7, gk, gl, gr, go⟩ := hR0
  refine xv (x_aload_n 1 d_X8_cell_0 rfl rfl) ?_
  refine xv (x_aload_n 2 d_X8_cell_1 rfl rfl) ?_
  refine xv (x_iload_n 3 d_X8_cell_2 rfl rfl) ?_
  refine xv (x_inv1 6 (as := [Value.int (zi y)]) d_X8_cell_3 rfl c_8_86 rfl (Nat.le_of_ble_eq_true rfl) (Nat.le_of_ble_eq_true rfl) m_o (Nat.le_of_ble_eq_true rfl) (Nat.le_of_ble_eq_true rfl) rfl (S_X8_isCell (E := E) (h := h) (am := am) (M := M) hR (by omega) (by omega))) ?_
  show Xv E q_m_X8_cell 6 [Value.ref am, Value.int (zi y), Value.int (zi z), Value.null, Value.null, Value.null] [Value.int (zi (bI (isC (M 1) y))), Value.ref am] (q_mw h am M) Q
  refine v_if_ne 13 9 d_X8_cell_6 rfl rfl (by have := bI_r (isC (M 1) y); omega) (by have := bI_r (isC (M 1) y); omega) (fun k6 => ?_) (fun k6 => ?_)
  · replace k6 := bI_n0.mp k6
    refine xv (x_iload_n 14 d_X8_cell_13 rfl rfl) ?_
    refine xv (x_iconst 15 d_X8_cell_14 rfl) ?_
    refine xv (x_iconst 16 d_X8_cell_15 rfl) ?_
    refine xv (x_ins1 19 (as := [Value.int (zi z), Value.int (zi 0), Value.int (zi 3)]) d_X8_cell_16 rfl c_8_71 rfl (Nat.le_of_ble_eq_true rfl) (Nat.le_of_ble_eq_true rfl) (Nat.le_of_ble_eq_true rfl) rfl (S_X8_in (E := E) (h := h) (am := am) (M := M) (by omega) (by omega) (by omega) (by omega) (by omega) (by omega))) ?_
    show Xv E q_m_X8_cell 19 [Value.ref am, Value.int (zi y), Value.int (zi z), Value.null, Value.null, Value.null] [Value.int (zi (bI (inn z 0 3))), Value.ref am] (q_mw h am M) Q
    refine v_if_ne 26 22 d_X8_cell_19 rfl rfl (by have := bI_r (inn z 0 3); omega) (by have := bI_r (inn z 0 3); omega) (fun k19 => ?_) (fun k19 => ?_)
    · replace k19 := bI_n0.mp k19
      refine xv (x_iconst 27 d_X8_cell_26 rfl) ?_
      refine xv (x_putfield 30 d_X8_cell_27 rfl f_8_49 (Nat.le_of_ble_eq_true rfl) m_pf5 rfl rfl (fun e => absurd e (by decide))) ?_
      show Xv E q_m_X8_cell 30 [Value.ref am, Value.int (zi y), Value.int (zi z), Value.null, Value.null, Value.null] [] (q_mw h am (uM M 0 5 0)) Q
      refine xv (x_aload_n 31 d_X8_cell_30 rfl rfl) ?_
      refine xv (x_getfield 34 d_X8_cell_31 rfl f_8_49 (Nat.le_of_ble_eq_true rfl) (Nat.le_of_ble_eq_true rfl) ((q_gf_of (m_o (h := h) (am := am) (M := (uM M 0 5 0))) rfl : q_gf (q_mw h am (uM M 0 5 0)) am 8 5 = some (Value.int (zi 0))))) ?_
      refine v_if_le 39 37 d_X8_cell_34 rfl rfl (by omega) (by omega) (fun k34 => ?_) (fun k34 => ?_)
      · refine xv (x_iload_n 40 d_X8_cell_39 rfl rfl) ?_
        by_cases k40_0 : z = 0
        · refine xv (x_tsw_in 68 0 d_X8_cell_40 k40_0 (by decide) (by decide) (by decide) rfl rfl) ?_
          refine xv (x_aload_n 69 d_X8_cell_68 rfl rfl) ?_
          refine xv (x_getfield 72 d_X8_cell_69 rfl f_8_9 (Nat.le_of_ble_eq_true rfl) (Nat.le_of_ble_eq_true rfl) (q_gf_of m_o rfl)) ?_
          refine xv (x_bipush 74 d_X8_cell_72 rfl rfl) ?_
          refine xv (x_iload_n 75 d_X8_cell_74 rfl rfl) ?_
          refine xv (x_iadd 76 d_X8_cell_75 rfl) ?_
          refine xv (x_iaload 77 d_X8_cell_76 rfl ((m_g1 (by omega) (by omega)).trans (rfl : _ = some (Value.int (zi ((M 1) (8 + y))))))) ?_
          have q_1 : -1000000 ≤ (M 1) (8 + y) ∧ (M 1) (8 + y) ≤ 1000000 := hr _
          refine xv_r (x_ireturn d_X8_cell_77 rfl rfl) ?_
          have er : celM (M 1) y z = (0, (M 1) (8 + y)) := by unfold celM; repeat (first | rw [if_pos (by omega)] | rw [if_neg (by omega)])
          refine hQ _ _ ?_
          rw [er]
          exact ⟨rfl, rfl⟩
        by_cases k40_1 : z = 1
        · refine xv (x_tsw_in 78 1 d_X8_cell_40 k40_1 (by decide) (by decide) (by decide) rfl rfl) ?_
          refine xv (x_aload_n 79 d_X8_cell_78 rfl rfl) ?_
          refine xv (x_iload_n 80 d_X8_cell_79 rfl rfl) ?_
          refine xv (x_inv1 83 (as := [Value.int (zi y)]) d_X8_cell_80 rfl c_8_93 rfl (Nat.le_of_ble_eq_true rfl) (Nat.le_of_ble_eq_true rfl) m_o (Nat.le_of_ble_eq_true rfl) (Nat.le_of_ble_eq_true rfl) rfl (S_X8_canEnter (E := E) (h := h) (am := am) (M := (uM M 0 5 0)) hR (by first | omega | (rw [show (uM M 0 5 0) 1 = (M 1) from rfl]; omega)) (by first | omega | (rw [show (uM M 0 5 0) 1 = (M 1) from rfl]; omega)))) ?_
          show Xv E q_m_X8_cell 83 [Value.ref am, Value.int (zi y), Value.int (zi z), Value.null, Value.null, Value.null] [Value.int (zi (bI (ent (M 1) y)))] (q_mw h am (uM M 0 5 0)) Q
          refine v_if_eq 90 86 d_X8_cell_83 rfl rfl (by have := bI_r (ent (M 1) y); omega) (by have := bI_r (ent (M 1) y); omega) (fun k83 => ?_) (fun k83 => ?_)
          · replace k83 := bI_0.mp k83
            refine xv (x_iconst 91 d_X8_cell_90 rfl) ?_
            refine xv_r (x_ireturn d_X8_cell_91 rfl rfl) ?_
            have er : celM (M 1) y z = (0, bI (ent (M 1) y)) := by unfold celM; repeat (first | rw [if_pos (by omega)] | rw [if_neg (by omega)])
            refine hQ _ _ ?_
            rw [er]
            exact ⟨by first | rw [bI_t k83] | rw [bI_f k83], rfl⟩
          · replace k83 := bI_n0.mp k83
            refine xv (x_iconst 87 d_X8_cell_86 rfl) ?_
            refine xv (x_goto 91 d_X8_cell_87 rfl) ?_
            refine xv_r (x_ireturn d_X8_cell_91 rfl rfl) ?_
            have er : celM (M 1) y z = (0, bI (ent (M 1) y)) := by unfold celM; repeat (first | rw [if_pos (by omega)] | rw [if_neg (by omega)])
            refine hQ _ _ ?_
            rw [er]
            exact ⟨by first | rw [bI_t k83] | rw [bI_f k83], rfl⟩
        by_cases k40_2 : z = 2
        · refine xv (x_tsw_in 92 2 d_X8_cell_40 k40_2 (by decide) (by decide) (by decide) rfl rfl) ?_
          refine xv (x_aload_n 93 d_X8_cell_92 rfl rfl) ?_
          refine xv (x_iload_n 94 d_X8_cell_93 rfl rfl) ?_
          refine xv (x_iconst 95 d_X8_cell_94 rfl) ?_
          refine xv (x_inv1 98 (as := [Value.int (zi y), Value.int (zi 0)]) d_X8_cell_95 rfl c_8_168 rfl (Nat.le_of_ble_eq_true rfl) (Nat.le_of_ble_eq_true rfl) m_o (Nat.le_of_ble_eq_true rfl) (Nat.le_of_ble_eq_true rfl) rfl (S_X8_robotIn (E := E) (h := h) (am := am) (M := (uM M 0 5 0)) hR (by first | omega | (rw [show (uM M 0 5 0) 1 = (M 1) from rfl]; omega)) (by first | omega | (rw [show (uM M 0 5 0) 1 = (M 1) from rfl]; omega)) (by first | omega | (rw [show (uM M 0 5 0) 1 = (M 1) from rfl]; omega)) (by first | omega | (rw [show (uM M 0 5 0) 1 = (M 1) from rfl]; omega)))) ?_
          have q_3 : rin (M 1) y 0 = -1 ∨ (0 ≤ rin (M 1) y 0 ∧ rin (M 1) y 0 < 0 + (((M 1) 3).toNat : Nat)) :=  @fnd_r (fun r => ahd (M 1) r 0 = y) ((M 1) 3).toNat 0
          show Xv E q_m_X8_cell 98 [Value.ref am, Value.int (zi y), Value.int (zi z), Value.null, Value.null, Value.null] [Value.int (zi (rin (M 1) y 0))] (q_mw h am (uM M 0 5 0)) Q
          refine xv_r (x_ireturn d_X8_cell_98 rfl rfl) ?_
          have er : celM (M 1) y z = (0, rin (M 1) y 0) := by unfold celM; repeat (first | rw [if_pos (by omega)] | rw [if_neg (by omega)])
          refine hQ _ _ ?_
          rw [er]
          exact ⟨rfl, rfl⟩
        refine xv (x_tsw_out 99 d_X8_cell_40 (by omega) (by omega) (by omega) rfl) ?_
        refine xv (x_iconst 100 d_X8_cell_99 rfl) ?_
        refine xv (x_istore_n 101 d_X8_cell_100 rfl (Nat.le_of_ble_eq_true rfl)) ?_
        show Xv E q_m_X8_cell 101 [Value.ref am, Value.int (zi y), Value.int (zi z), Value.int (zi 0), Value.null, Value.null] [] (q_mw h am (uM M 0 5 0)) Q
        refine xv (x_iconst 102 d_X8_cell_101 rfl) ?_
        refine xv (x_istore 104 d_X8_cell_102 rfl (Nat.le_of_ble_eq_true rfl)) ?_
        show Xv E q_m_X8_cell 104 [Value.ref am, Value.int (zi y), Value.int (zi z), Value.int (zi 0), Value.int (zi 0), Value.null] [] (q_mw h am (uM M 0 5 0)) Q
        have L104 : ∀ (n_ : Nat) (a : Int) (k : Int) (x5 : Value), (0 ≤ k) → (k ≤ 4) → (0 ≤ a ∧ a ≤ k) → (nbC (M 1) y = lpI (fun w a => a + bI (nbE (M 1) y w)) (4 - k).toNat k a) → (4 - k).toNat = n_ → Xv E q_m_X8_cell 104 [Value.ref am, Value.int (zi y), Value.int (zi z), Value.int (zi a), Value.int (zi k), x5] [] (q_mw h am (uM M 0 5 0)) Q := by
          intro n_
          induction n_ using Nat.strongRecOn with
          | _ n_ ih104 =>
            intro a k x5 k0 k1 a0 hv em
            refine xv (x_iload 106 d_X8_cell_104 rfl rfl) ?_
            refine xv (x_iconst 107 d_X8_cell_106 rfl) ?_
            refine v_icmp_ge 147 110 d_X8_cell_107 rfl rfl (by omega) (by omega) (by omega) (by omega) (fun k107 => ?_) (fun k107 => ?_)
            · refine xv (x_iload_n 148 d_X8_cell_147 rfl rfl) ?_
              refine xv_r (x_ireturn d_X8_cell_148 rfl rfl) ?_
              have er : celM (M 1) y z = (0, nbC (M 1) y) := by unfold celM; repeat (first | rw [if_pos (by omega)] | rw [if_neg (by omega)])
              refine hQ _ _ ?_
              rw [er]
              exact ⟨by rw [hv, lpI_e (by omega)], rfl⟩
            · refine xv (x_aload_n 111 d_X8_cell_110 rfl rfl) ?_
              refine xv (x_iload_n 112 d_X8_cell_111 rfl rfl) ?_
              refine xv (x_iload 114 d_X8_cell_112 rfl rfl) ?_
              refine xv (x_inv1 117 (as := [Value.int (zi y), Value.int (zi k)]) d_X8_cell_114 rfl c_8_124 rfl (Nat.le_of_ble_eq_true rfl) (Nat.le_of_ble_eq_true rfl) m_o (Nat.le_of_ble_eq_true rfl) (Nat.le_of_ble_eq_true rfl) rfl (S_X8_beside (E := E) (h := h) (am := am) (M := (uM M 0 5 0)) hR (by first | omega | (rw [show (uM M 0 5 0) 1 = (M 1) from rfl]; omega)) (by first | omega | (rw [show (uM M 0 5 0) 1 = (M 1) from rfl]; omega)) (by first | omega | (rw [show (uM M 0 5 0) 1 = (M 1) from rfl]; omega)))) ?_
              have q_4 := bes_r hR (c := y) (w := k) (by omega)
              show Xv E q_m_X8_cell 117 [Value.ref am, Value.int (zi y), Value.int (zi z), Value.int (zi a), Value.int (zi k), x5] [Value.int (zi (bes (M 1) y k))] (q_mw h am (uM M 0 5 0)) Q
              refine xv (x_istore 119 d_X8_cell_117 rfl (Nat.le_of_ble_eq_true rfl)) ?_
              show Xv E q_m_X8_cell 119 [Value.ref am, Value.int (zi y), Value.int (zi z), Value.int (zi a), Value.int (zi k), Value.int (zi (bes (M 1) y k))] [] (q_mw h am (uM M 0 5 0)) Q
              refine xv (x_iload_n 120 d_X8_cell_119 rfl rfl) ?_
              refine xv (x_iload 122 d_X8_cell_120 rfl rfl) ?_
              refine v_if_lt 138 125 d_X8_cell_122 rfl rfl (by omega) (by omega) (fun k122 => ?_) (fun k122 => ?_)
              · refine xv (x_iconst 139 d_X8_cell_138 rfl) ?_
                refine xv (x_iadd 140 d_X8_cell_139 rfl) ?_
                refine xv (x_istore_n 141 d_X8_cell_140 rfl (Nat.le_of_ble_eq_true rfl)) ?_
                show Xv E q_m_X8_cell 141 [Value.ref am, Value.int (zi y), Value.int (zi z), Value.int (zi (a + 0)), Value.int (zi k), Value.int (zi (bes (M 1) y k))] [] (q_mw h am (uM M 0 5 0)) Q
                refine xv (x_iinc 144 d_X8_cell_141 rfl rfl) ?_
                show Xv E q_m_X8_cell 144 [Value.ref am, Value.int (zi y), Value.int (zi z), Value.int (zi (a + 0)), Value.int (zi (k + 1)), Value.int (zi (bes (M 1) y k))] [] (q_mw h am (uM M 0 5 0)) Q
                refine xv (x_goto 104 d_X8_cell_144 rfl) ?_
                refine ih104 _ (by omega) _ (k + 1) _ (by omega) (by omega) (by omega) (hv.trans ((lpI_b (by omega)).trans (congrArg (lpI _ _ _) ?_))) rfl
                show a + bI (nbE (M 1) y k) = _
                rw [bI_f (fun z_ => by first | exact k131 z_.2 | exact absurd z_.1 (by omega))]
              · refine xv (x_aload_n 126 d_X8_cell_125 rfl rfl) ?_
                refine xv (x_iload 128 d_X8_cell_126 rfl rfl) ?_
                refine xv (x_inv1 131 (as := [Value.int (zi (bes (M 1) y k))]) d_X8_cell_128 rfl c_8_93 rfl (Nat.le_of_ble_eq_true rfl) (Nat.le_of_ble_eq_true rfl) m_o (Nat.le_of_ble_eq_true rfl) (Nat.le_of_ble_eq_true rfl) rfl (S_X8_canEnter (E := E) (h := h) (am := am) (M := (uM M 0 5 0)) hR (by first | omega | (rw [show (uM M 0 5 0) 1 = (M 1) from rfl]; omega)) (by first | omega | (rw [show (uM M 0 5 0) 1 = (M 1) from rfl]; omega)))) ?_
                show Xv E q_m_X8_cell 131 [Value.ref am, Value.int (zi y), Value.int (zi z), Value.int (zi a), Value.int (zi k), Value.int (zi (bes (M 1) y k))] [Value.int (zi (bI (ent (M 1) (bes (M 1) y k)))), Value.int (zi a)] (q_mw h am (uM M 0 5 0)) Q
                refine v_if_eq 138 134 d_X8_cell_131 rfl rfl (by have := bI_r (ent (M 1) (bes (M 1) y k)); omega) (by have := bI_r (ent (M 1) (bes (M 1) y k)); omega) (fun k131 => ?_) (fun k131 => ?_)
                · replace k131 := bI_0.mp k131
                  refine xv (x_iconst 139 d_X8_cell_138 rfl) ?_
                  refine xv (x_iadd 140 d_X8_cell_139 rfl) ?_
                  refine xv (x_istore_n 141 d_X8_cell_140 rfl (Nat.le_of_ble_eq_true rfl)) ?_
                  show Xv E q_m_X8_cell 141 [Value.ref am, Value.int (zi y), Value.int (zi z), Value.int (zi (a + 0)), Value.int (zi k), Value.int (zi (bes (M 1) y k))] [] (q_mw h am (uM M 0 5 0)) Q
                  refine xv (x_iinc 144 d_X8_cell_141 rfl rfl) ?_
                  show Xv E q_m_X8_cell 144 [Value.ref am, Value.int (zi y), Value.int (zi z), Value.int (zi (a + 0)), Value.int (zi (k + 1)), Value.int (zi (bes (M 1) y k))] [] (q_mw h am (uM M 0 5 0)) Q
                  refine xv (x_goto 104 d_X8_cell_144 rfl) ?_
                  refine ih104 _ (by omega) _ (k + 1) _ (by omega) (by omega) (by omega) (hv.trans ((lpI_b (by omega)).trans (congrArg (lpI _ _ _) ?_))) rfl
                  show a + bI (nbE (M 1) y k) = _
                  rw [bI_f (fun z_ => by first | exact k131 z_.2 | exact absurd z_.1 (by omega))]
                · replace k131 := bI_n0.mp k131
                  refine xv (x_iconst 135 d_X8_cell_134 rfl) ?_
                  refine xv (x_goto 139 d_X8_cell_135 rfl) ?_
                  refine xv (x_iadd 140 d_X8_cell_139 rfl) ?_
                  refine xv (x_istore_n 141 d_X8_cell_140 rfl (Nat.le_of_ble_eq_true rfl)) ?_
                  show Xv E q_m_X8_cell 141 [Value.ref am, Value.int (zi y), Value.int (zi z), Value.int (zi (a + 1)), Value.int (zi k), Value.int (zi (bes (M 1) y k))] [] (q_mw h am (uM M 0 5 0)) Q
                  refine xv (x_iinc 144 d_X8_cell_141 rfl rfl) ?_
                  show Xv E q_m_X8_cell 144 [Value.ref am, Value.int (zi y), Value.int (zi z), Value.int (zi (a + 1)), Value.int (zi (k + 1)), Value.int (zi (bes (M 1) y k))] [] (q_mw h am (uM M 0 5 0)) Q
                  refine xv (x_goto 104 d_X8_cell_144 rfl) ?_
                  refine ih104 _ (by omega) _ (k + 1) _ (by omega) (by omega) (by omega) (hv.trans ((lpI_b (by omega)).trans (congrArg (lpI _ _ _) ?_))) rfl
                  show a + bI (nbE (M 1) y k) = _
                  rw [bI_t ⟨by omega, k131⟩]
        exact L104 _ 0 0 _ (by omega) (by omega) (by omega) rfl rfl
      · omega
    · replace k19 := bI_0.mp k19
      refine xv (x_iconst 23 d_X8_cell_22 rfl) ?_
      refine xv (x_goto 27 d_X8_cell_23 rfl) ?_
      refine xv (x_putfield 30 d_X8_cell_27 rfl f_8_49 (Nat.le_of_ble_eq_true rfl) m_pf5 rfl rfl (fun e => absurd e (by decide))) ?_
      show Xv E q_m_X8_cell 30 [Value.ref am, Value.int (zi y), Value.int (zi z), Value.null, Value.null, Value.null] [] (q_mw h am (uM M 0 5 2)) Q
      refine xv (x_aload_n 31 d_X8_cell_30 rfl rfl) ?_
      refine xv (x_getfield 34 d_X8_cell_31 rfl f_8_49 (Nat.le_of_ble_eq_true rfl) (Nat.le_of_ble_eq_true rfl) ((q_gf_of (m_o (h := h) (am := am) (M := (uM M 0 5 2))) rfl : q_gf (q_mw h am (uM M 0 5 2)) am 8 5 = some (Value.int (zi 2))))) ?_
      refine v_if_le 39 37 d_X8_cell_34 rfl rfl (by omega) (by omega) (fun k34 => ?_) (fun k34 => ?_)
      · omega
      · refine xv (x_iconst 38 d_X8_cell_37 rfl) ?_
        refine xv_r (x_ireturn d_X8_cell_38 rfl rfl) ?_
        have er : celM (M 1) y z = (2, 0) := by unfold celM; repeat (first | rw [if_pos (by omega)] | rw [if_neg (by omega)])
        refine hQ _ _ ?_
        rw [er]
        exact ⟨rfl, rfl⟩
  · replace k6 := bI_0.mp k6
    refine xv (x_iconst 10 d_X8_cell_9 rfl) ?_
    refine xv (x_goto 27 d_X8_cell_10 rfl) ?_
    refine xv (x_putfield 30 d_X8_cell_27 rfl f_8_49 (Nat.le_of_ble_eq_true rfl) m_pf5 rfl rfl (fun e => absurd e (by decide))) ?_
    show Xv E q_m_X8_cell 30 [Value.ref am, Value.int (zi y), Value.int (zi z), Value.null, Value.null, Value.null] [] (q_mw h am (uM M 0 5 1)) Q
    refine xv (x_aload_n 31 d_X8_cell_30 rfl rfl) ?_
    refine xv (x_getfield 34 d_X8_cell_31 rfl f_8_49 (Nat.le_of_ble_eq_true rfl) (Nat.le_of_ble_eq_true rfl) ((q_gf_of (m_o (h := h) (am := am) (M := (uM M 0 5 1))) rfl : q_gf (q_mw h am (uM M 0 5 1)) am 8 5 = some (Value.int (zi 1))))) ?_
    refine v_if_le 39 37 d_X8_cell_34 rfl rfl (by omega) (by omega) (fun k34 => ?_) (fun k34 => ?_)
    · omega
    · refine xv (x_iconst 38 d_X8_cell_37 rfl) ?_
      refine xv_r (x_ireturn d_X8_cell_38 rfl rfl) ?_
      have er : celM (M 1) y z = (1, 0) := by unfold celM; repeat (first | rw [if_pos (by omega)] | rw [if_neg (by omega)])
      refine hQ _ _ ?_
      rw [er]
      exact ⟨rfl, rfl⟩
theorem S_X8_account (hR : Rg (M 1)) {y : Int} (y0 : -2147483648 ≤ y) (y1 : y < 2147483648) : ∃ r_ h', q_cl E q_m_X8_account [Value.ref am, Value.int (zi y)] (q_mw h am M) = some (r_, h') ∧ (r_ = .inl (some (.int (zi (accM M y).2))) ∧ h' = q_mw h am (uM M 0 5 (accM M y).1)) := by
  suffices K : ∀ Q : q_R → q_H → Prop, (∀ r_ h', (r_ = .inl (some (.int (zi (accM M y).2))) ∧ h' = q_mw h am (uM M 0 5 (accM M y).1)) → Q r_ h') → Xv E q_m_X8_account 0 [Value.ref am, Value.int (zi y)] [] (q_mw h am M) Q from K _ fun _ _ p => p
  intro Q hQ
  have hR0 := hR
  obtain ⟨hr, g0, g1, g3, g4, gc, g5, g6, g7, gk, gl, gr, go⟩ := hR0
  refine xv (x_aload_n 1 d_X8_account_0 rfl rfl) ?_
  refine xv (x_iload_n 2 d_X8_account_1 rfl rfl) ?_
  refine xv (x_iconst 3 d_X8_account_2 rfl) ?_
  refine xv (x_bipush 5 d_X8_account_3 rfl rfl) ?_
  refine xv (x_ins1 8 (as := [Value.int (zi y), Value.int (zi 0), Value.int (zi 16)]) d_X8_account_5 rfl c_8_71 rfl (Nat.le_of_ble_eq_true rfl) (Nat.le_of_ble_eq_true rfl) (Nat.le_of_ble_eq_true rfl) rfl (S_X8_in (E := E) (h := h) (am := am) (M := M) (by omega) (by omega) (by omega) (by omega) (by omega) (by omega))) ?_
  show Xv E q_m_X8_account 8 [Value.ref am, Value.int (zi y)] [Value.int (zi (bI (inn y 0 16))), Value.ref am] (q_mw h am M) Q
  refine v_if_eq 15 11 d_X8_account_8 rfl rfl (by have := bI_r (inn y 0 16); omega) (by have := bI_r (inn y 0 16); omega) (fun k8 => ?_) (fun k8 => ?_)
  · replace k8 := bI_0.mp k8
    refine xv (x_iconst 16 d_X8_account_15 rfl) ?_
    refine xv (x_putfield 19 d_X8_account_16 rfl f_8_49 (Nat.le_of_ble_eq_true rfl) m_pf5 rfl rfl (fun e => absurd e (by decide))) ?_
    show Xv E q_m_X8_account 19 [Value.ref am, Value.int (zi y)] [] (q_mw h am (uM M 0 5 1)) Q
    refine xv (x_aload_n 20 d_X8_account_19 rfl rfl) ?_
    refine xv (x_getfield 23 d_X8_account_20 rfl f_8_49 (Nat.le_of_ble_eq_true rfl) (Nat.le_of_ble_eq_true rfl) ((q_gf_of (m_o (h := h) (am := am) (M := (uM M 0 5 1))) rfl : q_gf (q_mw h am (uM M 0 5 1)) am 8 5 = some (Value.int (zi 1))))) ?_
    refine v_if_le 28 26 d_X8_account_23 rfl rfl (by omega) (by omega) (fun k23 => ?_) (fun k23 => ?_)
    · omega
    · refine xv (x_iconst 27 d_X8_account_26 rfl) ?_
      refine xv_r (x_ireturn d_X8_account_27 rfl rfl) ?_
      have er : accM M y = (1, 0) := by unfold accM; repeat (first | rw [if_pos (by omega)] | rw [if_neg (by omega)])
      refine hQ _ _ ?_
      rw [er]
      exact ⟨rfl, rfl⟩
  · replace k8 := bI_n0.mp k8
    refine xv (x_iconst 12 d_X8_account_11 rfl) ?_
    refine xv (x_goto 16 d_X8_account_12 rfl) ?_
    refine xv (x_putfield 19 d_X8_account_16 rfl f_8_49 (Nat.le_of_ble_eq_true rfl) m_pf5 rfl rfl (fun e => absurd e (by decide))) ?_
    show Xv E q_m_X8_account 19 [Value.ref am, Value.int (zi y)] [] (q_mw h am (uM M 0 5 0)) Q
    refine xv (x_aload_n 20 d_X8_account_19 rfl rfl) ?_
    refine xv (x_getfield 23 d_X8_account_20 rfl f_8_49 (Nat.le_of_ble_eq_true rfl) (Nat.le_of_ble_eq_true rfl) ((q_gf_of (m_o (h := h) (am := am) (M := (uM M 0 5 0))) rfl : q_gf (q_mw h am (uM M 0 5 0)) am 8 5 = some (Value.int (zi 0))))) ?_
    refine v_if_le 28 26 d_X8_account_23 rfl rfl (by omega) (by omega) (fun k23 => ?_) (fun k23 => ?_)
    · refine xv (x_iload_n 29 d_X8_account_28 rfl rfl) ?_
      by_cases k29_0 : y = 0
      · refine xv (x_tsw_in 100 0 d_X8_account_29 k29_0 (by decide) (by decide) (by decide) rfl rfl) ?_
        refine xv (x_aload_n 101 d_X8_account_100 rfl rfl) ?_
        refine xv (x_getfield 104 d_X8_account_101 rfl f_8_9 (Nat.le_of_ble_eq_true rfl) (Nat.le_of_ble_eq_true rfl) (q_gf_of m_o rfl)) ?_
        refine xv (x_iconst 105 d_X8_account_104 rfl) ?_
        refine xv (x_iaload 106 d_X8_account_105 rfl ((m_g1 (by omega) (by omega)).trans (rfl : _ = some (Value.int (zi ((M 1) 0)))))) ?_
        have q_1 : -1000000 ≤ (M 1) 0 ∧ (M 1) 0 ≤ 1000000 := hr _
        refine xv_r (x_ireturn d_X8_account_106 rfl rfl) ?_
        have er : accM M y = (0, (M 1) 0) := by unfold accM; repeat (first | rw [if_pos (by omega)] | rw [if_neg (by omega)])
        refine hQ _ _ ?_
        rw [er]
        exact ⟨rfl, rfl⟩
      by_cases k29_1 : y = 1
      · refine xv (x_tsw_in 107 1 d_X8_account_29 k29_1 (by decide) (by decide) (by decide) rfl rfl) ?_
        refine xv (x_aload_n 108 d_X8_account_107 rfl rfl) ?_
        refine xv (x_getfield 111 d_X8_account_108 rfl f_8_9 (Nat.le_of_ble_eq_true rfl) (Nat.le_of_ble_eq_true rfl) (q_gf_of m_o rfl)) ?_
        refine xv (x_iconst 112 d_X8_account_111 rfl) ?_
        refine xv (x_iaload 113 d_X8_account_112 rfl ((m_g1 (by omega) (by omega)).trans (rfl : _ = some (Value.int (zi ((M 1) 1)))))) ?_
        have q_2 : -1000000 ≤ (M 1) 1 ∧ (M 1) 1 ≤ 1000000 := hr _
        refine xv_r (x_ireturn d_X8_account_113 rfl rfl) ?_
        have er : accM M y = (0, (M 1) 1) := by unfold accM; repeat (first | rw [if_pos (by omega)] | rw [if_neg (by omega)])
        refine hQ _ _ ?_
        rw [er]
        exact ⟨rfl, rfl⟩
      by_cases k29_2 : y = 2
      · refine xv (x_tsw_in 114 2 d_X8_account_29 k29_2 (by decide) (by decide) (by decide) rfl rfl) ?_
        refine xv (x_aload_n 115 d_X8_account_114 rfl rfl) ?_
        refine xv (x_getfield 118 d_X8_account_115 rfl f_8_9 (Nat.le_of_ble_eq_true rfl) (Nat.le_of_ble_eq_true rfl) (q_gf_of m_o rfl)) ?_
        refine xv (x_iconst 119 d_X8_account_118 rfl) ?_
        refine xv (x_iaload 120 d_X8_account_119 rfl ((m_g1 (by omega) (by omega)).trans (rfl : _ = some (Value.int (zi ((M 1) 3)))))) ?_
        have q_3 : -1000000 ≤ (M 1) 3 ∧ (M 1) 3 ≤ 1000000 := hr _
        refine xv_r (x_ireturn d_X8_account_120 rfl rfl) ?_
        have er : accM M y = (0, (M 1) 3) := by unfold accM; repeat (first | rw [if_pos (by omega)] | rw [if_neg (by omega)])
        refine hQ _ _ ?_
        rw [er]
        exact ⟨rfl, rfl⟩
      by_cases k29_3 : y = 3
      · refine xv (x_tsw_in 121 3 d_X8_account_29 k29_3 (by decide) (by decide) (by decide) rfl rfl) ?_
        refine xv (x_aload_n 122 d_X8_account_121 rfl rfl) ?_
        refine xv (x_getfield 125 d_X8_account_122 rfl f_8_9 (Nat.le_of_ble_eq_true rfl) (Nat.le_of_ble_eq_true rfl) (q_gf_of m_o rfl)) ?_
        refine xv (x_iconst 126 d_X8_account_125 rfl) ?_
        refine xv (x_iaload 127 d_X8_account_126 rfl ((m_g1 (by omega) (by omega)).trans (rfl : _ = some (Value.int (zi ((M 1) 4)))))) ?_
        have q_4 : -1000000 ≤ (M 1) 4 ∧ (M 1) 4 ≤ 1000000 := hr _
        refine xv_r (x_ireturn d_X8_account_127 rfl rfl) ?_
        have er : accM M y = (0, (M 1) 4) := by unfold accM; repeat (first | rw [if_pos (by omega)] | rw [if_neg (by omega)])
        refine hQ _ _ ?_
        rw [er]
        exact ⟨rfl, rfl⟩
      by_cases k29_4 : y = 4
      · refine xv (x_tsw_in 128 4 d_X8_account_29 k29_4 (by decide) (by decide) (by decide) rfl rfl) ?_
        refine xv (x_aload_n 129 d_X8_account_128 rfl rfl) ?_
        refine xv (x_iload_n 130 d_X8_account_129 rfl rfl) ?_
        refine xv (x_iconst 131 d_X8_account_130 rfl) ?_
        refine xv (x_isub 132 d_X8_account_131 rfl) ?_
        refine xv (x_inv1 135 (as := [Value.int (zi (y - 4))]) d_X8_account_132 rfl c_8_186 rfl (Nat.le_of_ble_eq_true rfl) (Nat.le_of_ble_eq_true rfl) m_o (Nat.le_of_ble_eq_true rfl) (Nat.le_of_ble_eq_true rfl) rfl (S_X8_overOrders (E := E) (h := h) (am := am) (M := (uM M 0 5 0)) hR (by first | omega | (rw [show (uM M 0 5 0) 1 = (M 1) from rfl]; omega)) (by first | omega | (rw [show (uM M 0 5 0) 1 = (M 1) from rfl]; omega)))) ?_
        show Xv E q_m_X8_account 135 [Value.ref am, Value.int (zi y)] [Value.int (zi (ovO (M 1) (y - 4)))] (q_mw h am (uM M 0 5 0)) Q
        refine xv_r (x_ireturn d_X8_account_135 rfl rfl) ?_
        have er : accM M y = (0, ovO (M 1) (y - 4)) := by unfold accM; repeat (first | rw [if_pos (by omega)] | rw [if_neg (by omega)])
        refine hQ _ _ ?_
        rw [er]
        exact ⟨rfl, rfl⟩
      by_cases k29_5 : y = 5
      · refine xv (x_tsw_in 128 5 d_X8_account_29 k29_5 (by decide) (by decide) (by decide) rfl rfl) ?_
        refine xv (x_aload_n 129 d_X8_account_128 rfl rfl) ?_
        refine xv (x_iload_n 130 d_X8_account_129 rfl rfl) ?_
        refine xv (x_iconst 131 d_X8_account_130 rfl) ?_
        refine xv (x_isub 132 d_X8_account_131 rfl) ?_
        refine xv (x_inv1 135 (as := [Value.int (zi (y - 4))]) d_X8_account_132 rfl c_8_186 rfl (Nat.le_of_ble_eq_true rfl) (Nat.le_of_ble_eq_true rfl) m_o (Nat.le_of_ble_eq_true rfl) (Nat.le_of_ble_eq_true rfl) rfl (S_X8_overOrders (E := E) (h := h) (am := am) (M := (uM M 0 5 0)) hR (by first | omega | (rw [show (uM M 0 5 0) 1 = (M 1) from rfl]; omega)) (by first | omega | (rw [show (uM M 0 5 0) 1 = (M 1) from rfl]; omega)))) ?_
        show Xv E q_m_X8_account 135 [Value.ref am, Value.int (zi y)] [Value.int (zi (ovO (M 1) (y - 4)))] (q_mw h am (uM M 0 5 0)) Q
        refine xv_r (x_ireturn d_X8_account_135 rfl rfl) ?_
        have er : accM M y = (0, ovO (M 1) (y - 4)) := by unfold accM; repeat (first | rw [if_pos (by omega)] | rw [if_neg (by omega)])
        refine hQ _ _ ?_
        rw [er]
        exact ⟨rfl, rfl⟩
      by_cases k29_6 : y = 6
      · refine xv (x_tsw_in 128 6 d_X8_account_29 k29_6 (by decide) (by decide) (by decide) rfl rfl) ?_
        refine xv (x_aload_n 129 d_X8_account_128 rfl rfl) ?_
        refine xv (x_iload_n 130 d_X8_account_129 rfl rfl) ?_
        refine xv (x_iconst 131 d_X8_account_130 rfl) ?_
        refine xv (x_isub 132 d_X8_account_131 rfl) ?_
        refine xv (x_inv1 135 (as := [Value.int (zi (y - 4))]) d_X8_account_132 rfl c_8_186 rfl (Nat.le_of_ble_eq_true rfl) (Nat.le_of_ble_eq_true rfl) m_o (Nat.le_of_ble_eq_true rfl) (Nat.le_of_ble_eq_true rfl) rfl (S_X8_overOrders (E := E) (h := h) (am := am) (M := (uM M 0 5 0)) hR (by first | omega | (rw [show (uM M 0 5 0) 1 = (M 1) from rfl]; omega)) (by first | omega | (rw [show (uM M 0 5 0) 1 = (M 1) from rfl]; omega)))) ?_
        show Xv E q_m_X8_account 135 [Value.ref am, Value.int (zi y)] [Value.int (zi (ovO (M 1) (y - 4)))] (q_mw h am (uM M 0 5 0)) Q
        refine xv_r (x_ireturn d_X8_account_135 rfl rfl) ?_
        have er : accM M y = (0, ovO (M 1) (y - 4)) := by unfold accM; repeat (first | rw [if_pos (by omega)] | rw [if_neg (by omega)])
        refine hQ _ _ ?_
        rw [er]
        exact ⟨rfl, rfl⟩
      by_cases k29_7 : y = 7
      · refine xv (x_tsw_in 136 7 d_X8_account_29 k29_7 (by decide) (by decide) (by decide) rfl rfl) ?_
        refine xv (x_aload_n 137 d_X8_account_136 rfl rfl) ?_
        refine xv (x_inv1 140 (as := []) d_X8_account_137 rfl c_8_118 rfl (Nat.le_of_ble_eq_true rfl) (Nat.le_of_ble_eq_true rfl) m_o (Nat.le_of_ble_eq_true rfl) (Nat.le_of_ble_eq_true rfl) rfl (S_X8_closedCells (E := E) (h := h) (am := am) (M := (uM M 0 5 0)) hR)) ?_
        show Xv E q_m_X8_account 140 [Value.ref am, Value.int (zi y)] [Value.int (zi (ccl (M 1)))] (q_mw h am (uM M 0 5 0)) Q
        refine xv_r (x_ireturn d_X8_account_140 rfl rfl) ?_
        have er : accM M y = (0, ccl (M 1)) := by unfold accM; repeat (first | rw [if_pos (by omega)] | rw [if_neg (by omega)])
        refine hQ _ _ ?_
        rw [er]
        exact ⟨rfl, rfl⟩
      by_cases k29_8 : y = 8
      · refine xv (x_tsw_in 141 8 d_X8_account_29 k29_8 (by decide) (by decide) (by decide) rfl rfl) ?_
        refine xv (x_aload_n 142 d_X8_account_141 rfl rfl) ?_
        refine xv (x_getfield 145 d_X8_account_142 rfl f_8_9 (Nat.le_of_ble_eq_true rfl) (Nat.le_of_ble_eq_true rfl) (q_gf_of m_o rfl)) ?_
        refine xv (x_iconst 146 d_X8_account_145 rfl) ?_
        refine xv (x_iaload 147 d_X8_account_146 rfl ((m_g1 (by omega) (by omega)).trans (rfl : _ = some (Value.int (zi ((M 1) 2)))))) ?_
        have q_5 : -1000000 ≤ (M 1) 2 ∧ (M 1) 2 ≤ 1000000 := hr _
        refine xv_r (x_ireturn d_X8_account_147 rfl rfl) ?_
        have er : accM M y = (0, (M 1) 2) := by unfold accM; repeat (first | rw [if_pos (by omega)] | rw [if_neg (by omega)])
        refine hQ _ _ ?_
        rw [er]
        exact ⟨rfl, rfl⟩
      by_cases k29_9 : y = 9
      · refine xv (x_tsw_in 148 9 d_X8_account_29 k29_9 (by decide) (by decide) (by decide) rfl rfl) ?_
        refine xv (x_aload_n 149 d_X8_account_148 rfl rfl) ?_
        refine xv (x_iconst 150 d_X8_account_149 rfl) ?_
        refine xv (x_inv1 153 (as := [Value.int (zi 5)]) d_X8_account_150 rfl c_8_189 rfl (Nat.le_of_ble_eq_true rfl) (Nat.le_of_ble_eq_true rfl) m_o (Nat.le_of_ble_eq_true rfl) (Nat.le_of_ble_eq_true rfl) rfl (S_X8_overRobots (E := E) (h := h) (am := am) (M := (uM M 0 5 0)) hR (by first | omega | (rw [show (uM M 0 5 0) 1 = (M 1) from rfl]; omega)) (by first | omega | (rw [show (uM M 0 5 0) 1 = (M 1) from rfl]; omega)))) ?_
        show Xv E q_m_X8_account 153 [Value.ref am, Value.int (zi y)] [Value.int (zi (ovR (M 1) 5))] (q_mw h am (uM M 0 5 0)) Q
        refine xv_r (x_ireturn d_X8_account_153 rfl rfl) ?_
        have er : accM M y = (0, ovR (M 1) 5) := by unfold accM; repeat (first | rw [if_pos (by omega)] | rw [if_neg (by omega)])
        refine hQ _ _ ?_
        rw [er]
        exact ⟨rfl, rfl⟩
      by_cases k29_10 : y = 10
      · refine xv (x_tsw_in 154 10 d_X8_account_29 k29_10 (by decide) (by decide) (by decide) rfl rfl) ?_
        refine xv (x_aload_n 155 d_X8_account_154 rfl rfl) ?_
        refine xv (x_iconst 156 d_X8_account_155 rfl) ?_
        refine xv (x_inv1 159 (as := [Value.int (zi (-1))]) d_X8_account_156 rfl c_8_186 rfl (Nat.le_of_ble_eq_true rfl) (Nat.le_of_ble_eq_true rfl) m_o (Nat.le_of_ble_eq_true rfl) (Nat.le_of_ble_eq_true rfl) rfl (S_X8_overOrders (E := E) (h := h) (am := am) (M := (uM M 0 5 0)) hR (by first | omega | (rw [show (uM M 0 5 0) 1 = (M 1) from rfl]; omega)) (by first | omega | (rw [show (uM M 0 5 0) 1 = (M 1) from rfl]; omega)))) ?_
        show Xv E q_m_X8_account 159 [Value.ref am, Value.int (zi y)] [Value.int (zi (ovO (M 1) (-1)))] (q_mw h am (uM M 0 5 0)) Q
        refine xv_r (x_ireturn d_X8_account_159 rfl rfl) ?_
        have er : accM M y = (0, ovO (M 1) (-1)) := by unfold accM; repeat (first | rw [if_pos (by omega)] | rw [if_neg (by omega)])
        refine hQ _ _ ?_
        rw [er]
        exact ⟨rfl, rfl⟩
      by_cases k29_11 : y = 11
      · refine xv (x_tsw_in 160 11 d_X8_account_29 k29_11 (by decide) (by decide) (by decide) rfl rfl) ?_
        refine xv (x_aload_n 161 d_X8_account_160 rfl rfl) ?_
        refine xv (x_iconst 162 d_X8_account_161 rfl) ?_
        refine xv (x_inv1 165 (as := [Value.int (zi 1)]) d_X8_account_162 rfl c_8_189 rfl (Nat.le_of_ble_eq_true rfl) (Nat.le_of_ble_eq_true rfl) m_o (Nat.le_of_ble_eq_true rfl) (Nat.le_of_ble_eq_true rfl) rfl (S_X8_overRobots (E := E) (h := h) (am := am) (M := (uM M 0 5 0)) hR (by first | omega | (rw [show (uM M 0 5 0) 1 = (M 1) from rfl]; omega)) (by first | omega | (rw [show (uM M 0 5 0) 1 = (M 1) from rfl]; omega)))) ?_
        show Xv E q_m_X8_account 165 [Value.ref am, Value.int (zi y)] [Value.int (zi (ovR (M 1) 1))] (q_mw h am (uM M 0 5 0)) Q
        refine xv_r (x_ireturn d_X8_account_165 rfl rfl) ?_
        have er : accM M y = (0, ovR (M 1) 1) := by unfold accM; repeat (first | rw [if_pos (by omega)] | rw [if_neg (by omega)])
        refine hQ _ _ ?_
        rw [er]
        exact ⟨rfl, rfl⟩
      by_cases k29_12 : y = 12
      · refine xv (x_tsw_in 166 12 d_X8_account_29 k29_12 (by decide) (by decide) (by decide) rfl rfl) ?_
        refine xv (x_aload_n 167 d_X8_account_166 rfl rfl) ?_
        refine xv (x_getfield 170 d_X8_account_167 rfl f_8_52 (Nat.le_of_ble_eq_true rfl) (Nat.le_of_ble_eq_true rfl) ((q_gf_of (m_o (h := h) (am := am) (M := (uM M 0 5 0))) rfl : q_gf (q_mw h am (uM M 0 5 0)) am 8 4 = some (Value.int (zi (M 0 4)))))) ?_
        refine xv_r (x_ireturn d_X8_account_170 rfl rfl) ?_
        have er : accM M y = (0, M 0 4) := by unfold accM; repeat (first | rw [if_pos (by omega)] | rw [if_neg (by omega)])
        refine hQ _ _ ?_
        rw [er]
        exact ⟨rfl, rfl⟩
      by_cases k29_13 : y = 13
      · refine xv (x_tsw_in 171 13 d_X8_account_29 k29_13 (by decide) (by decide) (by decide) rfl rfl) ?_
        refine xv (x_aload_n 172 d_X8_account_171 rfl rfl) ?_
        refine xv (x_getfield 175 d_X8_account_172 rfl f_8_192 (Nat.le_of_ble_eq_true rfl) (Nat.le_of_ble_eq_true rfl) ((q_gf_of (m_o (h := h) (am := am) (M := (uM M 0 5 0))) rfl : q_gf (q_mw h am (uM M 0 5 0)) am 8 16 = some (Value.int (zi (M 0 16)))))) ?_
        refine xv_r (x_ireturn d_X8_account_175 rfl rfl) ?_
        have er : accM M y = (0, M 0 16) := by unfold accM; repeat (first | rw [if_pos (by omega)] | rw [if_neg (by omega)])
        refine hQ _ _ ?_
        rw [er]
        exact ⟨rfl, rfl⟩
      refine xv (x_tsw_out 176 d_X8_account_29 (by omega) (by omega) (by omega) rfl) ?_
      refine xv (x_aload_n 177 d_X8_account_176 rfl rfl) ?_
      refine xv (x_getfield 180 d_X8_account_177 rfl f_8_9 (Nat.le_of_ble_eq_true rfl) (Nat.le_of_ble_eq_true rfl) (q_gf_of m_o rfl)) ?_
      refine xv (x_iconst 181 d_X8_account_180 rfl) ?_
      refine xv (x_iload_n 182 d_X8_account_181 rfl rfl) ?_
      refine xv (x_iadd 183 d_X8_account_182 rfl) ?_
      refine xv (x_bipush 185 d_X8_account_183 rfl rfl) ?_
      refine xv (x_isub 186 d_X8_account_185 rfl) ?_
      refine xv (x_iaload 187 d_X8_account_186 rfl ((m_g1 (by omega) (by omega)).trans (rfl : _ = some (Value.int (zi ((M 1) ((5 + y) - 14))))))) ?_
      have q_6 : -1000000 ≤ (M 1) ((5 + y) - 14) ∧ (M 1) ((5 + y) - 14) ≤ 1000000 := hr _
      refine xv_r (x_ireturn d_X8_account_187 rfl rfl) ?_
      have er : accM M y = (0, (M 1) ((5 + y) - 14)) := by unfold accM; repeat (first | rw [if_pos (by omega)] | rw [if_neg (by omega)])
      refine hQ _ _ ?_
      rw [er]
      exact ⟨rfl, rfl⟩
    · omega
end RR
