/-! the reference: distance (printed by program) -/
section RZ
variable {E : q_E} {h : q_H} {am : Nat} {M M2 : q_Im} {l g : Int → Int} {y k : Int}
/-- the same state, thrown told anew; rows 4 to 10 are free -/
def MS (M M' : q_Im) (t : Int) : Prop := M' 0 = u1 (M 0) 5 t ∧ M' 1 = M 1 ∧ M' 2 = M 2 ∧ M' 3 = M 3 ∧ M' 11 = M 11
def disM (l : Int → Int) (a b : Int) : Int × Int := if ¬ (isC l a ∧ isC l b) then (1, 0) else if far l a b < 0 then (2, 0) else (0, far l a b)
theorem S_X8_farOf (hR : Rg (M 1)) (hT : 0 ≤ M 1 2) {y z : Int} (hy : isC (M 1) y) (hz : 0 ≤ z ∧ z < 48) : ∃ r_ h', q_cl E q_m_X8_farOf [Value.ref am, Value.int (zi y), Value.int (zi z)] (q_mw h am M) = some (r_, h') ∧ (r_ = .inl (some (.int (zi (far (M 1) y z)))) ∧ ∃ f8 mq, h' = q_mw h am (uA (uA M 8 f8) 9 mq)) := by
  suffices K : ∀ Q : q_R → q_H → Prop, (∀ r_ h', (r_ = .inl (some (.int (zi (far (M 1) y z)))) ∧ ∃ f8 mq, h' = q_mw h am (uA (uA M 8 f8) 9 mq)) → Q r_ h') → Xv E q_m_X8_farOf 0 [Value.ref am, Value.int (zi y), Value.int (zi z)] [] (q_mw h am M) Q from K _ fun _ _ p => p
  intro Q hQ
  have hR0 := hR
  obtain ⟨hr, g0, g1, g3, g4, gc, g5, g6, g7, gk, gl, gr, go⟩ := hR0
  refine xv (x_aload_n 1 d_X8_farOf_0 rfl rfl) ?_
  refine xv (x_iload_n 2 d_X8_farOf_1 rfl rfl) ?_
  obtain ⟨r2, h2, e2, z2, f2, m2, a2, y2⟩ := S_X8_findFar (E := E) (h := h) (am := am) (M := M) (y := y) hR hT (show isC (M 1) y by omega)
  subst z2
  subst y2
  replace a2 : ∀ i, 0 ≤ i → i < 48 → f2 i = far (M 1) y i := a2
  refine xv (x_inv0 5 (as := [Value.int (zi y)]) d_X8_farOf_2 rfl c_8_162 rfl (Nat.le_of_ble_eq_true rfl) (Nat.le_of_ble_eq_true rfl) m_o (Nat.le_of_ble_eq_true rfl) (Nat.le_of_ble_eq_true rfl) rfl e2) ?_
  show Xv E q_m_X8_farOf 5 [Value.ref am, Value.int (zi y), Value.int (zi z)] [] (q_mw h am (uA (uA M 8 f2) 9 m2)) Q
  refine xv (x_aload_n 6 d_X8_farOf_5 rfl rfl) ?_
  refine xv (x_getfield 9 d_X8_farOf_6 rfl f_8_32 (Nat.le_of_ble_eq_true rfl) (Nat.le_of_ble_eq_true rfl) (q_gf_of m_o rfl)) ?_
  refine xv (x_iload_n 10 d_X8_farOf_9 rfl rfl) ?_
  refine xv (x_iaload 11 d_X8_farOf_10 rfl ((m_g8 (by omega) (by omega)).trans (congrArg (fun z => some (Value.int (zi z))) (a2 z (by omega) (by omega))))) ?_
  refine xv_r (x_ireturn d_X8_farOf_11 rfl rfl) ?_
  exact hQ _ _ ⟨rfl, _, _, rfl⟩
theorem S_X8_distance (hR : Rg (M 1)) (hT : 0 ≤ M 1 2) {y z : Int} (y0 : -2147483648 ≤ y) (y1 : y < 2147483648) (z0 : -2147483648 ≤ z) (z1 : z < 2147483648) : ∃ r_ h', q_cl E q_m_X8_distance [Value.ref am, Value.int (zi y), Value.int (zi z)] (q_mw h am M) = some (r_, h') ∧ (r_ = .inl (some (.int (zi (disM (M 1) y z).2))) ∧ ∃ M', h' = q_mw h am M' ∧ MS M M' (disM (M 1) y z).1) := by
  suffices K : ∀ Q : q_R → q_H → Prop, (∀ r_ h', (r_ = .inl (some (.int (zi (disM (M 1) y z).2))) ∧ ∃ M', h' = q_mw h am M' ∧ MS M M' (disM (M 1) y z).1) → Q r_ h') → Xv E q_m_X8_distance 0 [Value.ref am, Value.int (zi y), Value.int (zi z), Value.null] [] (q_mw h am M) Q from K _ fun _ _ p => p
  intro Q hQ
  have hR0 := hR
  obtain ⟨hr, g0, g1, g3, g4, gc, g5, g6, g7, gk, gl, gr, go⟩ := hR0
  refine xv (x_aload_n 1 d_X8_distance_0 rfl rfl) ?_
  refine xv (x_aload_n 2 d_X8_distance_1 rfl rfl) ?_
  refine xv (x_iload_n 3 d_X8_distance_2 rfl rfl) ?_
  refine xv (x_inv1 6 (as := [Value.int (zi y)]) d_X8_distance_3 rfl c_8_86 rfl (Nat.le_of_ble_eq_true rfl) (Nat.le_of_ble_eq_true rfl) m_o (Nat.le_of_ble_eq_true rfl) (Nat.le_of_ble_eq_true rfl) rfl (S_X8_isCell (E := E) (h := h) (am := am) (M := M) hR (by omega) (by omega))) ?_
  show Xv E q_m_X8_distance 6 [Value.ref am, Value.int (zi y), Value.int (zi z), Value.null] [Value.int (zi (bI (isC (M 1) y))), Value.ref am] (q_mw h am M) Q
  refine v_if_eq 21 9 d_X8_distance_6 rfl rfl (by have := bI_r (isC (M 1) y); omega) (by have := bI_r (isC (M 1) y); omega) (fun k6 => ?_) (fun k6 => ?_)
  · replace k6 := bI_0.mp k6
    refine xv (x_iconst 22 d_X8_distance_21 rfl) ?_
    refine xv (x_putfield 25 d_X8_distance_22 rfl f_8_49 (Nat.le_of_ble_eq_true rfl) m_pf5 rfl rfl (fun e => absurd e (by decide))) ?_
    show Xv E q_m_X8_distance 25 [Value.ref am, Value.int (zi y), Value.int (zi z), Value.null] [] (q_mw h am (uM M 0 5 1)) Q
    refine xv (x_aload_n 26 d_X8_distance_25 rfl rfl) ?_
    refine xv (x_getfield 29 d_X8_distance_26 rfl f_8_49 (Nat.le_of_ble_eq_true rfl) (Nat.le_of_ble_eq_true rfl) ((q_gf_of (m_o (h := h) (am := am) (M := (uM M 0 5 1))) rfl : q_gf (q_mw h am (uM M 0 5 1)) am 8 5 = some (Value.int (zi 1))))) ?_
    refine v_if_le 34 32 d_X8_distance_29 rfl rfl (by omega) (by omega) (fun k29 => ?_) (fun k29 => ?_)
    · omega
    · refine xv (x_iconst 33 d_X8_distance_32 rfl) ?_
      refine xv_r (x_ireturn d_X8_distance_33 rfl rfl) ?_
      have er : disM (M 1) y z = (1, 0) := by unfold disM; repeat (first | rw [if_pos (by omega)] | rw [if_neg (by omega)])
      refine hQ _ _ ⟨by rw [er], (uM M 0 5 1), rfl, ?_, rfl, rfl, rfl, rfl⟩
      rw [er]
      first | rfl | exact u1_u1
  · replace k6 := bI_n0.mp k6
    refine xv (x_aload_n 10 d_X8_distance_9 rfl rfl) ?_
    refine xv (x_iload_n 11 d_X8_distance_10 rfl rfl) ?_
    refine xv (x_inv1 14 (as := [Value.int (zi z)]) d_X8_distance_11 rfl c_8_86 rfl (Nat.le_of_ble_eq_true rfl) (Nat.le_of_ble_eq_true rfl) m_o (Nat.le_of_ble_eq_true rfl) (Nat.le_of_ble_eq_true rfl) rfl (S_X8_isCell (E := E) (h := h) (am := am) (M := M) hR (by omega) (by omega))) ?_
    show Xv E q_m_X8_distance 14 [Value.ref am, Value.int (zi y), Value.int (zi z), Value.null] [Value.int (zi (bI (isC (M 1) z))), Value.ref am] (q_mw h am M) Q
    refine v_if_eq 21 17 d_X8_distance_14 rfl rfl (by have := bI_r (isC (M 1) z); omega) (by have := bI_r (isC (M 1) z); omega) (fun k14 => ?_) (fun k14 => ?_)
    · replace k14 := bI_0.mp k14
      refine xv (x_iconst 22 d_X8_distance_21 rfl) ?_
      refine xv (x_putfield 25 d_X8_distance_22 rfl f_8_49 (Nat.le_of_ble_eq_true rfl) m_pf5 rfl rfl (fun e => absurd e (by decide))) ?_
      show Xv E q_m_X8_distance 25 [Value.ref am, Value.int (zi y), Value.int (zi z), Value.null] [] (q_mw h am (uM M 0 5 1)) Q
      refine xv (x_aload_n 26 d_X8_distance_25 rfl rfl) ?_
      refine xv (x_getfield 29 d_X8_distance_26 rfl f_8_49 (Nat.le_of_ble_eq_true rfl) (Nat.le_of_ble_eq_true rfl) ((q_gf_of (m_o (h := h) (am := am) (M := (uM M 0 5 1))) rfl : q_gf (q_mw h am (uM M 0 5 1)) am 8 5 = some (Value.int (zi 1))))) ?_
      refine v_if_le 34 32 d_X8_distance_29 rfl rfl (by omega) (by omega) (fun k29 => ?_) (fun k29 => ?_)
      · omega
      · refine xv (x_iconst 33 d_X8_distance_32 rfl) ?_
        refine xv_r (x_ireturn d_X8_distance_33 rfl rfl) ?_
        have er : disM (M 1) y z = (1, 0) := by unfold disM; repeat (first | rw [if_pos (by omega)] | rw [if_neg (by omega)])
        refine hQ _ _ ⟨by rw [er], (uM M 0 5 1), rfl, ?_, rfl, rfl, rfl, rfl⟩
        rw [er]
        first | rfl | exact u1_u1
    · replace k14 := bI_n0.mp k14
      refine xv (x_iconst 18 d_X8_distance_17 rfl) ?_
      refine xv (x_goto 22 d_X8_distance_18 rfl) ?_
      refine xv (x_putfield 25 d_X8_distance_22 rfl f_8_49 (Nat.le_of_ble_eq_true rfl) m_pf5 rfl rfl (fun e => absurd e (by decide))) ?_
      show Xv E q_m_X8_distance 25 [Value.ref am, Value.int (zi y), Value.int (zi z), Value.null] [] (q_mw h am (uM M 0 5 0)) Q
      refine xv (x_aload_n 26 d_X8_distance_25 rfl rfl) ?_
      refine xv (x_getfield 29 d_X8_distance_26 rfl f_8_49 (Nat.le_of_ble_eq_true rfl) (Nat.le_of_ble_eq_true rfl) ((q_gf_of (m_o (h := h) (am := am) (M := (uM M 0 5 0))) rfl : q_gf (q_mw h am (uM M 0 5 0)) am 8 5 = some (Value.int (zi 0))))) ?_
      refine v_if_le 34 32 d_X8_distance_29 rfl rfl (by omega) (by omega) (fun k29 => ?_) (fun k29 => ?_)
      · refine xv (x_aload_n 35 d_X8_distance_34 rfl rfl) ?_
        refine xv (x_iload_n 36 d_X8_distance_35 rfl rfl) ?_
        refine xv (x_iload_n 37 d_X8_distance_36 rfl rfl) ?_
        obtain ⟨r37, h37, e37, z37, f37, m37, y37⟩ := S_X8_farOf (E := E) (h := h) (am := am) (M := (uM M 0 5 0)) (y := y) (z := z) hR hT (show isC (M 1) y by omega) (by omega)
        replace z37 : r37 = .inl (some (.int (zi (far (M 1) y z)))) := z37
        subst z37
        subst y37
        refine xv (x_inv1 40 (as := [Value.int (zi y), Value.int (zi z)]) d_X8_distance_37 rfl c_8_165 rfl (Nat.le_of_ble_eq_true rfl) (Nat.le_of_ble_eq_true rfl) m_o (Nat.le_of_ble_eq_true rfl) (Nat.le_of_ble_eq_true rfl) rfl e37) ?_
        have q37 := far_r (rgc_of hR hT) (show isC (M 1) y by omega) z
        show Xv E q_m_X8_distance 40 [Value.ref am, Value.int (zi y), Value.int (zi z), Value.null] [Value.int (zi (far (M 1) y z))] (q_mw h am (uA (uA (uM M 0 5 0) 8 f37) 9 m37)) Q
        refine xv (x_istore_n 41 d_X8_distance_40 rfl (Nat.le_of_ble_eq_true rfl)) ?_
        show Xv E q_m_X8_distance 41 [Value.ref am, Value.int (zi y), Value.int (zi z), Value.int (zi (far (M 1) y z))] [] (q_mw h am (uA (uA (uM M 0 5 0) 8 f37) 9 m37)) Q
        refine xv (x_aload_n 42 d_X8_distance_41 rfl rfl) ?_
        refine xv (x_iload_n 43 d_X8_distance_42 rfl rfl) ?_
        refine v_if_ge 50 46 d_X8_distance_43 rfl rfl (by omega) (by omega) (fun k43 => ?_) (fun k43 => ?_)
        · refine xv (x_iconst 51 d_X8_distance_50 rfl) ?_
          refine xv (x_putfield 54 d_X8_distance_51 rfl f_8_49 (Nat.le_of_ble_eq_true rfl) m_pf5 rfl rfl (fun e => absurd e (by decide))) ?_
          show Xv E q_m_X8_distance 54 [Value.ref am, Value.int (zi y), Value.int (zi z), Value.int (zi (far (M 1) y z))] [] (q_mw h am (uM (uA (uA (uM M 0 5 0) 8 f37) 9 m37) 0 5 0)) Q
          refine xv (x_aload_n 55 d_X8_distance_54 rfl rfl) ?_
          refine xv (x_getfield 58 d_X8_distance_55 rfl f_8_49 (Nat.le_of_ble_eq_true rfl) (Nat.le_of_ble_eq_true rfl) ((q_gf_of (m_o (h := h) (am := am) (M := (uM (uA (uA (uM M 0 5 0) 8 f37) 9 m37) 0 5 0))) rfl : q_gf (q_mw h am (uM (uA (uA (uM M 0 5 0) 8 f37) 9 m37) 0 5 0)) am 8 5 = some (Value.int (zi 0))))) ?_
          refine v_if_le 65 61 d_X8_distance_58 rfl rfl (by omega) (by omega) (fun k58 => ?_) (fun k58 => ?_)
          · refine xv (x_iload_n 66 d_X8_distance_65 rfl rfl) ?_
            refine xv_r (x_ireturn d_X8_distance_66 rfl rfl) ?_
            have er : disM (M 1) y z = (0, far (M 1) y z) := by unfold disM; repeat (first | rw [if_pos (by omega)] | rw [if_neg (by omega)])
            refine hQ _ _ ⟨by rw [er], (uM (uA (uA (uM M 0 5 0) 8 f37) 9 m37) 0 5 0), rfl, ?_, rfl, rfl, rfl, rfl⟩
            rw [er]
            first | rfl | exact u1_u1
          · omega
        · refine xv (x_iconst 47 d_X8_distance_46 rfl) ?_
          refine xv (x_goto 51 d_X8_distance_47 rfl) ?_
          refine xv (x_putfield 54 d_X8_distance_51 rfl f_8_49 (Nat.le_of_ble_eq_true rfl) m_pf5 rfl rfl (fun e => absurd e (by decide))) ?_
          show Xv E q_m_X8_distance 54 [Value.ref am, Value.int (zi y), Value.int (zi z), Value.int (zi (far (M 1) y z))] [] (q_mw h am (uM (uA (uA (uM M 0 5 0) 8 f37) 9 m37) 0 5 2)) Q
          refine xv (x_aload_n 55 d_X8_distance_54 rfl rfl) ?_
          refine xv (x_getfield 58 d_X8_distance_55 rfl f_8_49 (Nat.le_of_ble_eq_true rfl) (Nat.le_of_ble_eq_true rfl) ((q_gf_of (m_o (h := h) (am := am) (M := (uM (uA (uA (uM M 0 5 0) 8 f37) 9 m37) 0 5 2))) rfl : q_gf (q_mw h am (uM (uA (uA (uM M 0 5 0) 8 f37) 9 m37) 0 5 2)) am 8 5 = some (Value.int (zi 2))))) ?_
          refine v_if_le 65 61 d_X8_distance_58 rfl rfl (by omega) (by omega) (fun k58 => ?_) (fun k58 => ?_)
          · omega
          · refine xv (x_iconst 62 d_X8_distance_61 rfl) ?_
            refine xv (x_goto 66 d_X8_distance_62 rfl) ?_
            refine xv_r (x_ireturn d_X8_distance_66 rfl rfl) ?_
            have er : disM (M 1) y z = (2, 0) := by unfold disM; repeat (first | rw [if_pos (by omega)] | rw [if_neg (by omega)])
            refine hQ _ _ ⟨by rw [er], (uM (uA (uA (uM M 0 5 0) 8 f37) 9 m37) 0 5 2), rfl, ?_, rfl, rfl, rfl, rfl⟩
            rw [er]
            first | rfl | exact u1_u1
      · omega
end RZ
