/-! the reference: release, cancel, set (printed by program) -/
section RO
variable {E : q_E} {h : q_H} {am : Nat} {M M2 : q_Im}
noncomputable def mRel (l : Int → Int) (r : Int) : Int × Int := if ¬ isR l r then (1, 0) else if rb l r 2 < 0 then (7, -1) else (0, 0)
def rRel (l : Int → Int) (r : Int) : Int → Int := u1 (u1 (u1 l (104 + 36 * r + 2) (-1)) (320 + 8 * (rb l r 2) + 3) (-1)) (320 + 8 * (rb l r 2) + 2) 0
noncomputable def mCan (l : Int → Int) (r : Int) : Int × Int := if ¬ isR l r then (1, 0) else if rb l r 3 = 0 then (14, 0) else if 0 ≤ wbe l (rb l r 0) 1 r then (5, wbe l (rb l r 0) 1 r) else (0, 0)
def rCan (l : Int → Int) (r : Int) : Int → Int := u1 l (104 + 36 * r + 3) 0
def mSet (w v : Int) : Int × Int := if ¬ (inn w 0 2 ∧ inn v 1 (mst w)) then (2, 0) else (0, 0)
def rSet (l : Int → Int) (w v : Int) : Int → Int := u1 l (5 + w) v
theorem S_X8_release (hR : Rg (M 1)) (hc : 0 ≤ M 0 4 ∧ M 0 4 ≤ 8) {y : Int} (y0 : -2147483648 ≤ y) (y1 : y < 2147483648) : ∃ r_ h', q_cl E q_m_X8_release [Value.ref am, Value.int (zi y)] (q_mw h am M) = some (r_, h') ∧ (r_ = .inl (some (.int (zi (mMut M (mRel (M 1) y) (rb (M 1) y 2) (rRel (M 1) y)).1))) ∧ h' = q_mw h am (mMut M (mRel (M 1) y) (rb (M 1) y 2) (rRel (M 1) y)).2) := by
  suffices K : ∀ Q : q_R → q_H → Prop, (∀ r_ h', (r_ = .inl (some (.int (zi (mMut M (mRel (M 1) y) (rb (M 1) y 2) (rRel (M 1) y)).1))) ∧ h' = q_mw h am (mMut M (mRel (M 1) y) (rb (M 1) y 2) (rRel (M 1) y)).2) → Q r_ h') → Xv E q_m_X8_release 0 [Value.ref am, Value.int (zi y), Value.null] [] (q_mw h am M) Q from K _ fun _ _ p => p
  intro Q hQ
  have hR0 := hR
  obtain ⟨hr, g0, g1, g3, g4, gc, g5, g6, g7, gk, gl, gr, go⟩ := hR0
  refine xv (x_aload_n 1 d_X8_release_0 rfl rfl) ?_
  refine xv (x_iconst 2 d_X8_release_1 rfl) ?_
  refine xv (x_putfield 5 d_X8_release_2 rfl f_8_49 (Nat.le_of_ble_eq_true rfl) m_pf5 rfl rfl (fun e => absurd e (by decide))) ?_
  show Xv E q_m_X8_release 5 [Value.ref am, Value.int (zi y), Value.null] [] (q_mw h am (uM M 0 5 0)) Q
  refine xv (x_aload_n 6 d_X8_release_5 rfl rfl) ?_
  refine xv (x_iload_n 7 d_X8_release_6 rfl rfl) ?_
  refine xv (x_inv1 10 (as := [Value.int (zi y)]) d_X8_release_7 rfl c_8_103 rfl (Nat.le_of_ble_eq_true rfl) (Nat.le_of_ble_eq_true rfl) m_o (Nat.le_of_ble_eq_true rfl) (Nat.le_of_ble_eq_true rfl) rfl (S_X8_isRobot (E := E) (h := h) (am := am) (M := (uM M 0 5 0)) hR (by omega) (by omega))) ?_
  show Xv E q_m_X8_release 10 [Value.ref am, Value.int (zi y), Value.null] [Value.int (zi (bI (isR (M 1) y)))] (q_mw h am (uM M 0 5 0)) Q
  refine v_if_ne 20 13 d_X8_release_10 rfl rfl (by have := bI_r (isR (M 1) y); omega) (by have := bI_r (isR (M 1) y); omega) (fun k10 => ?_) (fun k10 => ?_)
  · replace k10 := bI_n0.mp k10
    have gq := gr y k10.1 k10.2
    refine xv (x_aload_n 21 d_X8_release_20 rfl rfl) ?_
    refine xv (x_iload_n 22 d_X8_release_21 rfl rfl) ?_
    refine xv (x_iconst 23 d_X8_release_22 rfl) ?_
    refine xv (x_inv1 26 (as := [Value.int (zi y), Value.int (zi 2)]) d_X8_release_23 rfl c_8_79 rfl (Nat.le_of_ble_eq_true rfl) (Nat.le_of_ble_eq_true rfl) m_o (Nat.le_of_ble_eq_true rfl) (Nat.le_of_ble_eq_true rfl) rfl (S_X8_of (E := E) (h := h) (am := am) (M := (uM M 0 5 0)) hR (by omega) (by omega) (by omega) (by omega))) ?_
    have q_1 : -1000000 ≤ rb (M 1) y 2 ∧ rb (M 1) y 2 ≤ 1000000 := hr _
    show Xv E q_m_X8_release 26 [Value.ref am, Value.int (zi y), Value.null] [Value.int (zi (rb (M 1) y 2))] (q_mw h am (uM M 0 5 0)) Q
    refine xv (x_istore_n 27 d_X8_release_26 rfl (Nat.le_of_ble_eq_true rfl)) ?_
    show Xv E q_m_X8_release 27 [Value.ref am, Value.int (zi y), Value.int (zi (rb (M 1) y 2))] [] (q_mw h am (uM M 0 5 0)) Q
    refine xv (x_iload_n 28 d_X8_release_27 rfl rfl) ?_
    refine v_if_ge 39 31 d_X8_release_28 rfl rfl (by omega) (by omega) (fun k28 => ?_) (fun k28 => ?_)
    · refine xv (x_aload_n 40 d_X8_release_39 rfl rfl) ?_
      obtain ⟨r40, h40, e40, z40, y40⟩ := S_X8_change (E := E) (h := h) (am := am) (M := (uM M 0 5 0)) hc
      subst z40
      subst y40
      refine xv (x_inv0 43 (as := []) d_X8_release_40 rfl c_8_100 rfl (Nat.le_of_ble_eq_true rfl) (Nat.le_of_ble_eq_true rfl) m_o (Nat.le_of_ble_eq_true rfl) (Nat.le_of_ble_eq_true rfl) rfl e40) ?_
      generalize hM2 : mch (uM M 0 5 0) = M2
      have e2 : M2 1 = M 1 := by rw [← hM2]; exact mch_1
      have eM : M2 = uA M2 1 (M 1) := by rw [← e2, uA_self]
      rw [eM]
      show Xv E q_m_X8_release 43 [Value.ref am, Value.int (zi y), Value.int (zi (rb (M 1) y 2))] [] (q_mw h am (uA M2 1 (M 1))) Q
      refine xv (x_aload_n 44 d_X8_release_43 rfl rfl) ?_
      refine xv (x_getfield 47 d_X8_release_44 rfl f_8_9 (Nat.le_of_ble_eq_true rfl) (Nat.le_of_ble_eq_true rfl) (q_gf_of m_o rfl)) ?_
      refine xv (x_iload_n 48 d_X8_release_47 rfl rfl) ?_
      refine xv (x_ins1 51 (as := [Value.int (zi y)]) d_X8_release_48 rfl c_8_75 rfl (Nat.le_of_ble_eq_true rfl) (Nat.le_of_ble_eq_true rfl) (Nat.le_of_ble_eq_true rfl) rfl (S_X8_at (E := E) (h := h) (am := am) (M := (uA M2 1 (M 1))))) ?_
      show Xv E q_m_X8_release 51 [Value.ref am, Value.int (zi y), Value.int (zi (rb (M 1) y 2))] [Value.int (zi (104 + 36 * y)), Value.ref (am + 1)] (q_mw h am (uA M2 1 (M 1))) Q
      refine xv (x_iconst 52 d_X8_release_51 rfl) ?_
      refine xv (x_iadd 53 d_X8_release_52 rfl) ?_
      refine xv (x_iconst 54 d_X8_release_53 rfl) ?_
      refine xv (x_iastore 55 d_X8_release_54 rfl (m_s1 (by omega) (by omega))) ?_
      show Xv E q_m_X8_release 55 [Value.ref am, Value.int (zi y), Value.int (zi (rb (M 1) y 2))] [] (q_mw h am (uM (uA M2 1 (M 1)) 1 ((104 + 36 * y) + 2) (-1))) Q
      refine xv (x_aload_n 56 d_X8_release_55 rfl rfl) ?_
      refine xv (x_getfield 59 d_X8_release_56 rfl f_8_9 (Nat.le_of_ble_eq_true rfl) (Nat.le_of_ble_eq_true rfl) (q_gf_of m_o rfl)) ?_
      refine xv (x_iload_n 60 d_X8_release_59 rfl rfl) ?_
      refine xv (x_ins1 63 (as := [Value.int (zi (rb (M 1) y 2))]) d_X8_release_60 rfl c_8_106 rfl (Nat.le_of_ble_eq_true rfl) (Nat.le_of_ble_eq_true rfl) (Nat.le_of_ble_eq_true rfl) rfl (S_X8_order (E := E) (h := h) (am := am) (M := (uM (uA M2 1 (M 1)) 1 ((104 + 36 * y) + 2) (-1))))) ?_
      show Xv E q_m_X8_release 63 [Value.ref am, Value.int (zi y), Value.int (zi (rb (M 1) y 2))] [Value.int (zi (320 + 8 * (rb (M 1) y 2))), Value.ref (am + 1)] (q_mw h am (uM (uA M2 1 (M 1)) 1 ((104 + 36 * y) + 2) (-1))) Q
      refine xv (x_iconst 64 d_X8_release_63 rfl) ?_
      refine xv (x_iadd 65 d_X8_release_64 rfl) ?_
      refine xv (x_iconst 66 d_X8_release_65 rfl) ?_
      refine xv (x_iastore 67 d_X8_release_66 rfl (m_s1 (by omega) (by omega))) ?_
      show Xv E q_m_X8_release 67 [Value.ref am, Value.int (zi y), Value.int (zi (rb (M 1) y 2))] [] (q_mw h am (uM (uM (uA M2 1 (M 1)) 1 ((104 + 36 * y) + 2) (-1)) 1 ((320 + 8 * (rb (M 1) y 2)) + 3) (-1))) Q
      refine xv (x_aload_n 68 d_X8_release_67 rfl rfl) ?_
      refine xv (x_getfield 71 d_X8_release_68 rfl f_8_9 (Nat.le_of_ble_eq_true rfl) (Nat.le_of_ble_eq_true rfl) (q_gf_of m_o rfl)) ?_
      refine xv (x_iload_n 72 d_X8_release_71 rfl rfl) ?_
      refine xv (x_ins1 75 (as := [Value.int (zi (rb (M 1) y 2))]) d_X8_release_72 rfl c_8_106 rfl (Nat.le_of_ble_eq_true rfl) (Nat.le_of_ble_eq_true rfl) (Nat.le_of_ble_eq_true rfl) rfl (S_X8_order (E := E) (h := h) (am := am) (M := (uM (uM (uA M2 1 (M 1)) 1 ((104 + 36 * y) + 2) (-1)) 1 ((320 + 8 * (rb (M 1) y 2)) + 3) (-1))))) ?_
      show Xv E q_m_X8_release 75 [Value.ref am, Value.int (zi y), Value.int (zi (rb (M 1) y 2))] [Value.int (zi (320 + 8 * (rb (M 1) y 2))), Value.ref (am + 1)] (q_mw h am (uM (uM (uA M2 1 (M 1)) 1 ((104 + 36 * y) + 2) (-1)) 1 ((320 + 8 * (rb (M 1) y 2)) + 3) (-1))) Q
      refine xv (x_iconst 76 d_X8_release_75 rfl) ?_
      refine xv (x_iadd 77 d_X8_release_76 rfl) ?_
      refine xv (x_iconst 78 d_X8_release_77 rfl) ?_
      refine xv (x_iastore 79 d_X8_release_78 rfl (m_s1 (by omega) (by omega))) ?_
      show Xv E q_m_X8_release 79 [Value.ref am, Value.int (zi y), Value.int (zi (rb (M 1) y 2))] [] (q_mw h am (uM (uM (uM (uA M2 1 (M 1)) 1 ((104 + 36 * y) + 2) (-1)) 1 ((320 + 8 * (rb (M 1) y 2)) + 3) (-1)) 1 ((320 + 8 * (rb (M 1) y 2)) + 2) 0)) Q
      refine xv (x_iload_n 80 d_X8_release_79 rfl rfl) ?_
      refine xv_r (x_ireturn d_X8_release_80 rfl rfl) ?_
      have er : mRel (M 1) y = (0, 0) := by unfold mRel; repeat (first | rw [if_pos (by omega)] | rw [if_neg (by omega)])
      refine hQ _ _ ?_
      unfold mMut
      rw [er, if_pos rfl]
      refine ⟨rfl, ?_⟩
      rw [hM2]
      unfold rRel
      simp only [uM_uA]
    · refine xv (x_aload_n 32 d_X8_release_31 rfl rfl) ?_
      refine xv (x_bipush 34 d_X8_release_32 rfl rfl) ?_
      refine xv (x_iconst 35 d_X8_release_34 rfl) ?_
      obtain ⟨r35, h35, e35, z35, y35⟩ := S_X8_refuse (E := E) (h := h) (am := am) (M := (uM M 0 5 0)) (y := 7) (z := (-1)) 
      subst z35
      subst y35
      refine xv (x_inv1 38 (as := [Value.int (zi 7), Value.int (zi (-1))]) d_X8_release_35 rfl c_8_90 rfl (Nat.le_of_ble_eq_true rfl) (Nat.le_of_ble_eq_true rfl) m_o (Nat.le_of_ble_eq_true rfl) (Nat.le_of_ble_eq_true rfl) rfl e35) ?_
      show Xv E q_m_X8_release 38 [Value.ref am, Value.int (zi y), Value.int (zi (rb (M 1) y 2))] [Value.int (zi 0)] (q_mw h am (uM (uM (uM (uM M 0 5 0) 0 5 1) 0 6 7) 0 7 (-1))) Q
      refine xv_r (x_ireturn d_X8_release_38 rfl rfl) ?_
      have er : mRel (M 1) y = (7, (-1)) := by unfold mRel; repeat (first | rw [if_pos (by omega)] | rw [if_neg (by omega)])
      refine hQ _ _ ?_
      unfold mMut
      rw [er]
      exact ⟨rfl, rfl⟩
  · replace k10 := bI_0.mp k10
    refine xv (x_aload_n 14 d_X8_release_13 rfl rfl) ?_
    refine xv (x_iconst 15 d_X8_release_14 rfl) ?_
    refine xv (x_iconst 16 d_X8_release_15 rfl) ?_
    obtain ⟨r16, h16, e16, z16, y16⟩ := S_X8_refuse (E := E) (h := h) (am := am) (M := (uM M 0 5 0)) (y := 1) (z := 0) 
    subst z16
    subst y16
    refine xv (x_inv1 19 (as := [Value.int (zi 1), Value.int (zi 0)]) d_X8_release_16 rfl c_8_90 rfl (Nat.le_of_ble_eq_true rfl) (Nat.le_of_ble_eq_true rfl) m_o (Nat.le_of_ble_eq_true rfl) (Nat.le_of_ble_eq_true rfl) rfl e16) ?_
    show Xv E q_m_X8_release 19 [Value.ref am, Value.int (zi y), Value.null] [Value.int (zi 0)] (q_mw h am (uM (uM (uM (uM M 0 5 0) 0 5 1) 0 6 1) 0 7 0)) Q
    refine xv_r (x_ireturn d_X8_release_19 rfl rfl) ?_
    have er : mRel (M 1) y = (1, 0) := by unfold mRel; repeat (first | rw [if_pos (by omega)] | rw [if_neg (by omega)])
    refine hQ _ _ ?_
    unfold mMut
    rw [er]
    exact ⟨rfl, rfl⟩
theorem S_X8_cancel (hR : Rg (M 1)) (hc : 0 ≤ M 0 4 ∧ M 0 4 ≤ 8) {y : Int} (y0 : -2147483648 ≤ y) (y1 : y < 2147483648) : ∃ r_ h', q_cl E q_m_X8_cancel [Value.ref am, Value.int (zi y)] (q_mw h am M) = some (r_, h') ∧ (r_ = .inl (some (.int (zi (mMut M (mCan (M 1) y) (rb (M 1) y 3) (rCan (M 1) y)).1))) ∧ h' = q_mw h am (mMut M (mCan (M 1) y) (rb (M 1) y 3) (rCan (M 1) y)).2) := by
  suffices K : ∀ Q : q_R → q_H → Prop, (∀ r_ h', (r_ = .inl (some (.int (zi (mMut M (mCan (M 1) y) (rb (M 1) y 3) (rCan (M 1) y)).1))) ∧ h' = q_mw h am (mMut M (mCan (M 1) y) (rb (M 1) y 3) (rCan (M 1) y)).2) → Q r_ h') → Xv E q_m_X8_cancel 0 [Value.ref am, Value.int (zi y), Value.null, Value.null] [] (q_mw h am M) Q from K _ fun _ _ p => p
  intro Q hQ
  have hR0 := hR
  obtain ⟨hr, g0, g1, g3, g4, gc, g5, g6, g7, gk, gl, gr, go⟩ := hR0
  refine xv (x_aload_n 1 d_X8_cancel_0 rfl rfl) ?_
  refine xv (x_iconst 2 d_X8_cancel_1 rfl) ?_
  refine xv (x_putfield 5 d_X8_cancel_2 rfl f_8_49 (Nat.le_of_ble_eq_true rfl) m_pf5 rfl rfl (fun e => absurd e (by decide))) ?_
  show Xv E q_m_X8_cancel 5 [Value.ref am, Value.int (zi y), Value.null, Value.null] [] (q_mw h am (uM M 0 5 0)) Q
  refine xv (x_aload_n 6 d_X8_cancel_5 rfl rfl) ?_
  refine xv (x_iload_n 7 d_X8_cancel_6 rfl rfl) ?_
  refine xv (x_inv1 10 (as := [Value.int (zi y)]) d_X8_cancel_7 rfl c_8_103 rfl (Nat.le_of_ble_eq_true rfl) (Nat.le_of_ble_eq_true rfl) m_o (Nat.le_of_ble_eq_true rfl) (Nat.le_of_ble_eq_true rfl) rfl (S_X8_isRobot (E := E) (h := h) (am := am) (M := (uM M 0 5 0)) hR (by omega) (by omega))) ?_
  show Xv E q_m_X8_cancel 10 [Value.ref am, Value.int (zi y), Value.null, Value.null] [Value.int (zi (bI (isR (M 1) y)))] (q_mw h am (uM M 0 5 0)) Q
  refine v_if_ne 20 13 d_X8_cancel_10 rfl rfl (by have := bI_r (isR (M 1) y); omega) (by have := bI_r (isR (M 1) y); omega) (fun k10 => ?_) (fun k10 => ?_)
  · replace k10 := bI_n0.mp k10
    have gq := gr y k10.1 k10.2
    refine xv (x_aload_n 21 d_X8_cancel_20 rfl rfl) ?_
    refine xv (x_iload_n 22 d_X8_cancel_21 rfl rfl) ?_
    refine xv (x_iconst 23 d_X8_cancel_22 rfl) ?_
    refine xv (x_inv1 26 (as := [Value.int (zi y), Value.int (zi 3)]) d_X8_cancel_23 rfl c_8_79 rfl (Nat.le_of_ble_eq_true rfl) (Nat.le_of_ble_eq_true rfl) m_o (Nat.le_of_ble_eq_true rfl) (Nat.le_of_ble_eq_true rfl) rfl (S_X8_of (E := E) (h := h) (am := am) (M := (uM M 0 5 0)) hR (by omega) (by omega) (by omega) (by omega))) ?_
    have q_1 : -1000000 ≤ rb (M 1) y 3 ∧ rb (M 1) y 3 ≤ 1000000 := hr _
    show Xv E q_m_X8_cancel 26 [Value.ref am, Value.int (zi y), Value.null, Value.null] [Value.int (zi (rb (M 1) y 3))] (q_mw h am (uM M 0 5 0)) Q
    refine xv (x_istore_n 27 d_X8_cancel_26 rfl (Nat.le_of_ble_eq_true rfl)) ?_
    show Xv E q_m_X8_cancel 27 [Value.ref am, Value.int (zi y), Value.int (zi (rb (M 1) y 3)), Value.null] [] (q_mw h am (uM M 0 5 0)) Q
    refine xv (x_iload_n 28 d_X8_cancel_27 rfl rfl) ?_
    refine v_if_ne 39 31 d_X8_cancel_28 rfl rfl (by omega) (by omega) (fun k28 => ?_) (fun k28 => ?_)
    · refine xv (x_aload_n 40 d_X8_cancel_39 rfl rfl) ?_
      refine xv (x_aload_n 41 d_X8_cancel_40 rfl rfl) ?_
      refine xv (x_iload_n 42 d_X8_cancel_41 rfl rfl) ?_
      refine xv (x_iconst 43 d_X8_cancel_42 rfl) ?_
      refine xv (x_inv1 46 (as := [Value.int (zi y), Value.int (zi 0)]) d_X8_cancel_43 rfl c_8_79 rfl (Nat.le_of_ble_eq_true rfl) (Nat.le_of_ble_eq_true rfl) m_o (Nat.le_of_ble_eq_true rfl) (Nat.le_of_ble_eq_true rfl) rfl (S_X8_of (E := E) (h := h) (am := am) (M := (uM M 0 5 0)) hR (by omega) (by omega) (by omega) (by omega))) ?_
      have q_2 : -1000000 ≤ rb (M 1) y 0 ∧ rb (M 1) y 0 ≤ 1000000 := hr _
      show Xv E q_m_X8_cancel 46 [Value.ref am, Value.int (zi y), Value.int (zi (rb (M 1) y 3)), Value.null] [Value.int (zi (rb (M 1) y 0)), Value.ref am] (q_mw h am (uM M 0 5 0)) Q
      refine xv (x_iconst 47 d_X8_cancel_46 rfl) ?_
      refine xv (x_iload_n 48 d_X8_cancel_47 rfl rfl) ?_
      refine xv (x_inv1 51 (as := [Value.int (zi (rb (M 1) y 0)), Value.int (zi 1), Value.int (zi y)]) d_X8_cancel_48 rfl c_8_96 rfl (Nat.le_of_ble_eq_true rfl) (Nat.le_of_ble_eq_true rfl) m_o (Nat.le_of_ble_eq_true rfl) (Nat.le_of_ble_eq_true rfl) rfl (S_X8_willBe (E := E) (h := h) (am := am) (M := (uM M 0 5 0)) hR (by omega) (by omega) (by omega) (by omega) (by omega) (by omega))) ?_
      have q_4 : wbe (M 1) (rb (M 1) y 0) 1 y = -1 ∨ (0 ≤ wbe (M 1) (rb (M 1) y 0) 1 y ∧ wbe (M 1) (rb (M 1) y 0) 1 y < 0 + (((M 1) 3).toNat : Nat)) :=  @fnd_r (wbA (M 1) (rb (M 1) y 0) 1 y) ((M 1) 3).toNat 0
      show Xv E q_m_X8_cancel 51 [Value.ref am, Value.int (zi y), Value.int (zi (rb (M 1) y 3)), Value.null] [Value.int (zi (wbe (M 1) (rb (M 1) y 0) 1 y))] (q_mw h am (uM M 0 5 0)) Q
      refine xv (x_istore_n 52 d_X8_cancel_51 rfl (Nat.le_of_ble_eq_true rfl)) ?_
      show Xv E q_m_X8_cancel 52 [Value.ref am, Value.int (zi y), Value.int (zi (rb (M 1) y 3)), Value.int (zi (wbe (M 1) (rb (M 1) y 0) 1 y))] [] (q_mw h am (uM M 0 5 0)) Q
      refine xv (x_iload_n 53 d_X8_cancel_52 rfl rfl) ?_
      refine v_if_lt 63 56 d_X8_cancel_53 rfl rfl (by omega) (by omega) (fun k53 => ?_) (fun k53 => ?_)
      · refine xv (x_aload_n 64 d_X8_cancel_63 rfl rfl) ?_
        obtain ⟨r64, h64, e64, z64, y64⟩ := S_X8_change (E := E) (h := h) (am := am) (M := (uM M 0 5 0)) hc
        subst z64
        subst y64
        refine xv (x_inv0 67 (as := []) d_X8_cancel_64 rfl c_8_100 rfl (Nat.le_of_ble_eq_true rfl) (Nat.le_of_ble_eq_true rfl) m_o (Nat.le_of_ble_eq_true rfl) (Nat.le_of_ble_eq_true rfl) rfl e64) ?_
        generalize hM2 : mch (uM M 0 5 0) = M2
        have e2 : M2 1 = M 1 := by rw [← hM2]; exact mch_1
        have eM : M2 = uA M2 1 (M 1) := by rw [← e2, uA_self]
        rw [eM]
        show Xv E q_m_X8_cancel 67 [Value.ref am, Value.int (zi y), Value.int (zi (rb (M 1) y 3)), Value.int (zi (wbe (M 1) (rb (M 1) y 0) 1 y))] [] (q_mw h am (uA M2 1 (M 1))) Q
        refine xv (x_aload_n 68 d_X8_cancel_67 rfl rfl) ?_
        refine xv (x_getfield 71 d_X8_cancel_68 rfl f_8_9 (Nat.le_of_ble_eq_true rfl) (Nat.le_of_ble_eq_true rfl) (q_gf_of m_o rfl)) ?_
        refine xv (x_iload_n 72 d_X8_cancel_71 rfl rfl) ?_
        refine xv (x_ins1 75 (as := [Value.int (zi y)]) d_X8_cancel_72 rfl c_8_75 rfl (Nat.le_of_ble_eq_true rfl) (Nat.le_of_ble_eq_true rfl) (Nat.le_of_ble_eq_true rfl) rfl (S_X8_at (E := E) (h := h) (am := am) (M := (uA M2 1 (M 1))))) ?_
        show Xv E q_m_X8_cancel 75 [Value.ref am, Value.int (zi y), Value.int (zi (rb (M 1) y 3)), Value.int (zi (wbe (M 1) (rb (M 1) y 0) 1 y))] [Value.int (zi (104 + 36 * y)), Value.ref (am + 1)] (q_mw h am (uA M2 1 (M 1))) Q
        refine xv (x_iconst 76 d_X8_cancel_75 rfl) ?_
        refine xv (x_iadd 77 d_X8_cancel_76 rfl) ?_
        refine xv (x_iconst 78 d_X8_cancel_77 rfl) ?_
        refine xv (x_iastore 79 d_X8_cancel_78 rfl (m_s1 (by omega) (by omega))) ?_
        show Xv E q_m_X8_cancel 79 [Value.ref am, Value.int (zi y), Value.int (zi (rb (M 1) y 3)), Value.int (zi (wbe (M 1) (rb (M 1) y 0) 1 y))] [] (q_mw h am (uM (uA M2 1 (M 1)) 1 ((104 + 36 * y) + 3) 0)) Q
        refine xv (x_iload_n 80 d_X8_cancel_79 rfl rfl) ?_
        refine xv_r (x_ireturn d_X8_cancel_80 rfl rfl) ?_
        have er : mCan (M 1) y = (0, 0) := by unfold mCan; repeat (first | rw [if_pos (by omega)] | rw [if_neg (by omega)])
        refine hQ _ _ ?_
        unfold mMut
        rw [er, if_pos rfl]
        refine ⟨rfl, ?_⟩
        rw [hM2]
        unfold rCan
        simp only [uM_uA]
      · refine xv (x_aload_n 57 d_X8_cancel_56 rfl rfl) ?_
        refine xv (x_iconst 58 d_X8_cancel_57 rfl) ?_
        refine xv (x_iload_n 59 d_X8_cancel_58 rfl rfl) ?_
        obtain ⟨r59, h59, e59, z59, y59⟩ := S_X8_refuse (E := E) (h := h) (am := am) (M := (uM M 0 5 0)) (y := 5) (z := wbe (M 1) (rb (M 1) y 0) 1 y) 
        subst z59
        subst y59
        refine xv (x_inv1 62 (as := [Value.int (zi 5), Value.int (zi (wbe (M 1) (rb (M 1) y 0) 1 y))]) d_X8_cancel_59 rfl c_8_90 rfl (Nat.le_of_ble_eq_true rfl) (Nat.le_of_ble_eq_true rfl) m_o (Nat.le_of_ble_eq_true rfl) (Nat.le_of_ble_eq_true rfl) rfl e59) ?_
        show Xv E q_m_X8_cancel 62 [Value.ref am, Value.int (zi y), Value.int (zi (rb (M 1) y 3)), Value.int (zi (wbe (M 1) (rb (M 1) y 0) 1 y))] [Value.int (zi 0)] (q_mw h am (uM (uM (uM (uM M 0 5 0) 0 5 1) 0 6 5) 0 7 (wbe (M 1) (rb (M 1) y 0) 1 y))) Q
        refine xv_r (x_ireturn d_X8_cancel_62 rfl rfl) ?_
        have er : mCan (M 1) y = (5, (wbe (M 1) (rb (M 1) y 0) 1 y)) := by unfold mCan; repeat (first | rw [if_pos (by omega)] | rw [if_neg (by omega)])
        refine hQ _ _ ?_
        unfold mMut
        rw [er]
        exact ⟨rfl, rfl⟩
    · refine xv (x_aload_n 32 d_X8_cancel_31 rfl rfl) ?_
      refine xv (x_bipush 34 d_X8_cancel_32 rfl rfl) ?_
      refine xv (x_iconst 35 d_X8_cancel_34 rfl) ?_
      obtain ⟨r35, h35, e35, z35, y35⟩ := S_X8_refuse (E := E) (h := h) (am := am) (M := (uM M 0 5 0)) (y := 14) (z := 0) 
      subst z35
      subst y35
      refine xv (x_inv1 38 (as := [Value.int (zi 14), Value.int (zi 0)]) d_X8_cancel_35 rfl c_8_90 rfl (Nat.le_of_ble_eq_true rfl) (Nat.le_of_ble_eq_true rfl) m_o (Nat.le_of_ble_eq_true rfl) (Nat.le_of_ble_eq_true rfl) rfl e35) ?_
      show Xv E q_m_X8_cancel 38 [Value.ref am, Value.int (zi y), Value.int (zi (rb (M 1) y 3)), Value.null] [Value.int (zi 0)] (q_mw h am (uM (uM (uM (uM M 0 5 0) 0 5 1) 0 6 14) 0 7 0)) Q
      refine xv_r (x_ireturn d_X8_cancel_38 rfl rfl) ?_
      have er : mCan (M 1) y = (14, 0) := by unfold mCan; repeat (first | rw [if_pos (by omega)] | rw [if_neg (by omega)])
      refine hQ _ _ ?_
      unfold mMut
      rw [er]
      exact ⟨rfl, rfl⟩
  · replace k10 := bI_0.mp k10
    refine xv (x_aload_n 14 d_X8_cancel_13 rfl rfl) ?_
    refine xv (x_iconst 15 d_X8_cancel_14 rfl) ?_
    refine xv (x_iconst 16 d_X8_cancel_15 rfl) ?_
    obtain ⟨r16, h16, e16, z16, y16⟩ := S_X8_refuse (E := E) (h := h) (am := am) (M := (uM M 0 5 0)) (y := 1) (z := 0) 
    subst z16
    subst y16
    refine xv (x_inv1 19 (as := [Value.int (zi 1), Value.int (zi 0)]) d_X8_cancel_16 rfl c_8_90 rfl (Nat.le_of_ble_eq_true rfl) (Nat.le_of_ble_eq_true rfl) m_o (Nat.le_of_ble_eq_true rfl) (Nat.le_of_ble_eq_true rfl) rfl e16) ?_
    show Xv E q_m_X8_cancel 19 [Value.ref am, Value.int (zi y), Value.null, Value.null] [Value.int (zi 0)] (q_mw h am (uM (uM (uM (uM M 0 5 0) 0 5 1) 0 6 1) 0 7 0)) Q
    refine xv_r (x_ireturn d_X8_cancel_19 rfl rfl) ?_
    have er : mCan (M 1) y = (1, 0) := by unfold mCan; repeat (first | rw [if_pos (by omega)] | rw [if_neg (by omega)])
    refine hQ _ _ ?_
    unfold mMut
    rw [er]
    exact ⟨rfl, rfl⟩
theorem S_X8_set (hR : Rg (M 1)) (hc : 0 ≤ M 0 4 ∧ M 0 4 ≤ 8) {y z : Int} (y0 : -2147483648 ≤ y) (y1 : y < 2147483648) (z0 : -2147483648 ≤ z) (z1 : z < 2147483648) : ∃ r_ h', q_cl E q_m_X8_set [Value.ref am, Value.int (zi y), Value.int (zi z)] (q_mw h am M) = some (r_, h') ∧ (r_ = .inl (some (.int (zi (mMut M (mSet y z) (M 1 (5 + y)) (rSet (M 1) y z)).1))) ∧ h' = q_mw h am (mMut M (mSet y z) (M 1 (5 + y)) (rSet (M 1) y z)).2) := by
  suffices K : ∀ Q : q_R → q_H → Prop, (∀ r_ h', (r_ = .inl (some (.int (zi (mMut M (mSet y z) (M 1 (5 + y)) (rSet (M 1) y z)).1))) ∧ h' = q_mw h am (mMut M (mSet y z) (M 1 (5 + y)) (rSet (M 1) y z)).2) → Q r_ h') → Xv E q_m_X8_set 0 [Value.ref am, Value.int (zi y), Value.int (zi z), Value.null] [] (q_mw h am M) Q from K _ fun _ _ p => p
  intro Q hQ
  have hR0 := hR
  obtain ⟨hr, g0, g1, g3, g4, gc, g5, g6, g7, gk, gl, gr, go⟩ := hR0
  refine xv (x_aload_n 1 d_X8_set_0 rfl rfl) ?_
  refine xv (x_iconst 2 d_X8_set_1 rfl) ?_
  refine xv (x_putfield 5 d_X8_set_2 rfl f_8_49 (Nat.le_of_ble_eq_true rfl) m_pf5 rfl rfl (fun e => absurd e (by decide))) ?_
  show Xv E q_m_X8_set 5 [Value.ref am, Value.int (zi y), Value.int (zi z), Value.null] [] (q_mw h am (uM M 0 5 0)) Q
  refine xv (x_iload_n 6 d_X8_set_5 rfl rfl) ?_
  refine xv (x_iconst 7 d_X8_set_6 rfl) ?_
  refine xv (x_iconst 8 d_X8_set_7 rfl) ?_
  refine xv (x_ins1 11 (as := [Value.int (zi y), Value.int (zi 0), Value.int (zi 2)]) d_X8_set_8 rfl c_8_71 rfl (Nat.le_of_ble_eq_true rfl) (Nat.le_of_ble_eq_true rfl) (Nat.le_of_ble_eq_true rfl) rfl (S_X8_in (E := E) (h := h) (am := am) (M := (uM M 0 5 0)) (by omega) (by omega) (by omega) (by omega) (by omega) (by omega))) ?_
  show Xv E q_m_X8_set 11 [Value.ref am, Value.int (zi y), Value.int (zi z), Value.null] [Value.int (zi (bI (inn y 0 2)))] (q_mw h am (uM M 0 5 0)) Q
  refine v_if_eq 26 14 d_X8_set_11 rfl rfl (by have := bI_r (inn y 0 2); omega) (by have := bI_r (inn y 0 2); omega) (fun k11 => ?_) (fun k11 => ?_)
  · replace k11 := bI_0.mp k11
    refine xv (x_aload_n 27 d_X8_set_26 rfl rfl) ?_
    refine xv (x_iconst 28 d_X8_set_27 rfl) ?_
    refine xv (x_iconst 29 d_X8_set_28 rfl) ?_
    obtain ⟨r29, h29, e29, z29, y29⟩ := S_X8_refuse (E := E) (h := h) (am := am) (M := (uM M 0 5 0)) (y := 2) (z := 0) 
    subst z29
    subst y29
    refine xv (x_inv1 32 (as := [Value.int (zi 2), Value.int (zi 0)]) d_X8_set_29 rfl c_8_90 rfl (Nat.le_of_ble_eq_true rfl) (Nat.le_of_ble_eq_true rfl) m_o (Nat.le_of_ble_eq_true rfl) (Nat.le_of_ble_eq_true rfl) rfl e29) ?_
    show Xv E q_m_X8_set 32 [Value.ref am, Value.int (zi y), Value.int (zi z), Value.null] [Value.int (zi 0)] (q_mw h am (uM (uM (uM (uM M 0 5 0) 0 5 1) 0 6 2) 0 7 0)) Q
    refine xv_r (x_ireturn d_X8_set_32 rfl rfl) ?_
    have er : mSet y z = (2, 0) := by unfold mSet; repeat (first | rw [if_pos (by omega)] | rw [if_neg (by omega)])
    refine hQ _ _ ?_
    unfold mMut
    rw [er]
    exact ⟨rfl, rfl⟩
  · replace k11 := bI_n0.mp k11
    refine xv (x_iload_n 15 d_X8_set_14 rfl rfl) ?_
    refine xv (x_iconst 16 d_X8_set_15 rfl) ?_
    refine xv (x_iload_n 17 d_X8_set_16 rfl rfl) ?_
    refine xv (x_ins1 20 (as := [Value.int (zi y)]) d_X8_set_17 rfl c_8_121 rfl (Nat.le_of_ble_eq_true rfl) (Nat.le_of_ble_eq_true rfl) (Nat.le_of_ble_eq_true rfl) rfl (S_X8_mostOf (E := E) (h := h) (am := am) (M := (uM M 0 5 0)) (by omega) (by omega))) ?_
    have q_1 : 3 ≤ mst y ∧ mst y ≤ 30 := by unfold mst; split; omega; split <;> omega
    show Xv E q_m_X8_set 20 [Value.ref am, Value.int (zi y), Value.int (zi z), Value.null] [Value.int (zi (mst y)), Value.int (zi 1), Value.int (zi z)] (q_mw h am (uM M 0 5 0)) Q
    refine xv (x_ins1 23 (as := [Value.int (zi z), Value.int (zi 1), Value.int (zi (mst y))]) d_X8_set_20 rfl c_8_71 rfl (Nat.le_of_ble_eq_true rfl) (Nat.le_of_ble_eq_true rfl) (Nat.le_of_ble_eq_true rfl) rfl (S_X8_in (E := E) (h := h) (am := am) (M := (uM M 0 5 0)) (by omega) (by omega) (by omega) (by omega) (by omega) (by omega))) ?_
    show Xv E q_m_X8_set 23 [Value.ref am, Value.int (zi y), Value.int (zi z), Value.null] [Value.int (zi (bI (inn z 1 (mst y))))] (q_mw h am (uM M 0 5 0)) Q
    refine v_if_ne 33 26 d_X8_set_23 rfl rfl (by have := bI_r (inn z 1 (mst y)); omega) (by have := bI_r (inn z 1 (mst y)); omega) (fun k23 => ?_) (fun k23 => ?_)
    · replace k23 := bI_n0.mp k23
      refine xv (x_aload_n 34 d_X8_set_33 rfl rfl) ?_
      obtain ⟨r34, h34, e34, z34, y34⟩ := S_X8_change (E := E) (h := h) (am := am) (M := (uM M 0 5 0)) hc
      subst z34
      subst y34
      refine xv (x_inv0 37 (as := []) d_X8_set_34 rfl c_8_100 rfl (Nat.le_of_ble_eq_true rfl) (Nat.le_of_ble_eq_true rfl) m_o (Nat.le_of_ble_eq_true rfl) (Nat.le_of_ble_eq_true rfl) rfl e34) ?_
      generalize hM2 : mch (uM M 0 5 0) = M2
      have e2 : M2 1 = M 1 := by rw [← hM2]; exact mch_1
      have eM : M2 = uA M2 1 (M 1) := by rw [← e2, uA_self]
      rw [eM]
      show Xv E q_m_X8_set 37 [Value.ref am, Value.int (zi y), Value.int (zi z), Value.null] [] (q_mw h am (uA M2 1 (M 1))) Q
      refine xv (x_aload_n 38 d_X8_set_37 rfl rfl) ?_
      refine xv (x_getfield 41 d_X8_set_38 rfl f_8_9 (Nat.le_of_ble_eq_true rfl) (Nat.le_of_ble_eq_true rfl) (q_gf_of m_o rfl)) ?_
      refine xv (x_iconst 42 d_X8_set_41 rfl) ?_
      refine xv (x_iload_n 43 d_X8_set_42 rfl rfl) ?_
      refine xv (x_iadd 44 d_X8_set_43 rfl) ?_
      refine xv (x_iaload 45 d_X8_set_44 rfl ((m_g1 (by omega) (by omega)).trans (rfl : _ = some (Value.int (zi ((M 1) (5 + y))))))) ?_
      have q_2 : -1000000 ≤ (M 1) (5 + y) ∧ (M 1) (5 + y) ≤ 1000000 := hr _
      refine xv (x_istore_n 46 d_X8_set_45 rfl (Nat.le_of_ble_eq_true rfl)) ?_
      show Xv E q_m_X8_set 46 [Value.ref am, Value.int (zi y), Value.int (zi z), Value.int (zi ((M 1) (5 + y)))] [] (q_mw h am (uA M2 1 (M 1))) Q
      refine xv (x_aload_n 47 d_X8_set_46 rfl rfl) ?_
      refine xv (x_getfield 50 d_X8_set_47 rfl f_8_9 (Nat.le_of_ble_eq_true rfl) (Nat.le_of_ble_eq_true rfl) (q_gf_of m_o rfl)) ?_
      refine xv (x_iconst 51 d_X8_set_50 rfl) ?_
      refine xv (x_iload_n 52 d_X8_set_51 rfl rfl) ?_
      refine xv (x_iadd 53 d_X8_set_52 rfl) ?_
      refine xv (x_iload_n 54 d_X8_set_53 rfl rfl) ?_
      refine xv (x_iastore 55 d_X8_set_54 rfl (m_s1 (by omega) (by omega))) ?_
      show Xv E q_m_X8_set 55 [Value.ref am, Value.int (zi y), Value.int (zi z), Value.int (zi ((M 1) (5 + y)))] [] (q_mw h am (uM (uA M2 1 (M 1)) 1 (5 + y) z)) Q
      refine xv (x_iload_n 56 d_X8_set_55 rfl rfl) ?_
      refine xv_r (x_ireturn d_X8_set_56 rfl rfl) ?_
      have er : mSet y z = (0, 0) := by unfold mSet; repeat (first | rw [if_pos (by omega)] | rw [if_neg (by omega)])
      refine hQ _ _ ?_
      unfold mMut
      rw [er, if_pos rfl]
      refine ⟨rfl, ?_⟩
      rw [hM2]
      unfold rSet
      simp only [uM_uA]
    · replace k23 := bI_0.mp k23
      refine xv (x_aload_n 27 d_X8_set_26 rfl rfl) ?_
      refine xv (x_iconst 28 d_X8_set_27 rfl) ?_
      refine xv (x_iconst 29 d_X8_set_28 rfl) ?_
      obtain ⟨r29, h29, e29, z29, y29⟩ := S_X8_refuse (E := E) (h := h) (am := am) (M := (uM M 0 5 0)) (y := 2) (z := 0) 
      subst z29
      subst y29
      refine xv (x_inv1 32 (as := [Value.int (zi 2), Value.int (zi 0)]) d_X8_set_29 rfl c_8_90 rfl (Nat.le_of_ble_eq_true rfl) (Nat.le_of_ble_eq_true rfl) m_o (Nat.le_of_ble_eq_true rfl) (Nat.le_of_ble_eq_true rfl) rfl e29) ?_
      show Xv E q_m_X8_set 32 [Value.ref am, Value.int (zi y), Value.int (zi z), Value.null] [Value.int (zi 0)] (q_mw h am (uM (uM (uM (uM M 0 5 0) 0 5 1) 0 6 2) 0 7 0)) Q
      refine xv_r (x_ireturn d_X8_set_32 rfl rfl) ?_
      have er : mSet y z = (2, 0) := by unfold mSet; repeat (first | rw [if_pos (by omega)] | rw [if_neg (by omega)])
      refine hQ _ _ ?_
      unfold mMut
      rw [er]
      exact ⟨rfl, rfl⟩
end RO
