/-! the reference: a plan's end (printed by program) -/
section RW
variable {E : q_E} {h : q_H} {am : Nat} {M M2 : q_Im} {l g : Int → Int} {y k : Int}
def enL (l : Int → Int) (y : Int) : Int → Int := if rb l y 2 < 0 then l else if ob l (rb l y 2) 2 < ob l (rb l y 2) 1 then u1 l (320 + 8 * rb l y 2 + 2) (ob l (rb l y 2) 2 + (if ob l (rb l y 2) (5 + ob l (rb l y 2) 2) = rb l y 0 then 1 else 0)) else if l (8 + rb l y 0) = 3 then u1 (u1 (u1 l (320 + 8 * rb l y 2 + 4) (l 2)) (320 + 8 * rb l y 2 + 3) (-1)) (104 + 36 * y + 2) (-1) else l
def enV (l : Int → Int) (y : Int) : Int := if rb l y 2 < 0 then 0 else if ob l (rb l y 2) 2 < ob l (rb l y 2) 1 then 0 else if l (8 + rb l y 0) = 3 then 1 else 0
theorem S_X8_ends (hR : Rg (M 1)) {y : Int} (hy : isR (M 1) y) : ∃ r_ h', q_cl E q_m_X8_ends [Value.ref am, Value.int (zi y)] (q_mw h am M) = some (r_, h') ∧ (r_ = .inl (some (.int (zi (enV (M 1) y)))) ∧ h' = q_mw h am (uA M 1 (enL (M 1) y))) := by
  suffices K : ∀ Q : q_R → q_H → Prop, (∀ r_ h', (r_ = .inl (some (.int (zi (enV (M 1) y)))) ∧ h' = q_mw h am (uA M 1 (enL (M 1) y))) → Q r_ h') → Xv E q_m_X8_ends 0 [Value.ref am, Value.int (zi y), Value.null, Value.null, Value.null] [] (q_mw h am M) Q from K _ fun _ _ p => p
  intro Q hQ
  have hR0 := hR
  obtain ⟨hr, g0, g1, g3, g4, gc, g5, g6, g7, gk, gl, gr, go⟩ := hR0
  have gq := gr y hy.1 hy.2
  refine xv (x_aload_n 1 d_X8_ends_0 rfl rfl) ?_
  refine xv (x_iload_n 2 d_X8_ends_1 rfl rfl) ?_
  refine xv (x_iconst 3 d_X8_ends_2 rfl) ?_
  refine xv (x_inv1 6 (as := [Value.int (zi y), Value.int (zi 2)]) d_X8_ends_3 rfl c_8_79 rfl (Nat.le_of_ble_eq_true rfl) (Nat.le_of_ble_eq_true rfl) m_o (Nat.le_of_ble_eq_true rfl) (Nat.le_of_ble_eq_true rfl) rfl (S_X8_of (E := E) (h := h) (am := am) (M := M) hR (by omega) (by omega) (by omega) (by omega))) ?_
  have q_1 : -1000000 ≤ rb (M 1) y 2 ∧ rb (M 1) y 2 ≤ 1000000 := hr _
  show Xv E q_m_X8_ends 6 [Value.ref am, Value.int (zi y), Value.null, Value.null, Value.null] [Value.int (zi (rb (M 1) y 2))] (q_mw h am M) Q
  refine xv (x_istore_n 7 d_X8_ends_6 rfl (Nat.le_of_ble_eq_true rfl)) ?_
  show Xv E q_m_X8_ends 7 [Value.ref am, Value.int (zi y), Value.int (zi (rb (M 1) y 2)), Value.null, Value.null] [] (q_mw h am M) Q
  refine xv (x_iload_n 8 d_X8_ends_7 rfl rfl) ?_
  refine v_if_ge 13 11 d_X8_ends_8 rfl rfl (by omega) (by omega) (fun k8 => ?_) (fun k8 => ?_)
  · have gz := (go (rb (M 1) y 2) (by omega) (by omega)).1
    refine xv (x_aload_n 14 d_X8_ends_13 rfl rfl) ?_
    refine xv (x_iload_n 15 d_X8_ends_14 rfl rfl) ?_
    refine xv (x_iconst 16 d_X8_ends_15 rfl) ?_
    refine xv (x_inv1 19 (as := [Value.int (zi y), Value.int (zi 0)]) d_X8_ends_16 rfl c_8_79 rfl (Nat.le_of_ble_eq_true rfl) (Nat.le_of_ble_eq_true rfl) m_o (Nat.le_of_ble_eq_true rfl) (Nat.le_of_ble_eq_true rfl) rfl (S_X8_of (E := E) (h := h) (am := am) (M := M) hR (by omega) (by omega) (by omega) (by omega))) ?_
    have q_2 : -1000000 ≤ rb (M 1) y 0 ∧ rb (M 1) y 0 ≤ 1000000 := hr _
    show Xv E q_m_X8_ends 19 [Value.ref am, Value.int (zi y), Value.int (zi (rb (M 1) y 2)), Value.null, Value.null] [Value.int (zi (rb (M 1) y 0))] (q_mw h am M) Q
    refine xv (x_istore_n 20 d_X8_ends_19 rfl (Nat.le_of_ble_eq_true rfl)) ?_
    show Xv E q_m_X8_ends 20 [Value.ref am, Value.int (zi y), Value.int (zi (rb (M 1) y 2)), Value.int (zi (rb (M 1) y 0)), Value.null] [] (q_mw h am M) Q
    refine xv (x_aload_n 21 d_X8_ends_20 rfl rfl) ?_
    refine xv (x_iload_n 22 d_X8_ends_21 rfl rfl) ?_
    refine xv (x_iconst 23 d_X8_ends_22 rfl) ?_
    refine xv (x_inv1 26 (as := [Value.int (zi (rb (M 1) y 2)), Value.int (zi 2)]) d_X8_ends_23 rfl c_8_109 rfl (Nat.le_of_ble_eq_true rfl) (Nat.le_of_ble_eq_true rfl) m_o (Nat.le_of_ble_eq_true rfl) (Nat.le_of_ble_eq_true rfl) rfl (S_X8_get (E := E) (h := h) (am := am) (M := M) hR (by omega) (by omega) (by omega) (by omega))) ?_
    have q_3 : -1000000 ≤ ob (M 1) (rb (M 1) y 2) 2 ∧ ob (M 1) (rb (M 1) y 2) 2 ≤ 1000000 := hr _
    show Xv E q_m_X8_ends 26 [Value.ref am, Value.int (zi y), Value.int (zi (rb (M 1) y 2)), Value.int (zi (rb (M 1) y 0)), Value.null] [Value.int (zi (ob (M 1) (rb (M 1) y 2) 2))] (q_mw h am M) Q
    refine xv (x_istore 28 d_X8_ends_26 rfl (Nat.le_of_ble_eq_true rfl)) ?_
    show Xv E q_m_X8_ends 28 [Value.ref am, Value.int (zi y), Value.int (zi (rb (M 1) y 2)), Value.int (zi (rb (M 1) y 0)), Value.int (zi (ob (M 1) (rb (M 1) y 2) 2))] [] (q_mw h am M) Q
    refine xv (x_iload 30 d_X8_ends_28 rfl rfl) ?_
    refine xv (x_aload_n 31 d_X8_ends_30 rfl rfl) ?_
    refine xv (x_iload_n 32 d_X8_ends_31 rfl rfl) ?_
    refine xv (x_iconst 33 d_X8_ends_32 rfl) ?_
    refine xv (x_inv1 36 (as := [Value.int (zi (rb (M 1) y 2)), Value.int (zi 1)]) d_X8_ends_33 rfl c_8_109 rfl (Nat.le_of_ble_eq_true rfl) (Nat.le_of_ble_eq_true rfl) m_o (Nat.le_of_ble_eq_true rfl) (Nat.le_of_ble_eq_true rfl) rfl (S_X8_get (E := E) (h := h) (am := am) (M := M) hR (by omega) (by omega) (by omega) (by omega))) ?_
    have q_4 : -1000000 ≤ ob (M 1) (rb (M 1) y 2) 1 ∧ ob (M 1) (rb (M 1) y 2) 1 ≤ 1000000 := hr _
    show Xv E q_m_X8_ends 36 [Value.ref am, Value.int (zi y), Value.int (zi (rb (M 1) y 2)), Value.int (zi (rb (M 1) y 0)), Value.int (zi (ob (M 1) (rb (M 1) y 2) 2))] [Value.int (zi (ob (M 1) (rb (M 1) y 2) 1)), Value.int (zi (ob (M 1) (rb (M 1) y 2) 2))] (q_mw h am M) Q
    refine v_icmp_ge 73 39 d_X8_ends_36 rfl rfl (by omega) (by omega) (by omega) (by omega) (fun k36 => ?_) (fun k36 => ?_)
    · refine xv (x_aload_n 74 d_X8_ends_73 rfl rfl) ?_
      refine xv (x_getfield 77 d_X8_ends_74 rfl f_8_9 (Nat.le_of_ble_eq_true rfl) (Nat.le_of_ble_eq_true rfl) (q_gf_of m_o rfl)) ?_
      refine xv (x_bipush 79 d_X8_ends_77 rfl rfl) ?_
      refine xv (x_iload_n 80 d_X8_ends_79 rfl rfl) ?_
      refine xv (x_iadd 81 d_X8_ends_80 rfl) ?_
      refine xv (x_iaload 82 d_X8_ends_81 rfl ((m_g1 (by omega) (by omega)).trans (rfl : _ = some (Value.int (zi ((M 1) (8 + (rb (M 1) y 0)))))))) ?_
      have q_5 : -1000000 ≤ (M 1) (8 + (rb (M 1) y 0)) ∧ (M 1) (8 + (rb (M 1) y 0)) ≤ 1000000 := hr _
      refine xv (x_iconst 83 d_X8_ends_82 rfl) ?_
      refine v_icmp_eq 88 86 d_X8_ends_83 rfl rfl (by omega) (by omega) (by omega) (by omega) (fun k83 => ?_) (fun k83 => ?_)
      · refine xv (x_aload_n 89 d_X8_ends_88 rfl rfl) ?_
        refine xv (x_getfield 92 d_X8_ends_89 rfl f_8_9 (Nat.le_of_ble_eq_true rfl) (Nat.le_of_ble_eq_true rfl) (q_gf_of m_o rfl)) ?_
        refine xv (x_iload_n 93 d_X8_ends_92 rfl rfl) ?_
        refine xv (x_ins1 96 (as := [Value.int (zi (rb (M 1) y 2))]) d_X8_ends_93 rfl c_8_106 rfl (Nat.le_of_ble_eq_true rfl) (Nat.le_of_ble_eq_true rfl) (Nat.le_of_ble_eq_true rfl) rfl (S_X8_order (E := E) (h := h) (am := am) (M := M))) ?_
        show Xv E q_m_X8_ends 96 [Value.ref am, Value.int (zi y), Value.int (zi (rb (M 1) y 2)), Value.int (zi (rb (M 1) y 0)), Value.int (zi (ob (M 1) (rb (M 1) y 2) 2))] [Value.int (zi (320 + 8 * (rb (M 1) y 2))), Value.ref (am + 1)] (q_mw h am M) Q
        refine xv (x_iconst 97 d_X8_ends_96 rfl) ?_
        refine xv (x_iadd 98 d_X8_ends_97 rfl) ?_
        refine xv (x_aload_n 99 d_X8_ends_98 rfl rfl) ?_
        refine xv (x_getfield 102 d_X8_ends_99 rfl f_8_9 (Nat.le_of_ble_eq_true rfl) (Nat.le_of_ble_eq_true rfl) (q_gf_of m_o rfl)) ?_
        refine xv (x_iconst 103 d_X8_ends_102 rfl) ?_
        refine xv (x_iaload 104 d_X8_ends_103 rfl ((m_g1 (by omega) (by omega)).trans (rfl : _ = some (Value.int (zi ((M 1) 2)))))) ?_
        have q_6 : -1000000 ≤ (M 1) 2 ∧ (M 1) 2 ≤ 1000000 := hr _
        refine xv (x_iastore 105 d_X8_ends_104 rfl (m_s1 (by omega) (by omega))) ?_
        show Xv E q_m_X8_ends 105 [Value.ref am, Value.int (zi y), Value.int (zi (rb (M 1) y 2)), Value.int (zi (rb (M 1) y 0)), Value.int (zi (ob (M 1) (rb (M 1) y 2) 2))] [] (q_mw h am (uM M 1 ((320 + 8 * (rb (M 1) y 2)) + 4) ((M 1) 2))) Q
        refine xv (x_aload_n 106 d_X8_ends_105 rfl rfl) ?_
        refine xv (x_getfield 109 d_X8_ends_106 rfl f_8_9 (Nat.le_of_ble_eq_true rfl) (Nat.le_of_ble_eq_true rfl) (q_gf_of m_o rfl)) ?_
        refine xv (x_iload_n 110 d_X8_ends_109 rfl rfl) ?_
        refine xv (x_ins1 113 (as := [Value.int (zi (rb (M 1) y 2))]) d_X8_ends_110 rfl c_8_106 rfl (Nat.le_of_ble_eq_true rfl) (Nat.le_of_ble_eq_true rfl) (Nat.le_of_ble_eq_true rfl) rfl (S_X8_order (E := E) (h := h) (am := am) (M := (uM M 1 ((320 + 8 * (rb (M 1) y 2)) + 4) ((M 1) 2))))) ?_
        show Xv E q_m_X8_ends 113 [Value.ref am, Value.int (zi y), Value.int (zi (rb (M 1) y 2)), Value.int (zi (rb (M 1) y 0)), Value.int (zi (ob (M 1) (rb (M 1) y 2) 2))] [Value.int (zi (320 + 8 * (rb (M 1) y 2))), Value.ref (am + 1)] (q_mw h am (uM M 1 ((320 + 8 * (rb (M 1) y 2)) + 4) ((M 1) 2))) Q
        refine xv (x_iconst 114 d_X8_ends_113 rfl) ?_
        refine xv (x_iadd 115 d_X8_ends_114 rfl) ?_
        refine xv (x_iconst 116 d_X8_ends_115 rfl) ?_
        refine xv (x_iastore 117 d_X8_ends_116 rfl (m_s1 (by omega) (by omega))) ?_
        show Xv E q_m_X8_ends 117 [Value.ref am, Value.int (zi y), Value.int (zi (rb (M 1) y 2)), Value.int (zi (rb (M 1) y 0)), Value.int (zi (ob (M 1) (rb (M 1) y 2) 2))] [] (q_mw h am (uM (uM M 1 ((320 + 8 * (rb (M 1) y 2)) + 4) ((M 1) 2)) 1 ((320 + 8 * (rb (M 1) y 2)) + 3) (-1))) Q
        refine xv (x_aload_n 118 d_X8_ends_117 rfl rfl) ?_
        refine xv (x_getfield 121 d_X8_ends_118 rfl f_8_9 (Nat.le_of_ble_eq_true rfl) (Nat.le_of_ble_eq_true rfl) (q_gf_of m_o rfl)) ?_
        refine xv (x_iload_n 122 d_X8_ends_121 rfl rfl) ?_
        refine xv (x_ins1 125 (as := [Value.int (zi y)]) d_X8_ends_122 rfl c_8_75 rfl (Nat.le_of_ble_eq_true rfl) (Nat.le_of_ble_eq_true rfl) (Nat.le_of_ble_eq_true rfl) rfl (S_X8_at (E := E) (h := h) (am := am) (M := (uM (uM M 1 ((320 + 8 * (rb (M 1) y 2)) + 4) ((M 1) 2)) 1 ((320 + 8 * (rb (M 1) y 2)) + 3) (-1))))) ?_
        show Xv E q_m_X8_ends 125 [Value.ref am, Value.int (zi y), Value.int (zi (rb (M 1) y 2)), Value.int (zi (rb (M 1) y 0)), Value.int (zi (ob (M 1) (rb (M 1) y 2) 2))] [Value.int (zi (104 + 36 * y)), Value.ref (am + 1)] (q_mw h am (uM (uM M 1 ((320 + 8 * (rb (M 1) y 2)) + 4) ((M 1) 2)) 1 ((320 + 8 * (rb (M 1) y 2)) + 3) (-1))) Q
        refine xv (x_iconst 126 d_X8_ends_125 rfl) ?_
        refine xv (x_iadd 127 d_X8_ends_126 rfl) ?_
        refine xv (x_iconst 128 d_X8_ends_127 rfl) ?_
        refine xv (x_iastore 129 d_X8_ends_128 rfl (m_s1 (by omega) (by omega))) ?_
        show Xv E q_m_X8_ends 129 [Value.ref am, Value.int (zi y), Value.int (zi (rb (M 1) y 2)), Value.int (zi (rb (M 1) y 0)), Value.int (zi (ob (M 1) (rb (M 1) y 2) 2))] [] (q_mw h am (uM (uM (uM M 1 ((320 + 8 * (rb (M 1) y 2)) + 4) ((M 1) 2)) 1 ((320 + 8 * (rb (M 1) y 2)) + 3) (-1)) 1 ((104 + 36 * y) + 2) (-1))) Q
        refine xv (x_iconst 130 d_X8_ends_129 rfl) ?_
        refine xv_r (x_ireturn d_X8_ends_130 rfl rfl) ?_
        have ev : enV (M 1) y = 1 := by unfold enV; repeat (first | rw [if_pos (by omega)] | rw [if_neg (by omega)])
        have el : enL (M 1) y = (u1 (u1 (u1 (M 1) ((320 + 8 * (rb (M 1) y 2)) + 4) ((M 1) 2)) ((320 + 8 * (rb (M 1) y 2)) + 3) (-1)) ((104 + 36 * y) + 2) (-1)) := by unfold enL; repeat (first | rw [if_pos (by omega)] | rw [if_neg (by omega)])
        refine hQ _ _ ⟨by rw [ev], ?_⟩
        rw [el]
        try (first | rfl | rw [uA_self] | simp only [uM_uA, uA_uA, uA_eq])
      · refine xv (x_iconst 87 d_X8_ends_86 rfl) ?_
        refine xv_r (x_ireturn d_X8_ends_87 rfl rfl) ?_
        have ev : enV (M 1) y = 0 := by unfold enV; repeat (first | rw [if_pos (by omega)] | rw [if_neg (by omega)])
        have el : enL (M 1) y = (M 1) := by unfold enL; repeat (first | rw [if_pos (by omega)] | rw [if_neg (by omega)])
        refine hQ _ _ ⟨by rw [ev], ?_⟩
        rw [el]
        try (first | rfl | rw [uA_self] | simp only [uM_uA, uA_uA, uA_eq])
    · refine xv (x_aload_n 40 d_X8_ends_39 rfl rfl) ?_
      refine xv (x_getfield 43 d_X8_ends_40 rfl f_8_9 (Nat.le_of_ble_eq_true rfl) (Nat.le_of_ble_eq_true rfl) (q_gf_of m_o rfl)) ?_
      refine xv (x_iload_n 44 d_X8_ends_43 rfl rfl) ?_
      refine xv (x_ins1 47 (as := [Value.int (zi (rb (M 1) y 2))]) d_X8_ends_44 rfl c_8_106 rfl (Nat.le_of_ble_eq_true rfl) (Nat.le_of_ble_eq_true rfl) (Nat.le_of_ble_eq_true rfl) rfl (S_X8_order (E := E) (h := h) (am := am) (M := M))) ?_
      show Xv E q_m_X8_ends 47 [Value.ref am, Value.int (zi y), Value.int (zi (rb (M 1) y 2)), Value.int (zi (rb (M 1) y 0)), Value.int (zi (ob (M 1) (rb (M 1) y 2) 2))] [Value.int (zi (320 + 8 * (rb (M 1) y 2))), Value.ref (am + 1)] (q_mw h am M) Q
      refine xv (x_iconst 48 d_X8_ends_47 rfl) ?_
      refine xv (x_iadd 49 d_X8_ends_48 rfl) ?_
      refine xv (x_dup2 50 d_X8_ends_49 rfl rfl rfl) ?_
      refine xv (x_iaload 51 d_X8_ends_50 rfl ((m_g1 (by omega) (by omega)).trans (rfl : _ = some (Value.int (zi (ob (M 1) (rb (M 1) y 2) 2)))))) ?_
      have q_7 : -1000000 ≤ ob (M 1) (rb (M 1) y 2) 2 ∧ ob (M 1) (rb (M 1) y 2) 2 ≤ 1000000 := hr _
      refine xv (x_aload_n 52 d_X8_ends_51 rfl rfl) ?_
      refine xv (x_iload_n 53 d_X8_ends_52 rfl rfl) ?_
      refine xv (x_iconst 54 d_X8_ends_53 rfl) ?_
      refine xv (x_iload 56 d_X8_ends_54 rfl rfl) ?_
      refine xv (x_iadd 57 d_X8_ends_56 rfl) ?_
      refine xv (x_inv1 60 (as := [Value.int (zi (rb (M 1) y 2)), Value.int (zi (5 + (ob (M 1) (rb (M 1) y 2) 2)))]) d_X8_ends_57 rfl c_8_109 rfl (Nat.le_of_ble_eq_true rfl) (Nat.le_of_ble_eq_true rfl) m_o (Nat.le_of_ble_eq_true rfl) (Nat.le_of_ble_eq_true rfl) rfl (S_X8_get (E := E) (h := h) (am := am) (M := M) hR (by omega) (by omega) (by omega) (by omega))) ?_
      have q_8 : -1000000 ≤ ob (M 1) (rb (M 1) y 2) (5 + (ob (M 1) (rb (M 1) y 2) 2)) ∧ ob (M 1) (rb (M 1) y 2) (5 + (ob (M 1) (rb (M 1) y 2) 2)) ≤ 1000000 := hr _
      show Xv E q_m_X8_ends 60 [Value.ref am, Value.int (zi y), Value.int (zi (rb (M 1) y 2)), Value.int (zi (rb (M 1) y 0)), Value.int (zi (ob (M 1) (rb (M 1) y 2) 2))] [Value.int (zi (ob (M 1) (rb (M 1) y 2) (5 + (ob (M 1) (rb (M 1) y 2) 2)))), Value.int (zi (ob (M 1) (rb (M 1) y 2) 2)), Value.int (zi ((320 + 8 * (rb (M 1) y 2)) + 2)), Value.ref (am + 1)] (q_mw h am M) Q
      refine xv (x_iload_n 61 d_X8_ends_60 rfl rfl) ?_
      refine v_icmp_ne 68 64 d_X8_ends_61 rfl rfl (by omega) (by omega) (by omega) (by omega) (fun k61 => ?_) (fun k61 => ?_)
      · refine xv (x_iconst 69 d_X8_ends_68 rfl) ?_
        refine xv (x_iadd 70 d_X8_ends_69 rfl) ?_
        refine xv (x_iastore 71 d_X8_ends_70 rfl (m_s1 (by omega) (by omega))) ?_
        show Xv E q_m_X8_ends 71 [Value.ref am, Value.int (zi y), Value.int (zi (rb (M 1) y 2)), Value.int (zi (rb (M 1) y 0)), Value.int (zi (ob (M 1) (rb (M 1) y 2) 2))] [] (q_mw h am (uM M 1 ((320 + 8 * (rb (M 1) y 2)) + 2) ((ob (M 1) (rb (M 1) y 2) 2) + 0))) Q
        refine xv (x_iconst 72 d_X8_ends_71 rfl) ?_
        refine xv_r (x_ireturn d_X8_ends_72 rfl rfl) ?_
        have ev : enV (M 1) y = 0 := by unfold enV; repeat (first | rw [if_pos (by omega)] | rw [if_neg (by omega)])
        have el : enL (M 1) y = (u1 (M 1) ((320 + 8 * (rb (M 1) y 2)) + 2) ((ob (M 1) (rb (M 1) y 2) 2) + 0)) := by unfold enL; repeat (first | rw [if_pos (by omega)] | rw [if_neg (by omega)])
        refine hQ _ _ ⟨by rw [ev], ?_⟩
        rw [el]
        try (first | rfl | rw [uA_self] | simp only [uM_uA, uA_uA, uA_eq])
      · refine xv (x_iconst 65 d_X8_ends_64 rfl) ?_
        refine xv (x_goto 69 d_X8_ends_65 rfl) ?_
        refine xv (x_iadd 70 d_X8_ends_69 rfl) ?_
        refine xv (x_iastore 71 d_X8_ends_70 rfl (m_s1 (by omega) (by omega))) ?_
        show Xv E q_m_X8_ends 71 [Value.ref am, Value.int (zi y), Value.int (zi (rb (M 1) y 2)), Value.int (zi (rb (M 1) y 0)), Value.int (zi (ob (M 1) (rb (M 1) y 2) 2))] [] (q_mw h am (uM M 1 ((320 + 8 * (rb (M 1) y 2)) + 2) ((ob (M 1) (rb (M 1) y 2) 2) + 1))) Q
        refine xv (x_iconst 72 d_X8_ends_71 rfl) ?_
        refine xv_r (x_ireturn d_X8_ends_72 rfl rfl) ?_
        have ev : enV (M 1) y = 0 := by unfold enV; repeat (first | rw [if_pos (by omega)] | rw [if_neg (by omega)])
        have el : enL (M 1) y = (u1 (M 1) ((320 + 8 * (rb (M 1) y 2)) + 2) ((ob (M 1) (rb (M 1) y 2) 2) + 1)) := by unfold enL; repeat (first | rw [if_pos (by omega)] | rw [if_neg (by omega)])
        refine hQ _ _ ⟨by rw [ev], ?_⟩
        rw [el]
        try (first | rfl | rw [uA_self] | simp only [uM_uA, uA_uA, uA_eq])
  · refine xv (x_iconst 12 d_X8_ends_11 rfl) ?_
    refine xv_r (x_ireturn d_X8_ends_12 rfl rfl) ?_
    have ev : enV (M 1) y = 0 := by unfold enV; repeat (first | rw [if_pos (by omega)] | rw [if_neg (by omega)])
    have el : enL (M 1) y = (M 1) := by unfold enL; repeat (first | rw [if_pos (by omega)] | rw [if_neg (by omega)])
    refine hQ _ _ ⟨by rw [ev], ?_⟩
    rw [el]
    try (first | rfl | rw [uA_self] | simp only [uM_uA, uA_uA, uA_eq])
end RW
