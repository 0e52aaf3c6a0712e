/-! the reference: waiting, a robot taken off (printed by program) -/
section RT
variable {E : q_E} {h : q_H} {am : Nat} {M M2 : q_Im} {l : Int → Int}
theorem S_X8_waiting (hR : Rg (M 1)) {y : Int} (y0 : -2147483648 ≤ y) (y1 : y < 2147483648) : ∃ r_ h', q_cl E q_m_X8_waiting [Value.ref am, Value.int (zi y)] (q_mw h am M) = some (r_, h') ∧ (r_ = .inl (some (.int (zi (waiM (M 1) y).2))) ∧ h' = q_mw h am (uM M 0 5 (waiM (M 1) y).1)) := by
  suffices K : ∀ Q : q_R → q_H → Prop, (∀ r_ h', (r_ = .inl (some (.int (zi (waiM (M 1) y).2))) ∧ h' = q_mw h am (uM M 0 5 (waiM (M 1) y).1)) → Q r_ h') → Xv E q_m_X8_waiting 0 [Value.ref am, Value.int (zi y), Value.null, Value.null, Value.null, Value.null, Value.null] [] (q_mw h am M) Q from K _ fun _ _ p => p
  intro Q hQ
  have hR0 := hR
  obtain ⟨hr, g0, g1, g3, g4, gc, g5, g6, g7, gk, gl, gr, go⟩ := hR0
  refine xv (x_iconst 1 d_X8_waiting_0 rfl) ?_
  refine xv (x_istore_n 2 d_X8_waiting_1 rfl (Nat.le_of_ble_eq_true rfl)) ?_
  show Xv E q_m_X8_waiting 2 [Value.ref am, Value.int (zi y), Value.int (zi 0), Value.null, Value.null, Value.null, Value.null] [] (q_mw h am M) Q
  refine xv (x_iconst 3 d_X8_waiting_2 rfl) ?_
  refine xv (x_istore_n 4 d_X8_waiting_3 rfl (Nat.le_of_ble_eq_true rfl)) ?_
  show Xv E q_m_X8_waiting 4 [Value.ref am, Value.int (zi y), Value.int (zi 0), Value.int (zi (-1)), Value.null, Value.null, Value.null] [] (q_mw h am M) Q
  refine xv (x_iconst 5 d_X8_waiting_4 rfl) ?_
  refine xv (x_istore 7 d_X8_waiting_5 rfl (Nat.le_of_ble_eq_true rfl)) ?_
  show Xv E q_m_X8_waiting 7 [Value.ref am, Value.int (zi y), Value.int (zi 0), Value.int (zi (-1)), Value.int (zi 0), Value.null, Value.null] [] (q_mw h am M) Q
  have L7 : ∀ (n_ : Nat) (n : Int) (f : Int) (k : Int) (x5 : Value) (x6 : Value), (0 ≤ k) → (k ≤ M 1 4) → (0 ≤ n ∧ n ≤ k) → (mwc (M 1) = lpI (fun k a => if sto (M 1) k = 0 then a + 1 else a) (M 1 4 - k).toNat k n) → (mwf (M 1) y = lpI (fun k a => if sto (M 1) k = 0 then (if mwb (M 1) k = y then k else a) else a) (M 1 4 - k).toNat k f) → (M 1 4 - k).toNat = n_ → Xv E q_m_X8_waiting 7 [Value.ref am, Value.int (zi y), Value.int (zi n), Value.int (zi f), Value.int (zi k), x5, x6] [] (q_mw h am M) Q := by
    intro n_
    induction n_ using Nat.strongRecOn with
    | _ n_ ih7 =>
      intro n f k x5 x6 k0 k1 n0 hv hw em
      refine xv (x_iload 9 d_X8_waiting_7 rfl rfl) ?_
      refine xv (x_aload_n 10 d_X8_waiting_9 rfl rfl) ?_
      refine xv (x_getfield 13 d_X8_waiting_10 rfl f_8_9 (Nat.le_of_ble_eq_true rfl) (Nat.le_of_ble_eq_true rfl) (q_gf_of m_o rfl)) ?_
      refine xv (x_iconst 14 d_X8_waiting_13 rfl) ?_
      refine xv (x_iaload 15 d_X8_waiting_14 rfl ((m_g1 (by omega) (by omega)).trans (rfl : _ = some (Value.int (zi ((M 1) 4)))))) ?_
      have q_1 : -1000000 ≤ (M 1) 4 ∧ (M 1) 4 ≤ 1000000 := hr _
      refine v_icmp_ge 105 18 d_X8_waiting_15 rfl rfl (by omega) (by omega) (by omega) (by omega) (fun k15 => ?_) (fun k15 => ?_)
      · refine xv (x_aload_n 106 d_X8_waiting_105 rfl rfl) ?_
        refine xv (x_iload_n 107 d_X8_waiting_106 rfl rfl) ?_
        refine xv (x_iconst 108 d_X8_waiting_107 rfl) ?_
        refine xv (x_iload_n 109 d_X8_waiting_108 rfl rfl) ?_
        refine xv (x_iconst 110 d_X8_waiting_109 rfl) ?_
        refine xv (x_isub 111 d_X8_waiting_110 rfl) ?_
        refine xv (x_ins1 114 (as := [Value.int (zi y), Value.int (zi (-1)), Value.int (zi (n - 1))]) d_X8_waiting_111 rfl c_8_71 rfl (Nat.le_of_ble_eq_true rfl) (Nat.le_of_ble_eq_true rfl) (Nat.le_of_ble_eq_true rfl) rfl (S_X8_in (E := E) (h := h) (am := am) (M := M) (by omega) (by omega) (by omega) (by omega) (by omega) (by omega))) ?_
        show Xv E q_m_X8_waiting 114 [Value.ref am, Value.int (zi y), Value.int (zi n), Value.int (zi f), Value.int (zi k), x5, x6] [Value.int (zi (bI (inn y (-1) (n - 1)))), Value.ref am] (q_mw h am M) Q
        refine v_if_eq 121 117 d_X8_waiting_114 rfl rfl (by have := bI_r (inn y (-1) (n - 1)); omega) (by have := bI_r (inn y (-1) (n - 1)); omega) (fun k114 => ?_) (fun k114 => ?_)
        · replace k114 := bI_0.mp k114
          refine xv (x_iconst 122 d_X8_waiting_121 rfl) ?_
          refine xv (x_putfield 125 d_X8_waiting_122 rfl f_8_49 (Nat.le_of_ble_eq_true rfl) m_pf5 rfl rfl (fun e => absurd e (by decide))) ?_
          show Xv E q_m_X8_waiting 125 [Value.ref am, Value.int (zi y), Value.int (zi n), Value.int (zi f), Value.int (zi k), x5, x6] [] (q_mw h am (uM M 0 5 1)) Q
          refine xv (x_aload_n 126 d_X8_waiting_125 rfl rfl) ?_
          refine xv (x_getfield 129 d_X8_waiting_126 rfl f_8_49 (Nat.le_of_ble_eq_true rfl) (Nat.le_of_ble_eq_true rfl) ((q_gf_of (m_o (h := h) (am := am) (M := (uM M 0 5 1))) rfl : q_gf (q_mw h am (uM M 0 5 1)) am 8 5 = some (Value.int (zi 1))))) ?_
          refine v_if_le 136 132 d_X8_waiting_129 rfl rfl (by omega) (by omega) (fun k129 => ?_) (fun k129 => ?_)
          · omega
          · refine xv (x_iconst 133 d_X8_waiting_132 rfl) ?_
            refine xv (x_goto 145 d_X8_waiting_133 rfl) ?_
            refine xv_r (x_ireturn d_X8_waiting_145 rfl rfl) ?_
            have ev : mwc (M 1) = n := hv.trans (lpI_e (by omega))
            have ew : mwf (M 1) y = f := hw.trans (lpI_e (by omega))
            have er : waiM (M 1) y = (1, 0) := by unfold waiM; rw [ev, ew]; repeat (first | rw [if_pos (by omega)] | rw [if_neg (by omega)])
            refine hQ _ _ ?_
            rw [er]
            exact ⟨rfl, rfl⟩
        · replace k114 := bI_n0.mp k114
          refine xv (x_iconst 118 d_X8_waiting_117 rfl) ?_
          refine xv (x_goto 122 d_X8_waiting_118 rfl) ?_
          refine xv (x_putfield 125 d_X8_waiting_122 rfl f_8_49 (Nat.le_of_ble_eq_true rfl) m_pf5 rfl rfl (fun e => absurd e (by decide))) ?_
          show Xv E q_m_X8_waiting 125 [Value.ref am, Value.int (zi y), Value.int (zi n), Value.int (zi f), Value.int (zi k), x5, x6] [] (q_mw h am (uM M 0 5 0)) Q
          refine xv (x_aload_n 126 d_X8_waiting_125 rfl rfl) ?_
          refine xv (x_getfield 129 d_X8_waiting_126 rfl f_8_49 (Nat.le_of_ble_eq_true rfl) (Nat.le_of_ble_eq_true rfl) ((q_gf_of (m_o (h := h) (am := am) (M := (uM M 0 5 0))) rfl : q_gf (q_mw h am (uM M 0 5 0)) am 8 5 = some (Value.int (zi 0))))) ?_
          refine v_if_le 136 132 d_X8_waiting_129 rfl rfl (by omega) (by omega) (fun k129 => ?_) (fun k129 => ?_)
          · refine xv (x_iload_n 137 d_X8_waiting_136 rfl rfl) ?_
            refine v_if_ge 144 140 d_X8_waiting_137 rfl rfl (by omega) (by omega) (fun k137 => ?_) (fun k137 => ?_)
            · refine xv (x_iload_n 145 d_X8_waiting_144 rfl rfl) ?_
              refine xv_r (x_ireturn d_X8_waiting_145 rfl rfl) ?_
              have ev : mwc (M 1) = n := hv.trans (lpI_e (by omega))
              have ew : mwf (M 1) y = f := hw.trans (lpI_e (by omega))
              have er : waiM (M 1) y = (0, f) := by unfold waiM; rw [ev, ew]; repeat (first | rw [if_pos (by omega)] | rw [if_neg (by omega)])
              refine hQ _ _ ?_
              rw [er]
              exact ⟨rfl, rfl⟩
            · refine xv (x_iload_n 141 d_X8_waiting_140 rfl rfl) ?_
              refine xv (x_goto 145 d_X8_waiting_141 rfl) ?_
              refine xv_r (x_ireturn d_X8_waiting_145 rfl rfl) ?_
              have ev : mwc (M 1) = n := hv.trans (lpI_e (by omega))
              have ew : mwf (M 1) y = f := hw.trans (lpI_e (by omega))
              have er : waiM (M 1) y = (0, n) := by unfold waiM; rw [ev, ew]; repeat (first | rw [if_pos (by omega)] | rw [if_neg (by omega)])
              refine hQ _ _ ?_
              rw [er]
              exact ⟨rfl, rfl⟩
          · omega
      · refine xv (x_aload_n 19 d_X8_waiting_18 rfl rfl) ?_
        refine xv (x_iload 21 d_X8_waiting_19 rfl rfl) ?_
        refine xv (x_inv1 24 (as := [Value.int (zi k)]) d_X8_waiting_21 rfl c_8_115 rfl (Nat.le_of_ble_eq_true rfl) (Nat.le_of_ble_eq_true rfl) m_o (Nat.le_of_ble_eq_true rfl) (Nat.le_of_ble_eq_true rfl) rfl (S_X8_stateOf (E := E) (h := h) (am := am) (M := M) hR (by omega))) ?_
        have q_2 := @sto_r (M 1) k
        show Xv E q_m_X8_waiting 24 [Value.ref am, Value.int (zi y), Value.int (zi n), Value.int (zi f), Value.int (zi k), x5, x6] [Value.int (zi (sto (M 1) k))] (q_mw h am M) Q
        refine v_if_eq 30 27 d_X8_waiting_24 rfl rfl (by omega) (by omega) (fun k24 => ?_) (fun k24 => ?_)
        · refine xv (x_iconst 31 d_X8_waiting_30 rfl) ?_
          refine xv (x_istore 33 d_X8_waiting_31 rfl (Nat.le_of_ble_eq_true rfl)) ?_
          show Xv E q_m_X8_waiting 33 [Value.ref am, Value.int (zi y), Value.int (zi n), Value.int (zi f), Value.int (zi k), Value.int (zi 0), x6] [] (q_mw h am M) Q
          refine xv (x_iconst 34 d_X8_waiting_33 rfl) ?_
          refine xv (x_istore 36 d_X8_waiting_34 rfl (Nat.le_of_ble_eq_true rfl)) ?_
          show Xv E q_m_X8_waiting 36 [Value.ref am, Value.int (zi y), Value.int (zi n), Value.int (zi f), Value.int (zi k), Value.int (zi 0), Value.int (zi 0)] [] (q_mw h am M) Q
          have L36 : ∀ (n_ : Nat) (r : Int) (j : Int), (0 ≤ j) → (j ≤ M 1 4) → (0 ≤ r ∧ r ≤ j) → (mwb (M 1) k = lpI (fun j a => a + bI (sto (M 1) j = 0 ∧ ahO (M 1) j k)) (M 1 4 - j).toNat j r) → (M 1 4 - j).toNat = n_ → Xv E q_m_X8_waiting 36 [Value.ref am, Value.int (zi y), Value.int (zi n), Value.int (zi f), Value.int (zi k), Value.int (zi r), Value.int (zi j)] [] (q_mw h am M) Q := by
            intro n_
            induction n_ using Nat.strongRecOn with
            | _ n_ ih36 =>
              intro r j j0 j1 r0 hu em
              refine xv (x_iload 38 d_X8_waiting_36 rfl rfl) ?_
              refine xv (x_aload_n 39 d_X8_waiting_38 rfl rfl) ?_
              refine xv (x_getfield 42 d_X8_waiting_39 rfl f_8_9 (Nat.le_of_ble_eq_true rfl) (Nat.le_of_ble_eq_true rfl) (q_gf_of m_o rfl)) ?_
              refine xv (x_iconst 43 d_X8_waiting_42 rfl) ?_
              refine xv (x_iaload 44 d_X8_waiting_43 rfl ((m_g1 (by omega) (by omega)).trans (rfl : _ = some (Value.int (zi ((M 1) 4)))))) ?_
              have q_3 : -1000000 ≤ (M 1) 4 ∧ (M 1) 4 ≤ 1000000 := hr _
              refine v_icmp_ge 83 47 d_X8_waiting_44 rfl rfl (by omega) (by omega) (by omega) (by omega) (fun k44 => ?_) (fun k44 => ?_)
              · refine xv (x_iload 85 d_X8_waiting_83 rfl rfl) ?_
                refine xv (x_iload_n 86 d_X8_waiting_85 rfl rfl) ?_
                refine v_icmp_ne 94 89 d_X8_waiting_86 rfl rfl (by omega) (by omega) (by omega) (by omega) (fun k86 => ?_) (fun k86 => ?_)
                · refine xv (x_iload_n 95 d_X8_waiting_94 rfl rfl) ?_
                  refine xv (x_istore_n 96 d_X8_waiting_95 rfl (Nat.le_of_ble_eq_true rfl)) ?_
                  show Xv E q_m_X8_waiting 96 [Value.ref am, Value.int (zi y), Value.int (zi n), Value.int (zi f), Value.int (zi k), Value.int (zi r), Value.int (zi j)] [] (q_mw h am M) Q
                  refine xv (x_iinc 99 d_X8_waiting_96 rfl rfl) ?_
                  show Xv E q_m_X8_waiting 99 [Value.ref am, Value.int (zi y), Value.int (zi (n + 1)), Value.int (zi f), Value.int (zi k), Value.int (zi r), Value.int (zi j)] [] (q_mw h am M) Q
                  refine xv (x_iinc 102 d_X8_waiting_99 rfl rfl) ?_
                  show Xv E q_m_X8_waiting 102 [Value.ref am, Value.int (zi y), Value.int (zi (n + 1)), Value.int (zi f), Value.int (zi (k + 1)), Value.int (zi r), Value.int (zi j)] [] (q_mw h am M) Q
                  refine xv (x_goto 7 d_X8_waiting_102 rfl) ?_
                  have ev : mwb (M 1) k = r := hu.trans (lpI_e (by omega))
                  refine ih7 _ (by omega) _ _ (k + 1) _ _ (by omega) (by omega) (by omega) (hv.trans ((lpI_b (by omega)).trans (congrArg (lpI _ _ _) ?_))) (hw.trans ((lpI_b (by omega)).trans (congrArg (lpI _ _ _) ?_))) rfl
                  · exact if_pos (by omega)
                  · show (if sto (M 1) k = 0 then (if mwb (M 1) k = y then k else f) else f) = _
                    rw [if_pos (by omega), ev]
                    first | exact if_pos (by omega) | exact if_neg (by omega)
                · refine xv (x_iload 91 d_X8_waiting_89 rfl rfl) ?_
                  refine xv (x_goto 95 d_X8_waiting_91 rfl) ?_
                  refine xv (x_istore_n 96 d_X8_waiting_95 rfl (Nat.le_of_ble_eq_true rfl)) ?_
                  show Xv E q_m_X8_waiting 96 [Value.ref am, Value.int (zi y), Value.int (zi n), Value.int (zi k), Value.int (zi k), Value.int (zi r), Value.int (zi j)] [] (q_mw h am M) Q
                  refine xv (x_iinc 99 d_X8_waiting_96 rfl rfl) ?_
                  show Xv E q_m_X8_waiting 99 [Value.ref am, Value.int (zi y), Value.int (zi (n + 1)), Value.int (zi k), Value.int (zi k), Value.int (zi r), Value.int (zi j)] [] (q_mw h am M) Q
                  refine xv (x_iinc 102 d_X8_waiting_99 rfl rfl) ?_
                  show Xv E q_m_X8_waiting 102 [Value.ref am, Value.int (zi y), Value.int (zi (n + 1)), Value.int (zi k), Value.int (zi (k + 1)), Value.int (zi r), Value.int (zi j)] [] (q_mw h am M) Q
                  refine xv (x_goto 7 d_X8_waiting_102 rfl) ?_
                  have ev : mwb (M 1) k = r := hu.trans (lpI_e (by omega))
                  refine ih7 _ (by omega) _ _ (k + 1) _ _ (by omega) (by omega) (by omega) (hv.trans ((lpI_b (by omega)).trans (congrArg (lpI _ _ _) ?_))) (hw.trans ((lpI_b (by omega)).trans (congrArg (lpI _ _ _) ?_))) rfl
                  · exact if_pos (by omega)
                  · show (if sto (M 1) k = 0 then (if mwb (M 1) k = y then k else f) else f) = _
                    rw [if_pos (by omega), ev]
                    first | exact if_pos (by omega) | exact if_neg (by omega)
              · refine xv (x_iload 49 d_X8_waiting_47 rfl rfl) ?_
                refine xv (x_aload_n 50 d_X8_waiting_49 rfl rfl) ?_
                refine xv (x_iload 52 d_X8_waiting_50 rfl rfl) ?_
                refine xv (x_inv1 55 (as := [Value.int (zi j)]) d_X8_waiting_52 rfl c_8_115 rfl (Nat.le_of_ble_eq_true rfl) (Nat.le_of_ble_eq_true rfl) m_o (Nat.le_of_ble_eq_true rfl) (Nat.le_of_ble_eq_true rfl) rfl (S_X8_stateOf (E := E) (h := h) (am := am) (M := M) hR (by omega))) ?_
                have q_4 := @sto_r (M 1) j
                show Xv E q_m_X8_waiting 55 [Value.ref am, Value.int (zi y), Value.int (zi n), Value.int (zi f), Value.int (zi k), Value.int (zi r), Value.int (zi j)] [Value.int (zi (sto (M 1) j)), Value.int (zi r)] (q_mw h am M) Q
                refine v_if_ne 73 58 d_X8_waiting_55 rfl rfl (by omega) (by omega) (fun k55 => ?_) (fun k55 => ?_)
                · refine xv (x_iconst 74 d_X8_waiting_73 rfl) ?_
                  refine xv (x_iadd 75 d_X8_waiting_74 rfl) ?_
                  refine xv (x_istore 77 d_X8_waiting_75 rfl (Nat.le_of_ble_eq_true rfl)) ?_
                  show Xv E q_m_X8_waiting 77 [Value.ref am, Value.int (zi y), Value.int (zi n), Value.int (zi f), Value.int (zi k), Value.int (zi (r + 0)), Value.int (zi j)] [] (q_mw h am M) Q
                  refine xv (x_iinc 80 d_X8_waiting_77 rfl rfl) ?_
                  show Xv E q_m_X8_waiting 80 [Value.ref am, Value.int (zi y), Value.int (zi n), Value.int (zi f), Value.int (zi k), Value.int (zi (r + 0)), Value.int (zi (j + 1))] [] (q_mw h am M) Q
                  refine xv (x_goto 36 d_X8_waiting_80 rfl) ?_
                  refine ih36 _ (by omega) _ (j + 1) (by omega) (by omega) (by omega) (hu.trans ((lpI_b (by omega)).trans (congrArg (lpI _ _ _) ?_))) rfl
                  show r + bI (sto (M 1) j = 0 ∧ ahO (M 1) j k) = _
                  rw [bI_f (fun z_ => by first | exact k66 z_.2 | exact absurd z_.1 (by omega))]
                · refine xv (x_aload_n 59 d_X8_waiting_58 rfl rfl) ?_
                  refine xv (x_iload 61 d_X8_waiting_59 rfl rfl) ?_
                  refine xv (x_iload 63 d_X8_waiting_61 rfl rfl) ?_
                  refine xv (x_inv1 66 (as := [Value.int (zi j), Value.int (zi k)]) d_X8_waiting_63 rfl c_8_182 rfl (Nat.le_of_ble_eq_true rfl) (Nat.le_of_ble_eq_true rfl) m_o (Nat.le_of_ble_eq_true rfl) (Nat.le_of_ble_eq_true rfl) rfl (S_X8_isAhead (E := E) (h := h) (am := am) (M := M) hR (by omega) (by omega))) ?_
                  show Xv E q_m_X8_waiting 66 [Value.ref am, Value.int (zi y), Value.int (zi n), Value.int (zi f), Value.int (zi k), Value.int (zi r), Value.int (zi j)] [Value.int (zi (bI (ahO (M 1) j k))), Value.int (zi r)] (q_mw h am M) Q
                  refine v_if_eq 73 69 d_X8_waiting_66 rfl rfl (by have := bI_r (ahO (M 1) j k); omega) (by have := bI_r (ahO (M 1) j k); omega) (fun k66 => ?_) (fun k66 => ?_)
                  · replace k66 := bI_0.mp k66
                    refine xv (x_iconst 74 d_X8_waiting_73 rfl) ?_
                    refine xv (x_iadd 75 d_X8_waiting_74 rfl) ?_
                    refine xv (x_istore 77 d_X8_waiting_75 rfl (Nat.le_of_ble_eq_true rfl)) ?_
                    show Xv E q_m_X8_waiting 77 [Value.ref am, Value.int (zi y), Value.int (zi n), Value.int (zi f), Value.int (zi k), Value.int (zi (r + 0)), Value.int (zi j)] [] (q_mw h am M) Q
                    refine xv (x_iinc 80 d_X8_waiting_77 rfl rfl) ?_
                    show Xv E q_m_X8_waiting 80 [Value.ref am, Value.int (zi y), Value.int (zi n), Value.int (zi f), Value.int (zi k), Value.int (zi (r + 0)), Value.int (zi (j + 1))] [] (q_mw h am M) Q
                    refine xv (x_goto 36 d_X8_waiting_80 rfl) ?_
                    refine ih36 _ (by omega) _ (j + 1) (by omega) (by omega) (by omega) (hu.trans ((lpI_b (by omega)).trans (congrArg (lpI _ _ _) ?_))) rfl
                    show r + bI (sto (M 1) j = 0 ∧ ahO (M 1) j k) = _
                    rw [bI_f (fun z_ => by first | exact k66 z_.2 | exact absurd z_.1 (by omega))]
                  · replace k66 := bI_n0.mp k66
                    refine xv (x_iconst 70 d_X8_waiting_69 rfl) ?_
                    refine xv (x_goto 74 d_X8_waiting_70 rfl) ?_
                    refine xv (x_iadd 75 d_X8_waiting_74 rfl) ?_
                    refine xv (x_istore 77 d_X8_waiting_75 rfl (Nat.le_of_ble_eq_true rfl)) ?_
                    show Xv E q_m_X8_waiting 77 [Value.ref am, Value.int (zi y), Value.int (zi n), Value.int (zi f), Value.int (zi k), Value.int (zi (r + 1)), Value.int (zi j)] [] (q_mw h am M) Q
                    refine xv (x_iinc 80 d_X8_waiting_77 rfl rfl) ?_
                    show Xv E q_m_X8_waiting 80 [Value.ref am, Value.int (zi y), Value.int (zi n), Value.int (zi f), Value.int (zi k), Value.int (zi (r + 1)), Value.int (zi (j + 1))] [] (q_mw h am M) Q
                    refine xv (x_goto 36 d_X8_waiting_80 rfl) ?_
                    refine ih36 _ (by omega) _ (j + 1) (by omega) (by omega) (by omega) (hu.trans ((lpI_b (by omega)).trans (congrArg (lpI _ _ _) ?_))) rfl
                    show r + bI (sto (M 1) j = 0 ∧ ahO (M 1) j k) = _
                    rw [bI_t ⟨by omega, k66⟩]
          exact L36 _ 0 0 (by omega) (by omega) (by omega) (by rw [Int.sub_zero]; rfl) rfl
        · refine xv (x_goto 99 d_X8_waiting_27 rfl) ?_
          refine xv (x_iinc 102 d_X8_waiting_99 rfl rfl) ?_
          show Xv E q_m_X8_waiting 102 [Value.ref am, Value.int (zi y), Value.int (zi n), Value.int (zi f), Value.int (zi (k + 1)), x5, x6] [] (q_mw h am M) Q
          refine xv (x_goto 7 d_X8_waiting_102 rfl) ?_
          refine ih7 _ (by omega) _ _ (k + 1) _ _ (by omega) (by omega) (by omega) (hv.trans ((lpI_b (by omega)).trans (congrArg (lpI _ _ _) ?_))) (hw.trans ((lpI_b (by omega)).trans (congrArg (lpI _ _ _) ?_))) rfl
          · exact if_neg (by omega)
          · exact if_neg (by omega)
  exact L7 _ 0 (-1) 0 _ _ (by omega) (by omega) (by omega) (by rw [Int.sub_zero]; rfl) (by rw [Int.sub_zero]; rfl) rfl
end RT
