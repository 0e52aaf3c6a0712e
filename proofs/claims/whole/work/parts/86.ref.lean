/-! the reference: distances by a table, the walk (printed by program) -/
section RB3
variable {E : q_E} {h : q_H} {am : Nat} {M M2 : q_Im} {l F f : Int → Int} {r g T t k w v c e d a b s : Int}
theorem S_X8_distanceAgain (hR : Rg (M 1)) (hT : 0 ≤ M 1 2) {y z : Int} (y0 : -2147483648 ≤ y) (y1 : y < 2147483648) (z0 : -2147483648 ≤ z) (z1 : z < 2147483648) : ∃ r_ h', q_cl E q_m_X8_distanceAgain [Value.ref am, Value.int (zi y), Value.int (zi z)] (q_mw h am M) = some (r_, h') ∧ (r_ = .inl (some (.int (zi (dagM (M 1) y z).2))) ∧ ∃ M', h' = q_mw h am M' ∧ MS M M' (dagM (M 1) y z).1) := by
  suffices K : ∀ Q : q_R → q_H → Prop, (∀ r_ h', (r_ = .inl (some (.int (zi (dagM (M 1) y z).2))) ∧ ∃ M', h' = q_mw h am M' ∧ MS M M' (dagM (M 1) y z).1) → Q r_ h') → Xv E q_m_X8_distanceAgain 0 [Value.ref am, Value.int (zi y), Value.int (zi z), Value.null, Value.null, Value.null, Value.null, Value.null] [] (q_mw h am M) Q from K _ fun _ _ p => p
  intro Q hQ
  have hR0 := hR
  obtain ⟨hr, g0, g1, g3, g4, gc, g5, g6, g7, gk, gl, gr, go⟩ := hR0
  have hC := rgc_of hR hT
  refine xv (x_aload_n 1 d_X8_distanceAgain_0 rfl rfl) ?_
  refine xv (x_aload_n 2 d_X8_distanceAgain_1 rfl rfl) ?_
  refine xv (x_iload_n 3 d_X8_distanceAgain_2 rfl rfl) ?_
  refine xv (x_inv1 6 (as := [Value.int (zi y)]) d_X8_distanceAgain_3 rfl c_8_86 rfl (Nat.le_of_ble_eq_true rfl) (Nat.le_of_ble_eq_true rfl) m_o (Nat.le_of_ble_eq_true rfl) (Nat.le_of_ble_eq_true rfl) rfl (S_X8_isCell (E := E) (h := h) (am := am) (M := M) hR (by omega) (by omega))) ?_
  show Xv E q_m_X8_distanceAgain 6 [Value.ref am, Value.int (zi y), Value.int (zi z), Value.null, Value.null, Value.null, Value.null, Value.null] [Value.int (zi (bI (isC (M 1) y))), Value.ref am] (q_mw h am M) Q
  refine v_if_eq 21 9 d_X8_distanceAgain_6 rfl rfl (by have := bI_r (isC (M 1) y); omega) (by have := bI_r (isC (M 1) y); omega) (fun k6 => ?_) (fun k6 => ?_)
  · replace k6 := bI_0.mp k6
    refine xv (x_iconst 22 d_X8_distanceAgain_21 rfl) ?_
    refine xv (x_putfield 25 d_X8_distanceAgain_22 rfl f_8_49 (Nat.le_of_ble_eq_true rfl) m_pf5 rfl rfl (fun e => absurd e (by decide))) ?_
    show Xv E q_m_X8_distanceAgain 25 [Value.ref am, Value.int (zi y), Value.int (zi z), Value.null, Value.null, Value.null, Value.null, Value.null] [] (q_mw h am (uM M 0 5 1)) Q
    refine xv (x_aload_n 26 d_X8_distanceAgain_25 rfl rfl) ?_
    refine xv (x_getfield 29 d_X8_distanceAgain_26 rfl f_8_49 (Nat.le_of_ble_eq_true rfl) (Nat.le_of_ble_eq_true rfl) ((q_gf_of (m_o (h := h) (am := am) (M := (uM M 0 5 1))) rfl : q_gf (q_mw h am (uM M 0 5 1)) am 8 5 = some (Value.int (zi 1))))) ?_
    refine v_if_le 34 32 d_X8_distanceAgain_29 rfl rfl (by omega) (by omega) (fun k29 => ?_) (fun k29 => ?_)
    · omega
    · refine xv (x_iconst 33 d_X8_distanceAgain_32 rfl) ?_
      refine xv_r (x_ireturn d_X8_distanceAgain_33 rfl rfl) ?_
      have er : dagM (M 1) y z = (1, 0) := by unfold dagM; exact if_pos (fun z_ => by first | exact k6 z_.1 | exact k14 z_.2)
      refine hQ _ _ ⟨by rw [er], (uM M 0 5 1), rfl, ?_, rfl, rfl, rfl, rfl⟩
      rw [er]
      rfl
  · replace k6 := bI_n0.mp k6
    refine xv (x_aload_n 10 d_X8_distanceAgain_9 rfl rfl) ?_
    refine xv (x_iload_n 11 d_X8_distanceAgain_10 rfl rfl) ?_
    refine xv (x_inv1 14 (as := [Value.int (zi z)]) d_X8_distanceAgain_11 rfl c_8_86 rfl (Nat.le_of_ble_eq_true rfl) (Nat.le_of_ble_eq_true rfl) m_o (Nat.le_of_ble_eq_true rfl) (Nat.le_of_ble_eq_true rfl) rfl (S_X8_isCell (E := E) (h := h) (am := am) (M := M) hR (by omega) (by omega))) ?_
    show Xv E q_m_X8_distanceAgain 14 [Value.ref am, Value.int (zi y), Value.int (zi z), Value.null, Value.null, Value.null, Value.null, Value.null] [Value.int (zi (bI (isC (M 1) z))), Value.ref am] (q_mw h am M) Q
    refine v_if_eq 21 17 d_X8_distanceAgain_14 rfl rfl (by have := bI_r (isC (M 1) z); omega) (by have := bI_r (isC (M 1) z); omega) (fun k14 => ?_) (fun k14 => ?_)
    · replace k14 := bI_0.mp k14
      refine xv (x_iconst 22 d_X8_distanceAgain_21 rfl) ?_
      refine xv (x_putfield 25 d_X8_distanceAgain_22 rfl f_8_49 (Nat.le_of_ble_eq_true rfl) m_pf5 rfl rfl (fun e => absurd e (by decide))) ?_
      show Xv E q_m_X8_distanceAgain 25 [Value.ref am, Value.int (zi y), Value.int (zi z), Value.null, Value.null, Value.null, Value.null, Value.null] [] (q_mw h am (uM M 0 5 1)) Q
      refine xv (x_aload_n 26 d_X8_distanceAgain_25 rfl rfl) ?_
      refine xv (x_getfield 29 d_X8_distanceAgain_26 rfl f_8_49 (Nat.le_of_ble_eq_true rfl) (Nat.le_of_ble_eq_true rfl) ((q_gf_of (m_o (h := h) (am := am) (M := (uM M 0 5 1))) rfl : q_gf (q_mw h am (uM M 0 5 1)) am 8 5 = some (Value.int (zi 1))))) ?_
      refine v_if_le 34 32 d_X8_distanceAgain_29 rfl rfl (by omega) (by omega) (fun k29 => ?_) (fun k29 => ?_)
      · omega
      · refine xv (x_iconst 33 d_X8_distanceAgain_32 rfl) ?_
        refine xv_r (x_ireturn d_X8_distanceAgain_33 rfl rfl) ?_
        have er : dagM (M 1) y z = (1, 0) := by unfold dagM; exact if_pos (fun z_ => by first | exact k6 z_.1 | exact k14 z_.2)
        refine hQ _ _ ⟨by rw [er], (uM M 0 5 1), rfl, ?_, rfl, rfl, rfl, rfl⟩
        rw [er]
        rfl
    · replace k14 := bI_n0.mp k14
      refine xv (x_iconst 18 d_X8_distanceAgain_17 rfl) ?_
      refine xv (x_goto 22 d_X8_distanceAgain_18 rfl) ?_
      refine xv (x_putfield 25 d_X8_distanceAgain_22 rfl f_8_49 (Nat.le_of_ble_eq_true rfl) m_pf5 rfl rfl (fun e => absurd e (by decide))) ?_
      show Xv E q_m_X8_distanceAgain 25 [Value.ref am, Value.int (zi y), Value.int (zi z), Value.null, Value.null, Value.null, Value.null, Value.null] [] (q_mw h am (uM M 0 5 0)) Q
      refine xv (x_aload_n 26 d_X8_distanceAgain_25 rfl rfl) ?_
      refine xv (x_getfield 29 d_X8_distanceAgain_26 rfl f_8_49 (Nat.le_of_ble_eq_true rfl) (Nat.le_of_ble_eq_true rfl) ((q_gf_of (m_o (h := h) (am := am) (M := (uM M 0 5 0))) rfl : q_gf (q_mw h am (uM M 0 5 0)) am 8 5 = some (Value.int (zi 0))))) ?_
      refine v_if_le 34 32 d_X8_distanceAgain_29 rfl rfl (by omega) (by omega) (fun k29 => ?_) (fun k29 => ?_)
      · refine xv (x_aload_n 35 d_X8_distanceAgain_34 rfl rfl) ?_
        refine xv (x_inv1 38 (as := []) d_X8_distanceAgain_35 rfl c_8_67 rfl (Nat.le_of_ble_eq_true rfl) (Nat.le_of_ble_eq_true rfl) m_o (Nat.le_of_ble_eq_true rfl) (Nat.le_of_ble_eq_true rfl) rfl (S_X8_cells (E := E) (h := h) (am := am) (M := (uM M 0 5 0)) hR)) ?_
        show Xv E q_m_X8_distanceAgain 38 [Value.ref am, Value.int (zi y), Value.int (zi z), Value.null, Value.null, Value.null, Value.null, Value.null] [Value.int (zi (cs (M 1)))] (q_mw h am (uM M 0 5 0)) Q
        refine xv (x_istore_n 39 d_X8_distanceAgain_38 rfl (Nat.le_of_ble_eq_true rfl)) ?_
        show Xv E q_m_X8_distanceAgain 39 [Value.ref am, Value.int (zi y), Value.int (zi z), Value.int (zi (cs (M 1))), Value.null, Value.null, Value.null, Value.null] [] (q_mw h am (uM M 0 5 0)) Q
        refine xv (x_iconst 40 d_X8_distanceAgain_39 rfl) ?_
        refine xv (x_istore 42 d_X8_distanceAgain_40 rfl (Nat.le_of_ble_eq_true rfl)) ?_
        show Xv E q_m_X8_distanceAgain 42 [Value.ref am, Value.int (zi y), Value.int (zi z), Value.int (zi (cs (M 1))), Value.int (zi 0), Value.null, Value.null, Value.null] [] (q_mw h am (uM M 0 5 0)) Q
        have L42 : ∀ (n_ : Nat) (a : Int) (F : Int → Int) (x5 : Value) (x6 : Value) (x7 : Value), (0 ≤ a) → (a ≤ cs (M 1)) → (∀ a' b', isC (M 1) a' → isC (M 1) b' → a' < a → T0R (M 1) 4 a' b' (F (48 * a' + b'))) → (cs (M 1) - a).toNat = n_ → Xv E q_m_X8_distanceAgain 42 [Value.ref am, Value.int (zi y), Value.int (zi z), Value.int (zi (cs (M 1))), Value.int (zi a), x5, x6, x7] [] (q_mw h am (uA (uM M 0 5 0) 10 F)) Q := by
          intro n_
          induction n_ using Nat.strongRecOn with
          | _ n_ ih42 =>
            intro a F x5 x6 x7 a0 a1 hI em
            refine xv (x_iload 44 d_X8_distanceAgain_42 rfl rfl) ?_
            refine xv (x_iload_n 45 d_X8_distanceAgain_44 rfl rfl) ?_
            refine v_icmp_ge 149 48 d_X8_distanceAgain_45 rfl rfl (by omega) (by omega) (by omega) (by omega) (fun k45 => ?_) (fun k45 => ?_)
            · refine xv (x_iconst 150 d_X8_distanceAgain_149 rfl) ?_
              refine xv (x_istore 152 d_X8_distanceAgain_150 rfl (Nat.le_of_ble_eq_true rfl)) ?_
              show Xv E q_m_X8_distanceAgain 152 [Value.ref am, Value.int (zi y), Value.int (zi z), Value.int (zi (cs (M 1))), Value.int (zi 0), x5, x6, x7] [] (q_mw h am (uA (uM M 0 5 0) 10 F)) Q
              have L152 : ∀ (n_ : Nat) (k : Int) (F : Int → Int) (x5 : Value) (x6 : Value) (x7 : Value), (0 ≤ k) → (k ≤ cs (M 1)) → (FwI (M 1) F k 0 0) → (cs (M 1) - k).toNat = n_ → Xv E q_m_X8_distanceAgain 152 [Value.ref am, Value.int (zi y), Value.int (zi z), Value.int (zi (cs (M 1))), Value.int (zi k), x5, x6, x7] [] (q_mw h am (uA (uM M 0 5 0) 10 F)) Q := by
                intro n_
                induction n_ using Nat.strongRecOn with
                | _ n_ ih152 =>
                  intro k F x5 x6 x7 k0 k1 hI em
                  refine xv (x_iload 154 d_X8_distanceAgain_152 rfl rfl) ?_
                  refine xv (x_iload_n 155 d_X8_distanceAgain_154 rfl rfl) ?_
                  refine v_icmp_ge 254 158 d_X8_distanceAgain_155 rfl rfl (by omega) (by omega) (by omega) (by omega) (fun k155 => ?_) (fun k155 => ?_)
                  · refine xv (x_aload_n 255 d_X8_distanceAgain_254 rfl rfl) ?_
                    refine xv (x_getfield 258 d_X8_distanceAgain_255 rfl f_8_38 (Nat.le_of_ble_eq_true rfl) (Nat.le_of_ble_eq_true rfl) (q_gf_of m_o rfl)) ?_
                    refine xv (x_bipush 260 d_X8_distanceAgain_258 rfl rfl) ?_
                    refine xv (x_iload_n 261 d_X8_distanceAgain_260 rfl rfl) ?_
                    refine xv (x_imul 262 d_X8_distanceAgain_261 rfl) ?_
                    refine xv (x_iload_n 263 d_X8_distanceAgain_262 rfl rfl) ?_
                    refine xv (x_iadd 264 d_X8_distanceAgain_263 rfl) ?_
                    refine xv (x_iaload 265 d_X8_distanceAgain_264 rfl ((m_g10 (by omega) (by omega)).trans (rfl : _ = some (Value.int (zi (F ((48 * y) + z))))))) ?_
                    have q264 := (hI.1 y z ⟨by omega, by omega⟩ ⟨by omega, by omega⟩).1
                    refine xv (x_istore 267 d_X8_distanceAgain_265 rfl (Nat.le_of_ble_eq_true rfl)) ?_
                    show Xv E q_m_X8_distanceAgain 267 [Value.ref am, Value.int (zi y), Value.int (zi z), Value.int (zi (cs (M 1))), Value.int (zi (F ((48 * y) + z))), x5, x6, x7] [] (q_mw h am (uA (uM M 0 5 0) 10 F)) Q
                    refine xv (x_aload_n 268 d_X8_distanceAgain_267 rfl rfl) ?_
                    refine xv (x_iload 270 d_X8_distanceAgain_268 rfl rfl) ?_
                    refine xv (x_sipush 273 d_X8_distanceAgain_270 rfl rfl) ?_
                    refine v_icmp_lt 280 276 d_X8_distanceAgain_273 rfl rfl (by omega) (by omega) (by omega) (by omega) (fun k273 => ?_) (fun k273 => ?_)
                    · refine xv (x_iconst 281 d_X8_distanceAgain_280 rfl) ?_
                      refine xv (x_putfield 284 d_X8_distanceAgain_281 rfl f_8_49 (Nat.le_of_ble_eq_true rfl) m_pf5 rfl rfl (fun e => absurd e (by decide))) ?_
                      show Xv E q_m_X8_distanceAgain 284 [Value.ref am, Value.int (zi y), Value.int (zi z), Value.int (zi (cs (M 1))), Value.int (zi (F ((48 * y) + z))), x5, x6, x7] [] (q_mw h am (uM (uA (uM M 0 5 0) 10 F) 0 5 0)) Q
                      refine xv (x_aload_n 285 d_X8_distanceAgain_284 rfl rfl) ?_
                      refine xv (x_getfield 288 d_X8_distanceAgain_285 rfl f_8_49 (Nat.le_of_ble_eq_true rfl) (Nat.le_of_ble_eq_true rfl) ((q_gf_of (m_o (h := h) (am := am) (M := (uM (uA (uM M 0 5 0) 10 F) 0 5 0))) rfl : q_gf (q_mw h am (uM (uA (uM M 0 5 0) 10 F) 0 5 0)) am 8 5 = some (Value.int (zi 0))))) ?_
                      refine v_if_le 295 291 d_X8_distanceAgain_288 rfl rfl (by omega) (by omega) (fun k288 => ?_) (fun k288 => ?_)
                      · refine xv (x_iload 297 d_X8_distanceAgain_295 rfl rfl) ?_
                        refine xv_r (x_ireturn d_X8_distanceAgain_297 rfl rfl) ?_
                        have ek : k = cs (M 1) := by omega
                        rw [ek] at hI
                        obtain ⟨f1, f2⟩ := fw_end hC hI k6 k14
                        have hd := @dst_r (M 1) y z
                        have er : dagM (M 1) y z = (0, F ((48 * y) + z)) := by
                          unfold dagM
                          rw [if_neg (fun z_ => z_ ⟨k6, k14⟩)]
                          first
                          | (rw [if_pos (f2 (by omega))]; done)
                          | (rw [if_pos (f2 (by omega))])
                          | (rw [if_neg (by have := f1 (by omega); omega), ← f1 (by omega)])
                        refine hQ _ _ ⟨by rw [er], (uM (uA (uM M 0 5 0) 10 F) 0 5 0), rfl, ?_, rfl, rfl, rfl, rfl⟩
                        rw [er]
                        first | rfl | exact u1_u1
                      · omega
                    · refine xv (x_iconst 277 d_X8_distanceAgain_276 rfl) ?_
                      refine xv (x_goto 281 d_X8_distanceAgain_277 rfl) ?_
                      refine xv (x_putfield 284 d_X8_distanceAgain_281 rfl f_8_49 (Nat.le_of_ble_eq_true rfl) m_pf5 rfl rfl (fun e => absurd e (by decide))) ?_
                      show Xv E q_m_X8_distanceAgain 284 [Value.ref am, Value.int (zi y), Value.int (zi z), Value.int (zi (cs (M 1))), Value.int (zi (F ((48 * y) + z))), x5, x6, x7] [] (q_mw h am (uM (uA (uM M 0 5 0) 10 F) 0 5 2)) Q
                      refine xv (x_aload_n 285 d_X8_distanceAgain_284 rfl rfl) ?_
                      refine xv (x_getfield 288 d_X8_distanceAgain_285 rfl f_8_49 (Nat.le_of_ble_eq_true rfl) (Nat.le_of_ble_eq_true rfl) ((q_gf_of (m_o (h := h) (am := am) (M := (uM (uA (uM M 0 5 0) 10 F) 0 5 2))) rfl : q_gf (q_mw h am (uM (uA (uM M 0 5 0) 10 F) 0 5 2)) am 8 5 = some (Value.int (zi 2))))) ?_
                      refine v_if_le 295 291 d_X8_distanceAgain_288 rfl rfl (by omega) (by omega) (fun k288 => ?_) (fun k288 => ?_)
                      · omega
                      · refine xv (x_iconst 292 d_X8_distanceAgain_291 rfl) ?_
                        refine xv (x_goto 297 d_X8_distanceAgain_292 rfl) ?_
                        refine xv_r (x_ireturn d_X8_distanceAgain_297 rfl rfl) ?_
                        have ek : k = cs (M 1) := by omega
                        rw [ek] at hI
                        obtain ⟨f1, f2⟩ := fw_end hC hI k6 k14
                        have hd := @dst_r (M 1) y z
                        have er : dagM (M 1) y z = (2, 0) := by
                          unfold dagM
                          rw [if_neg (fun z_ => z_ ⟨k6, k14⟩)]
                          first
                          | (rw [if_pos (f2 (by omega))]; done)
                          | (rw [if_pos (f2 (by omega))])
                          | (rw [if_neg (by have := f1 (by omega); omega), ← f1 (by omega)])
                        refine hQ _ _ ⟨by rw [er], (uM (uA (uM M 0 5 0) 10 F) 0 5 2), rfl, ?_, rfl, rfl, rfl, rfl⟩
                        rw [er]
                        first | rfl | exact u1_u1
                  · refine xv (x_iconst 159 d_X8_distanceAgain_158 rfl) ?_
                    refine xv (x_istore 161 d_X8_distanceAgain_159 rfl (Nat.le_of_ble_eq_true rfl)) ?_
                    show Xv E q_m_X8_distanceAgain 161 [Value.ref am, Value.int (zi y), Value.int (zi z), Value.int (zi (cs (M 1))), Value.int (zi k), Value.int (zi 0), x6, x7] [] (q_mw h am (uA (uM M 0 5 0) 10 F)) Q
                    have L161 : ∀ (n_ : Nat) (a : Int) (F : Int → Int) (x6 : Value) (x7 : Value), (0 ≤ a) → (a ≤ cs (M 1)) → (FwI (M 1) F k a 0) → (cs (M 1) - a).toNat = n_ → Xv E q_m_X8_distanceAgain 161 [Value.ref am, Value.int (zi y), Value.int (zi z), Value.int (zi (cs (M 1))), Value.int (zi k), Value.int (zi a), x6, x7] [] (q_mw h am (uA (uM M 0 5 0) 10 F)) Q := by
                      intro n_
                      induction n_ using Nat.strongRecOn with
                      | _ n_ ih161 =>
                        intro a F x6 x7 a0 a1 hI em
                        refine xv (x_iload 163 d_X8_distanceAgain_161 rfl rfl) ?_
                        refine xv (x_iload_n 164 d_X8_distanceAgain_163 rfl rfl) ?_
                        refine v_icmp_ge 248 167 d_X8_distanceAgain_164 rfl rfl (by omega) (by omega) (by omega) (by omega) (fun k164 => ?_) (fun k164 => ?_)
                        · refine xv (x_iinc 251 d_X8_distanceAgain_248 rfl rfl) ?_
                          show Xv E q_m_X8_distanceAgain 251 [Value.ref am, Value.int (zi y), Value.int (zi z), Value.int (zi (cs (M 1))), Value.int (zi (k + 1)), Value.int (zi a), x6, x7] [] (q_mw h am (uA (uM M 0 5 0) 10 F)) Q
                          refine xv (x_goto 152 d_X8_distanceAgain_251 rfl) ?_
                          have ea : a = cs (M 1) := by omega
                          rw [ea] at hI
                          exact ih152 _ (by omega) (k + 1) _ _ _ _ (by omega) (by omega) (fw_rnd hI) rfl
                        · refine xv (x_iconst 168 d_X8_distanceAgain_167 rfl) ?_
                          refine xv (x_istore 170 d_X8_distanceAgain_168 rfl (Nat.le_of_ble_eq_true rfl)) ?_
                          show Xv E q_m_X8_distanceAgain 170 [Value.ref am, Value.int (zi y), Value.int (zi z), Value.int (zi (cs (M 1))), Value.int (zi k), Value.int (zi a), Value.int (zi 0), x7] [] (q_mw h am (uA (uM M 0 5 0) 10 F)) Q
                          have L170 : ∀ (n_ : Nat) (b : Int) (F : Int → Int) (x7 : Value), (0 ≤ b) → (b ≤ cs (M 1)) → (FwI (M 1) F k a b) → (cs (M 1) - b).toNat = n_ → Xv E q_m_X8_distanceAgain 170 [Value.ref am, Value.int (zi y), Value.int (zi z), Value.int (zi (cs (M 1))), Value.int (zi k), Value.int (zi a), Value.int (zi b), x7] [] (q_mw h am (uA (uM M 0 5 0) 10 F)) Q := by
                            intro n_
                            induction n_ using Nat.strongRecOn with
                            | _ n_ ih170 =>
                              intro b F x7 b0 b1 hI em
                              refine xv (x_iload 172 d_X8_distanceAgain_170 rfl rfl) ?_
                              refine xv (x_iload_n 173 d_X8_distanceAgain_172 rfl rfl) ?_
                              refine v_icmp_ge 242 176 d_X8_distanceAgain_173 rfl rfl (by omega) (by omega) (by omega) (by omega) (fun k173 => ?_) (fun k173 => ?_)
                              · refine xv (x_iinc 245 d_X8_distanceAgain_242 rfl rfl) ?_
                                show Xv E q_m_X8_distanceAgain 245 [Value.ref am, Value.int (zi y), Value.int (zi z), Value.int (zi (cs (M 1))), Value.int (zi k), Value.int (zi (a + 1)), Value.int (zi b), x7] [] (q_mw h am (uA (uM M 0 5 0) 10 F)) Q
                                refine xv (x_goto 161 d_X8_distanceAgain_245 rfl) ?_
                                have eb : b = cs (M 1) := by omega
                                rw [eb] at hI
                                exact ih161 _ (by omega) (a + 1) _ _ _ (by omega) (by omega) (fw_row hI) rfl
                              · refine xv (x_aload_n 177 d_X8_distanceAgain_176 rfl rfl) ?_
                                refine xv (x_getfield 180 d_X8_distanceAgain_177 rfl f_8_38 (Nat.le_of_ble_eq_true rfl) (Nat.le_of_ble_eq_true rfl) (q_gf_of m_o rfl)) ?_
                                refine xv (x_bipush 182 d_X8_distanceAgain_180 rfl rfl) ?_
                                refine xv (x_iload 184 d_X8_distanceAgain_182 rfl rfl) ?_
                                refine xv (x_imul 185 d_X8_distanceAgain_184 rfl) ?_
                                refine xv (x_iload 187 d_X8_distanceAgain_185 rfl rfl) ?_
                                refine xv (x_iadd 188 d_X8_distanceAgain_187 rfl) ?_
                                refine xv (x_iaload 189 d_X8_distanceAgain_188 rfl ((m_g10 (by omega) (by omega)).trans (rfl : _ = some (Value.int (zi (F ((48 * a) + k))))))) ?_
                                have q188 := (hI.1 a k ⟨by omega, by omega⟩ ⟨by omega, by omega⟩).1
                                refine xv (x_aload_n 190 d_X8_distanceAgain_189 rfl rfl) ?_
                                refine xv (x_getfield 193 d_X8_distanceAgain_190 rfl f_8_38 (Nat.le_of_ble_eq_true rfl) (Nat.le_of_ble_eq_true rfl) (q_gf_of m_o rfl)) ?_
                                refine xv (x_bipush 195 d_X8_distanceAgain_193 rfl rfl) ?_
                                refine xv (x_iload 197 d_X8_distanceAgain_195 rfl rfl) ?_
                                refine xv (x_imul 198 d_X8_distanceAgain_197 rfl) ?_
                                refine xv (x_iload 200 d_X8_distanceAgain_198 rfl rfl) ?_
                                refine xv (x_iadd 201 d_X8_distanceAgain_200 rfl) ?_
                                refine xv (x_iaload 202 d_X8_distanceAgain_201 rfl ((m_g10 (by omega) (by omega)).trans (rfl : _ = some (Value.int (zi (F ((48 * k) + b))))))) ?_
                                have q201 := (hI.1 k b ⟨by omega, by omega⟩ ⟨by omega, by omega⟩).1
                                refine xv (x_iadd 203 d_X8_distanceAgain_202 rfl) ?_
                                refine xv (x_istore 205 d_X8_distanceAgain_203 rfl (Nat.le_of_ble_eq_true rfl)) ?_
                                show Xv E q_m_X8_distanceAgain 205 [Value.ref am, Value.int (zi y), Value.int (zi z), Value.int (zi (cs (M 1))), Value.int (zi k), Value.int (zi a), Value.int (zi b), Value.int (zi ((F ((48 * a) + k)) + (F ((48 * k) + b))))] [] (q_mw h am (uA (uM M 0 5 0) 10 F)) Q
                                refine xv (x_aload_n 206 d_X8_distanceAgain_205 rfl rfl) ?_
                                refine xv (x_getfield 209 d_X8_distanceAgain_206 rfl f_8_38 (Nat.le_of_ble_eq_true rfl) (Nat.le_of_ble_eq_true rfl) (q_gf_of m_o rfl)) ?_
                                refine xv (x_bipush 211 d_X8_distanceAgain_209 rfl rfl) ?_
                                refine xv (x_iload 213 d_X8_distanceAgain_211 rfl rfl) ?_
                                refine xv (x_imul 214 d_X8_distanceAgain_213 rfl) ?_
                                refine xv (x_iload 216 d_X8_distanceAgain_214 rfl rfl) ?_
                                refine xv (x_iadd 217 d_X8_distanceAgain_216 rfl) ?_
                                refine xv (x_aload_n 218 d_X8_distanceAgain_217 rfl rfl) ?_
                                refine xv (x_getfield 221 d_X8_distanceAgain_218 rfl f_8_38 (Nat.le_of_ble_eq_true rfl) (Nat.le_of_ble_eq_true rfl) (q_gf_of m_o rfl)) ?_
                                refine xv (x_bipush 223 d_X8_distanceAgain_221 rfl rfl) ?_
                                refine xv (x_iload 225 d_X8_distanceAgain_223 rfl rfl) ?_
                                refine xv (x_imul 226 d_X8_distanceAgain_225 rfl) ?_
                                refine xv (x_iload 228 d_X8_distanceAgain_226 rfl rfl) ?_
                                refine xv (x_iadd 229 d_X8_distanceAgain_228 rfl) ?_
                                refine xv (x_iaload 230 d_X8_distanceAgain_229 rfl ((m_g10 (by omega) (by omega)).trans (rfl : _ = some (Value.int (zi (F ((48 * a) + b))))))) ?_
                                have q229 := (hI.1 a b ⟨by omega, by omega⟩ ⟨by omega, by omega⟩).1
                                refine xv (x_iload 232 d_X8_distanceAgain_230 rfl rfl) ?_
                                refine xv (x_mmin 235 d_X8_distanceAgain_232 rfl rfl rfl rfl (Nat.le_of_ble_eq_true rfl) (Nat.le_of_ble_eq_true rfl) (Nat.le_of_ble_eq_true rfl) (by omega) (by omega) (by omega) (by omega)) ?_
                                refine xv (x_iastore 236 d_X8_distanceAgain_235 rfl (m_s10 (by omega) (by omega))) ?_
                                show Xv E q_m_X8_distanceAgain 236 [Value.ref am, Value.int (zi y), Value.int (zi z), Value.int (zi (cs (M 1))), Value.int (zi k), Value.int (zi a), Value.int (zi b), Value.int (zi ((F ((48 * a) + k)) + (F ((48 * k) + b))))] [] (q_mw h am (uM (uA (uM M 0 5 0) 10 F) 10 ((48 * a) + b) (min (F ((48 * a) + b)) ((F ((48 * a) + k)) + (F ((48 * k) + b)))))) Q
                                refine xv (x_iinc 239 d_X8_distanceAgain_236 rfl rfl) ?_
                                show Xv E q_m_X8_distanceAgain 239 [Value.ref am, Value.int (zi y), Value.int (zi z), Value.int (zi (cs (M 1))), Value.int (zi k), Value.int (zi a), Value.int (zi (b + 1)), Value.int (zi ((F ((48 * a) + k)) + (F ((48 * k) + b))))] [] (q_mw h am (uM (uA (uM M 0 5 0) 10 F) 10 ((48 * a) + b) (min (F ((48 * a) + b)) ((F ((48 * a) + k)) + (F ((48 * k) + b)))))) Q
                                refine xv (x_goto 170 d_X8_distanceAgain_239 rfl) ?_
                                rw [uM_uA]
                                exact ih170 _ (by omega) (b + 1) _ _ (by omega) (by omega) (fw_step gc.2 hI ⟨by omega, by omega⟩ ⟨by omega, by omega⟩ ⟨by omega, by omega⟩) rfl
                          exact L170 _ 0 F _ (by omega) (by omega) hI rfl
                    exact L161 _ 0 F _ _ (by omega) (by omega) hI rfl
              exact L152 _ 0 F _ _ _ (by omega) (by omega) (fw_0 hC (fun a' b' c1 c2 => hI a' b' c1 c2 (by have := c1.2; omega))) rfl
            · refine xv (x_iconst 49 d_X8_distanceAgain_48 rfl) ?_
              refine xv (x_istore 51 d_X8_distanceAgain_49 rfl (Nat.le_of_ble_eq_true rfl)) ?_
              show Xv E q_m_X8_distanceAgain 51 [Value.ref am, Value.int (zi y), Value.int (zi z), Value.int (zi (cs (M 1))), Value.int (zi a), Value.int (zi 0), x6, x7] [] (q_mw h am (uA (uM M 0 5 0) 10 F)) Q
              have L51 : ∀ (n_ : Nat) (b : Int) (F : Int → Int), (0 ≤ b) → (b ≤ cs (M 1)) → (∀ a' b', isC (M 1) a' → isC (M 1) b' → a' < a → T0R (M 1) 4 a' b' (F (48 * a' + b'))) → (∀ b', 0 ≤ b' → b' < b → F (48 * a + b') = if a = b' then 0 else 1000) → (cs (M 1) - b).toNat = n_ → Xv E q_m_X8_distanceAgain 51 [Value.ref am, Value.int (zi y), Value.int (zi z), Value.int (zi (cs (M 1))), Value.int (zi a), Value.int (zi b), x6, x7] [] (q_mw h am (uA (uM M 0 5 0) 10 F)) Q := by
                intro n_
                induction n_ using Nat.strongRecOn with
                | _ n_ ih51 =>
                  intro b F b0 b1 h1 h2 em
                  refine xv (x_iload 53 d_X8_distanceAgain_51 rfl rfl) ?_
                  refine xv (x_iload_n 54 d_X8_distanceAgain_53 rfl rfl) ?_
                  refine v_icmp_ge 90 57 d_X8_distanceAgain_54 rfl rfl (by omega) (by omega) (by omega) (by omega) (fun k54 => ?_) (fun k54 => ?_)
                  · refine xv (x_iconst 91 d_X8_distanceAgain_90 rfl) ?_
                    refine xv (x_istore 93 d_X8_distanceAgain_91 rfl (Nat.le_of_ble_eq_true rfl)) ?_
                    show Xv E q_m_X8_distanceAgain 93 [Value.ref am, Value.int (zi y), Value.int (zi z), Value.int (zi (cs (M 1))), Value.int (zi a), Value.int (zi 0), x6, x7] [] (q_mw h am (uA (uM M 0 5 0) 10 F)) Q
                    have L93 : ∀ (n_ : Nat) (w : Int) (F : Int → Int) (x6 : Value), (0 ≤ w) → (w ≤ 4) → (T0I (M 1) F a w) → (4 - w).toNat = n_ → Xv E q_m_X8_distanceAgain 93 [Value.ref am, Value.int (zi y), Value.int (zi z), Value.int (zi (cs (M 1))), Value.int (zi a), Value.int (zi w), x6, x7] [] (q_mw h am (uA (uM M 0 5 0) 10 F)) Q := by
                      intro n_
                      induction n_ using Nat.strongRecOn with
                      | _ n_ ih93 =>
                        intro w F x6 w0 w1 hI em
                        refine xv (x_iload 95 d_X8_distanceAgain_93 rfl rfl) ?_
                        refine xv (x_iconst 96 d_X8_distanceAgain_95 rfl) ?_
                        refine v_icmp_ge 143 99 d_X8_distanceAgain_96 rfl rfl (by omega) (by omega) (by omega) (by omega) (fun k96 => ?_) (fun k96 => ?_)
                        · refine xv (x_iinc 146 d_X8_distanceAgain_143 rfl rfl) ?_
                          show Xv E q_m_X8_distanceAgain 146 [Value.ref am, Value.int (zi y), Value.int (zi z), Value.int (zi (cs (M 1))), Value.int (zi (a + 1)), Value.int (zi w), x6, x7] [] (q_mw h am (uA (uM M 0 5 0) 10 F)) Q
                          refine xv (x_goto 42 d_X8_distanceAgain_146 rfl) ?_
                          have ew : w = 4 := by omega
                          rw [ew] at hI
                          refine ih42 _ (by omega) (a + 1) _ _ _ _ (by omega) (by omega) (fun a' b' c1 c2 c3 => ?_) rfl
                          by_cases z : a' = a
                          · rw [z]; exact hI.2 b' c2
                          · exact hI.1 a' b' c1 c2 (by omega)
                        · refine xv (x_aload_n 100 d_X8_distanceAgain_99 rfl rfl) ?_
                          refine xv (x_iload 102 d_X8_distanceAgain_100 rfl rfl) ?_
                          refine xv (x_iload 104 d_X8_distanceAgain_102 rfl rfl) ?_
                          refine xv (x_inv1 107 (as := [Value.int (zi a), Value.int (zi w)]) d_X8_distanceAgain_104 rfl c_8_124 rfl (Nat.le_of_ble_eq_true rfl) (Nat.le_of_ble_eq_true rfl) m_o (Nat.le_of_ble_eq_true rfl) (Nat.le_of_ble_eq_true rfl) rfl (S_X8_beside (E := E) (h := h) (am := am) (M := (uA (uM M 0 5 0) 10 F)) hR (by first | omega | (rw [show (uA (uM M 0 5 0) 10 F) 1 = (M 1) from rfl]; omega)) (by first | omega | (rw [show (uA (uM M 0 5 0) 10 F) 1 = (M 1) from rfl]; omega)) (by first | omega | (rw [show (uA (uM M 0 5 0) 10 F) 1 = (M 1) from rfl]; omega)))) ?_
                          have q_1 := bes_r hR (c := a) (w := w) (by omega)
                          show Xv E q_m_X8_distanceAgain 107 [Value.ref am, Value.int (zi y), Value.int (zi z), Value.int (zi (cs (M 1))), Value.int (zi a), Value.int (zi w), x6, x7] [Value.int (zi (bes (M 1) a w))] (q_mw h am (uA (uM M 0 5 0) 10 F)) Q
                          refine xv (x_istore 109 d_X8_distanceAgain_107 rfl (Nat.le_of_ble_eq_true rfl)) ?_
                          show Xv E q_m_X8_distanceAgain 109 [Value.ref am, Value.int (zi y), Value.int (zi z), Value.int (zi (cs (M 1))), Value.int (zi a), Value.int (zi w), Value.int (zi (bes (M 1) a w)), x7] [] (q_mw h am (uA (uM M 0 5 0) 10 F)) Q
                          refine xv (x_iload 111 d_X8_distanceAgain_109 rfl rfl) ?_
                          refine v_if_lt 137 114 d_X8_distanceAgain_111 rfl rfl (by omega) (by omega) (fun k111 => ?_) (fun k111 => ?_)
                          · refine xv (x_iinc 140 d_X8_distanceAgain_137 rfl rfl) ?_
                            show Xv E q_m_X8_distanceAgain 140 [Value.ref am, Value.int (zi y), Value.int (zi z), Value.int (zi (cs (M 1))), Value.int (zi a), Value.int (zi (w + 1)), Value.int (zi (bes (M 1) a w)), x7] [] (q_mw h am (uA (uM M 0 5 0) 10 F)) Q
                            refine xv (x_goto 93 d_X8_distanceAgain_140 rfl) ?_
                            exact ih93 _ (by omega) (w + 1) _ _ (by omega) (by omega) (t0_w hI (fun z_ => by first | exact k120 z_.2 | exact absurd z_.1 (by omega))) rfl
                          · refine xv (x_aload_n 115 d_X8_distanceAgain_114 rfl rfl) ?_
                            refine xv (x_iload 117 d_X8_distanceAgain_115 rfl rfl) ?_
                            refine xv (x_inv1 120 (as := [Value.int (zi (bes (M 1) a w))]) d_X8_distanceAgain_117 rfl c_8_93 rfl (Nat.le_of_ble_eq_true rfl) (Nat.le_of_ble_eq_true rfl) m_o (Nat.le_of_ble_eq_true rfl) (Nat.le_of_ble_eq_true rfl) rfl (S_X8_canEnter (E := E) (h := h) (am := am) (M := (uA (uM M 0 5 0) 10 F)) hR (by first | omega | (rw [show (uA (uM M 0 5 0) 10 F) 1 = (M 1) from rfl]; omega)) (by first | omega | (rw [show (uA (uM M 0 5 0) 10 F) 1 = (M 1) from rfl]; omega)))) ?_
                            show Xv E q_m_X8_distanceAgain 120 [Value.ref am, Value.int (zi y), Value.int (zi z), Value.int (zi (cs (M 1))), Value.int (zi a), Value.int (zi w), Value.int (zi (bes (M 1) a w)), x7] [Value.int (zi (bI (ent (M 1) (bes (M 1) a w))))] (q_mw h am (uA (uM M 0 5 0) 10 F)) Q
                            refine v_if_eq 137 123 d_X8_distanceAgain_120 rfl rfl (by have := bI_r (ent (M 1) (bes (M 1) a w)); omega) (by have := bI_r (ent (M 1) (bes (M 1) a w)); omega) (fun k120 => ?_) (fun k120 => ?_)
                            · replace k120 := bI_0.mp k120
                              refine xv (x_iinc 140 d_X8_distanceAgain_137 rfl rfl) ?_
                              show Xv E q_m_X8_distanceAgain 140 [Value.ref am, Value.int (zi y), Value.int (zi z), Value.int (zi (cs (M 1))), Value.int (zi a), Value.int (zi (w + 1)), Value.int (zi (bes (M 1) a w)), x7] [] (q_mw h am (uA (uM M 0 5 0) 10 F)) Q
                              refine xv (x_goto 93 d_X8_distanceAgain_140 rfl) ?_
                              exact ih93 _ (by omega) (w + 1) _ _ (by omega) (by omega) (t0_w hI (fun z_ => by first | exact k120 z_.2 | exact absurd z_.1 (by omega))) rfl
                            · replace k120 := bI_n0.mp k120
                              refine xv (x_aload_n 124 d_X8_distanceAgain_123 rfl rfl) ?_
                              refine xv (x_getfield 127 d_X8_distanceAgain_124 rfl f_8_38 (Nat.le_of_ble_eq_true rfl) (Nat.le_of_ble_eq_true rfl) (q_gf_of m_o rfl)) ?_
                              refine xv (x_bipush 129 d_X8_distanceAgain_127 rfl rfl) ?_
                              refine xv (x_iload 131 d_X8_distanceAgain_129 rfl rfl) ?_
                              refine xv (x_imul 132 d_X8_distanceAgain_131 rfl) ?_
                              refine xv (x_iload 134 d_X8_distanceAgain_132 rfl rfl) ?_
                              refine xv (x_iadd 135 d_X8_distanceAgain_134 rfl) ?_
                              refine xv (x_iconst 136 d_X8_distanceAgain_135 rfl) ?_
                              refine xv (x_iastore 137 d_X8_distanceAgain_136 rfl (m_s10 (by omega) (by omega))) ?_
                              show Xv E q_m_X8_distanceAgain 137 [Value.ref am, Value.int (zi y), Value.int (zi z), Value.int (zi (cs (M 1))), Value.int (zi a), Value.int (zi w), Value.int (zi (bes (M 1) a w)), x7] [] (q_mw h am (uM (uA (uM M 0 5 0) 10 F) 10 ((48 * a) + (bes (M 1) a w)) 1)) Q
                              refine xv (x_iinc 140 d_X8_distanceAgain_137 rfl rfl) ?_
                              show Xv E q_m_X8_distanceAgain 140 [Value.ref am, Value.int (zi y), Value.int (zi z), Value.int (zi (cs (M 1))), Value.int (zi a), Value.int (zi (w + 1)), Value.int (zi (bes (M 1) a w)), x7] [] (q_mw h am (uM (uA (uM M 0 5 0) 10 F) 10 ((48 * a) + (bes (M 1) a w)) 1)) Q
                              refine xv (x_goto 93 d_X8_distanceAgain_140 rfl) ?_
                              rw [uM_uA]
                              exact ih93 _ (by omega) (w + 1) _ _ (by omega) (by omega) (t0_s gc.2 hC hI ⟨by omega, by omega⟩ ⟨by omega, by omega⟩ ⟨by omega, k120⟩ (by omega)) rfl
                    exact L93 _ 0 F _ (by omega) (by omega) ⟨h1, fun b' c1 => by rw [h2 b' c1.1 (by have := c1.2; omega)]; exact t0_0⟩ rfl
                  · refine xv (x_aload_n 58 d_X8_distanceAgain_57 rfl rfl) ?_
                    refine xv (x_getfield 61 d_X8_distanceAgain_58 rfl f_8_38 (Nat.le_of_ble_eq_true rfl) (Nat.le_of_ble_eq_true rfl) (q_gf_of m_o rfl)) ?_
                    refine xv (x_bipush 63 d_X8_distanceAgain_61 rfl rfl) ?_
                    refine xv (x_iload 65 d_X8_distanceAgain_63 rfl rfl) ?_
                    refine xv (x_imul 66 d_X8_distanceAgain_65 rfl) ?_
                    refine xv (x_iload 68 d_X8_distanceAgain_66 rfl rfl) ?_
                    refine xv (x_iadd 69 d_X8_distanceAgain_68 rfl) ?_
                    refine xv (x_iload 71 d_X8_distanceAgain_69 rfl rfl) ?_
                    refine xv (x_iload 73 d_X8_distanceAgain_71 rfl rfl) ?_
                    refine v_icmp_ne 80 76 d_X8_distanceAgain_73 rfl rfl (by omega) (by omega) (by omega) (by omega) (fun k73 => ?_) (fun k73 => ?_)
                    · refine xv (x_sipush 83 d_X8_distanceAgain_80 rfl rfl) ?_
                      refine xv (x_iastore 84 d_X8_distanceAgain_83 rfl (m_s10 (by omega) (by omega))) ?_
                      show Xv E q_m_X8_distanceAgain 84 [Value.ref am, Value.int (zi y), Value.int (zi z), Value.int (zi (cs (M 1))), Value.int (zi a), Value.int (zi b), x6, x7] [] (q_mw h am (uM (uA (uM M 0 5 0) 10 F) 10 ((48 * a) + b) 1000)) Q
                      refine xv (x_iinc 87 d_X8_distanceAgain_84 rfl rfl) ?_
                      show Xv E q_m_X8_distanceAgain 87 [Value.ref am, Value.int (zi y), Value.int (zi z), Value.int (zi (cs (M 1))), Value.int (zi a), Value.int (zi (b + 1)), x6, x7] [] (q_mw h am (uM (uA (uM M 0 5 0) 10 F) 10 ((48 * a) + b) 1000)) Q
                      refine xv (x_goto 51 d_X8_distanceAgain_87 rfl) ?_
                      rw [uM_uA]
                      refine ih51 _ (by omega) (b + 1) _ (by omega) (by omega) (fun a' b' c1 c2 c3 => ?_) (fun b' c1 c2 => ?_) rfl
                      · rw [u1_ne (by omega)]; exact h1 a' b' c1 c2 c3
                      · by_cases z : b' = b
                        · rw [z, u1_eq]; first | exact (if_pos (by omega)).symm | exact (if_neg (by omega)).symm
                        · rw [u1_ne (by omega)]; exact h2 b' c1 (by omega)
                    · refine xv (x_iconst 77 d_X8_distanceAgain_76 rfl) ?_
                      refine xv (x_goto 83 d_X8_distanceAgain_77 rfl) ?_
                      refine xv (x_iastore 84 d_X8_distanceAgain_83 rfl (m_s10 (by omega) (by omega))) ?_
                      show Xv E q_m_X8_distanceAgain 84 [Value.ref am, Value.int (zi y), Value.int (zi z), Value.int (zi (cs (M 1))), Value.int (zi a), Value.int (zi b), x6, x7] [] (q_mw h am (uM (uA (uM M 0 5 0) 10 F) 10 ((48 * a) + b) 0)) Q
                      refine xv (x_iinc 87 d_X8_distanceAgain_84 rfl rfl) ?_
                      show Xv E q_m_X8_distanceAgain 87 [Value.ref am, Value.int (zi y), Value.int (zi z), Value.int (zi (cs (M 1))), Value.int (zi a), Value.int (zi (b + 1)), x6, x7] [] (q_mw h am (uM (uA (uM M 0 5 0) 10 F) 10 ((48 * a) + b) 0)) Q
                      refine xv (x_goto 51 d_X8_distanceAgain_87 rfl) ?_
                      rw [uM_uA]
                      refine ih51 _ (by omega) (b + 1) _ (by omega) (by omega) (fun a' b' c1 c2 c3 => ?_) (fun b' c1 c2 => ?_) rfl
                      · rw [u1_ne (by omega)]; exact h1 a' b' c1 c2 c3
                      · by_cases z : b' = b
                        · rw [z, u1_eq]; first | exact (if_pos (by omega)).symm | exact (if_neg (by omega)).symm
                        · rw [u1_ne (by omega)]; exact h2 b' c1 (by omega)
              exact L51 _ 0 F (by omega) (by omega) hI (fun b' c1 c2 => by omega) rfl
        have im_ : uA (uM M 0 5 0) 10 (M 10) = uM M 0 5 0 := uA_self
        have i0 := fun x5 x6 x7 => L42 _ 0 (M 10) x5 x6 x7 (by omega) (by omega) (fun a' b' c1 c2 c3 => by have := c1.1; omega) rfl
        rw [im_] at i0
        exact i0 _ _ _
      · omega
noncomputable def arrM (l : Int → Int) (r g : Int) : Int × Int := if ¬ (isR l r ∧ isC l g) then (1, 0) else if rb l r 0 = g then (0, 0) else if ¬ ent l g then (2, 0) else if fwM l r g < 0 then (2, 0) else (0, fwM l r g)
theorem S_X8_arrival (hR : Rg (M 1)) (hT : 0 ≤ M 1 2) {y z : Int} (y0 : -2147483648 ≤ y) (y1 : y < 2147483648) (z0 : -2147483648 ≤ z) (z1 : z < 2147483648) : ∃ r_ h', q_cl E q_m_X8_arrival [Value.ref am, Value.int (zi y), Value.int (zi z)] (q_mw h am M) = some (r_, h') ∧ (r_ = .inl (some (.int (zi (arrM (M 1) y z).2))) ∧ ∃ M', h' = q_mw h am M' ∧ MS M M' (arrM (M 1) y z).1) := by
  suffices K : ∀ Q : q_R → q_H → Prop, (∀ r_ h', (r_ = .inl (some (.int (zi (arrM (M 1) y z).2))) ∧ ∃ M', h' = q_mw h am M' ∧ MS M M' (arrM (M 1) y z).1) → Q r_ h') → Xv E q_m_X8_arrival 0 [Value.ref am, Value.int (zi y), Value.int (zi z), Value.null] [] (q_mw h am M) Q from K _ fun _ _ p => p
  intro Q hQ
  have hR0 := hR
  obtain ⟨hr, g0, g1, g3, g4, gc, g5, g6, g7, gk, gl, gr, go⟩ := hR0
  refine xv (x_aload_n 1 d_X8_arrival_0 rfl rfl) ?_
  refine xv (x_aload_n 2 d_X8_arrival_1 rfl rfl) ?_
  refine xv (x_iload_n 3 d_X8_arrival_2 rfl rfl) ?_
  refine xv (x_inv1 6 (as := [Value.int (zi y)]) d_X8_arrival_3 rfl c_8_103 rfl (Nat.le_of_ble_eq_true rfl) (Nat.le_of_ble_eq_true rfl) m_o (Nat.le_of_ble_eq_true rfl) (Nat.le_of_ble_eq_true rfl) rfl (S_X8_isRobot (E := E) (h := h) (am := am) (M := M) hR (by omega) (by omega))) ?_
  show Xv E q_m_X8_arrival 6 [Value.ref am, Value.int (zi y), Value.int (zi z), Value.null] [Value.int (zi (bI (isR (M 1) y))), Value.ref am] (q_mw h am M) Q
  refine v_if_eq 21 9 d_X8_arrival_6 rfl rfl (by have := bI_r (isR (M 1) y); omega) (by have := bI_r (isR (M 1) y); omega) (fun k6 => ?_) (fun k6 => ?_)
  · replace k6 := bI_0.mp k6
    refine xv (x_iconst 22 d_X8_arrival_21 rfl) ?_
    refine xv (x_putfield 25 d_X8_arrival_22 rfl f_8_49 (Nat.le_of_ble_eq_true rfl) m_pf5 rfl rfl (fun e => absurd e (by decide))) ?_
    show Xv E q_m_X8_arrival 25 [Value.ref am, Value.int (zi y), Value.int (zi z), Value.null] [] (q_mw h am (uM M 0 5 1)) Q
    refine xv (x_aload_n 26 d_X8_arrival_25 rfl rfl) ?_
    refine xv (x_getfield 29 d_X8_arrival_26 rfl f_8_49 (Nat.le_of_ble_eq_true rfl) (Nat.le_of_ble_eq_true rfl) ((q_gf_of (m_o (h := h) (am := am) (M := (uM M 0 5 1))) rfl : q_gf (q_mw h am (uM M 0 5 1)) am 8 5 = some (Value.int (zi 1))))) ?_
    refine v_if_gt 42 32 d_X8_arrival_29 rfl rfl (by omega) (by omega) (fun k29 => ?_) (fun k29 => ?_)
    · refine xv (x_iconst 43 d_X8_arrival_42 rfl) ?_
      refine xv_r (x_ireturn d_X8_arrival_43 rfl rfl) ?_
      have er : arrM (M 1) y z = (1, 0) := by unfold arrM; repeat (first | rw [if_pos (by omega)] | rw [if_neg (by omega)])
      refine hQ _ _ ⟨by rw [er], (uM M 0 5 1), rfl, ?_, rfl, rfl, rfl, rfl⟩
      rw [er]
      first | rfl | exact u1_u1
    · omega
  · replace k6 := bI_n0.mp k6
    refine xv (x_aload_n 10 d_X8_arrival_9 rfl rfl) ?_
    refine xv (x_iload_n 11 d_X8_arrival_10 rfl rfl) ?_
    refine xv (x_inv1 14 (as := [Value.int (zi z)]) d_X8_arrival_11 rfl c_8_86 rfl (Nat.le_of_ble_eq_true rfl) (Nat.le_of_ble_eq_true rfl) m_o (Nat.le_of_ble_eq_true rfl) (Nat.le_of_ble_eq_true rfl) rfl (S_X8_isCell (E := E) (h := h) (am := am) (M := M) hR (by omega) (by omega))) ?_
    show Xv E q_m_X8_arrival 14 [Value.ref am, Value.int (zi y), Value.int (zi z), Value.null] [Value.int (zi (bI (isC (M 1) z))), Value.ref am] (q_mw h am M) Q
    refine v_if_eq 21 17 d_X8_arrival_14 rfl rfl (by have := bI_r (isC (M 1) z); omega) (by have := bI_r (isC (M 1) z); omega) (fun k14 => ?_) (fun k14 => ?_)
    · replace k14 := bI_0.mp k14
      refine xv (x_iconst 22 d_X8_arrival_21 rfl) ?_
      refine xv (x_putfield 25 d_X8_arrival_22 rfl f_8_49 (Nat.le_of_ble_eq_true rfl) m_pf5 rfl rfl (fun e => absurd e (by decide))) ?_
      show Xv E q_m_X8_arrival 25 [Value.ref am, Value.int (zi y), Value.int (zi z), Value.null] [] (q_mw h am (uM M 0 5 1)) Q
      refine xv (x_aload_n 26 d_X8_arrival_25 rfl rfl) ?_
      refine xv (x_getfield 29 d_X8_arrival_26 rfl f_8_49 (Nat.le_of_ble_eq_true rfl) (Nat.le_of_ble_eq_true rfl) ((q_gf_of (m_o (h := h) (am := am) (M := (uM M 0 5 1))) rfl : q_gf (q_mw h am (uM M 0 5 1)) am 8 5 = some (Value.int (zi 1))))) ?_
      refine v_if_gt 42 32 d_X8_arrival_29 rfl rfl (by omega) (by omega) (fun k29 => ?_) (fun k29 => ?_)
      · refine xv (x_iconst 43 d_X8_arrival_42 rfl) ?_
        refine xv_r (x_ireturn d_X8_arrival_43 rfl rfl) ?_
        have er : arrM (M 1) y z = (1, 0) := by unfold arrM; repeat (first | rw [if_pos (by omega)] | rw [if_neg (by omega)])
        refine hQ _ _ ⟨by rw [er], (uM M 0 5 1), rfl, ?_, rfl, rfl, rfl, rfl⟩
        rw [er]
        first | rfl | exact u1_u1
      · omega
    · replace k14 := bI_n0.mp k14
      refine xv (x_iconst 18 d_X8_arrival_17 rfl) ?_
      refine xv (x_goto 22 d_X8_arrival_18 rfl) ?_
      refine xv (x_putfield 25 d_X8_arrival_22 rfl f_8_49 (Nat.le_of_ble_eq_true rfl) m_pf5 rfl rfl (fun e => absurd e (by decide))) ?_
      show Xv E q_m_X8_arrival 25 [Value.ref am, Value.int (zi y), Value.int (zi z), Value.null] [] (q_mw h am (uM M 0 5 0)) Q
      refine xv (x_aload_n 26 d_X8_arrival_25 rfl rfl) ?_
      refine xv (x_getfield 29 d_X8_arrival_26 rfl f_8_49 (Nat.le_of_ble_eq_true rfl) (Nat.le_of_ble_eq_true rfl) ((q_gf_of (m_o (h := h) (am := am) (M := (uM M 0 5 0))) rfl : q_gf (q_mw h am (uM M 0 5 0)) am 8 5 = some (Value.int (zi 0))))) ?_
      refine v_if_gt 42 32 d_X8_arrival_29 rfl rfl (by omega) (by omega) (fun k29 => ?_) (fun k29 => ?_)
      · omega
      · refine xv (x_aload_n 33 d_X8_arrival_32 rfl rfl) ?_
        refine xv (x_iload_n 34 d_X8_arrival_33 rfl rfl) ?_
        refine xv (x_iconst 35 d_X8_arrival_34 rfl) ?_
        refine xv (x_inv1 38 (as := [Value.int (zi y), Value.int (zi 0)]) d_X8_arrival_35 rfl c_8_79 rfl (Nat.le_of_ble_eq_true rfl) (Nat.le_of_ble_eq_true rfl) m_o (Nat.le_of_ble_eq_true rfl) (Nat.le_of_ble_eq_true rfl) rfl (S_X8_of (E := E) (h := h) (am := am) (M := (uM M 0 5 0)) hR (by first | omega | (rw [show (uM M 0 5 0) 1 = (M 1) from rfl]; omega)) (by first | omega | (rw [show (uM M 0 5 0) 1 = (M 1) from rfl]; omega)) (by first | omega | (rw [show (uM M 0 5 0) 1 = (M 1) from rfl]; omega)) (by first | omega | (rw [show (uM M 0 5 0) 1 = (M 1) from rfl]; omega)))) ?_
        have q_1 : -1000000 ≤ rb (M 1) y 0 ∧ rb (M 1) y 0 ≤ 1000000 := hr _
        show Xv E q_m_X8_arrival 38 [Value.ref am, Value.int (zi y), Value.int (zi z), Value.null] [Value.int (zi (rb (M 1) y 0))] (q_mw h am (uM M 0 5 0)) Q
        refine xv (x_iload_n 39 d_X8_arrival_38 rfl rfl) ?_
        refine v_icmp_ne 44 42 d_X8_arrival_39 rfl rfl (by omega) (by omega) (by omega) (by omega) (fun k39 => ?_) (fun k39 => ?_)
        · refine xv (x_aload_n 45 d_X8_arrival_44 rfl rfl) ?_
          refine xv (x_iload_n 46 d_X8_arrival_45 rfl rfl) ?_
          refine xv (x_inv1 49 (as := [Value.int (zi z)]) d_X8_arrival_46 rfl c_8_93 rfl (Nat.le_of_ble_eq_true rfl) (Nat.le_of_ble_eq_true rfl) m_o (Nat.le_of_ble_eq_true rfl) (Nat.le_of_ble_eq_true rfl) rfl (S_X8_canEnter (E := E) (h := h) (am := am) (M := (uM M 0 5 0)) hR (by first | omega | (rw [show (uM M 0 5 0) 1 = (M 1) from rfl]; omega)) (by first | omega | (rw [show (uM M 0 5 0) 1 = (M 1) from rfl]; omega)))) ?_
          show Xv E q_m_X8_arrival 49 [Value.ref am, Value.int (zi y), Value.int (zi z), Value.null] [Value.int (zi (bI (ent (M 1) z)))] (q_mw h am (uM M 0 5 0)) Q
          refine v_if_eq 61 52 d_X8_arrival_49 rfl rfl (by have := bI_r (ent (M 1) z); omega) (by have := bI_r (ent (M 1) z); omega) (fun k49 => ?_) (fun k49 => ?_)
          · replace k49 := bI_0.mp k49
            refine xv (x_iconst 62 d_X8_arrival_61 rfl) ?_
            refine xv (x_istore_n 63 d_X8_arrival_62 rfl (Nat.le_of_ble_eq_true rfl)) ?_
            show Xv E q_m_X8_arrival 63 [Value.ref am, Value.int (zi y), Value.int (zi z), Value.int (zi (-1))] [] (q_mw h am (uM M 0 5 0)) Q
            refine xv (x_aload_n 64 d_X8_arrival_63 rfl rfl) ?_
            refine xv (x_iload_n 65 d_X8_arrival_64 rfl rfl) ?_
            refine v_if_ge 72 68 d_X8_arrival_65 rfl rfl (by omega) (by omega) (fun k65 => ?_) (fun k65 => ?_)
            · omega
            · refine xv (x_iconst 69 d_X8_arrival_68 rfl) ?_
              refine xv (x_goto 73 d_X8_arrival_69 rfl) ?_
              refine xv (x_putfield 76 d_X8_arrival_73 rfl f_8_49 (Nat.le_of_ble_eq_true rfl) m_pf5 rfl rfl (fun e => absurd e (by decide))) ?_
              show Xv E q_m_X8_arrival 76 [Value.ref am, Value.int (zi y), Value.int (zi z), Value.int (zi (-1))] [] (q_mw h am (uM (uM M 0 5 0) 0 5 2)) Q
              refine xv (x_aload_n 77 d_X8_arrival_76 rfl rfl) ?_
              refine xv (x_getfield 80 d_X8_arrival_77 rfl f_8_49 (Nat.le_of_ble_eq_true rfl) (Nat.le_of_ble_eq_true rfl) ((q_gf_of (m_o (h := h) (am := am) (M := (uM (uM M 0 5 0) 0 5 2))) rfl : q_gf (q_mw h am (uM (uM M 0 5 0) 0 5 2)) am 8 5 = some (Value.int (zi 2))))) ?_
              refine v_if_le 87 83 d_X8_arrival_80 rfl rfl (by omega) (by omega) (fun k80 => ?_) (fun k80 => ?_)
              · omega
              · refine xv (x_iconst 84 d_X8_arrival_83 rfl) ?_
                refine xv (x_goto 88 d_X8_arrival_84 rfl) ?_
                refine xv_r (x_ireturn d_X8_arrival_88 rfl rfl) ?_
                have er : arrM (M 1) y z = (2, 0) := by unfold arrM; repeat (first | rw [if_pos (by omega)] | rw [if_neg (by omega)])
                refine hQ _ _ ⟨by rw [er], (uM (uM M 0 5 0) 0 5 2), rfl, ?_, rfl, rfl, rfl, rfl⟩
                rw [er]
                first | rfl | exact u1_u1
          · replace k49 := bI_n0.mp k49
            refine xv (x_aload_n 53 d_X8_arrival_52 rfl rfl) ?_
            refine xv (x_iload_n 54 d_X8_arrival_53 rfl rfl) ?_
            refine xv (x_iload_n 55 d_X8_arrival_54 rfl rfl) ?_
            obtain ⟨r55, h55, e55, z55, C, y55⟩ := S_X8_fewest (E := E) (h := h) (am := am) (M := (uM M 0 5 0)) (r := y) (g := z) hR hT k6 k14
            subst z55
            subst y55
            refine xv (x_inv1 58 (as := [Value.int (zi y), Value.int (zi z)]) d_X8_arrival_55 rfl c_8_142 rfl (Nat.le_of_ble_eq_true rfl) (Nat.le_of_ble_eq_true rfl) m_o (Nat.le_of_ble_eq_true rfl) (Nat.le_of_ble_eq_true rfl) rfl e55) ?_
            have q55 : -1 ≤ fwM (M 1) y z ∧ fwM (M 1) y z ≤ 30 := by have := @fnd_r (cnL (M 1) y z) (M 1 7).toNat 1; unfold fwM; omega
            show Xv E q_m_X8_arrival 58 [Value.ref am, Value.int (zi y), Value.int (zi z), Value.null] [Value.int (zi (fwM (M 1) y z))] (q_mw h am (uA (uM M 0 5 0) 5 C)) Q
            refine xv (x_goto 62 d_X8_arrival_58 rfl) ?_
            refine xv (x_istore_n 63 d_X8_arrival_62 rfl (Nat.le_of_ble_eq_true rfl)) ?_
            show Xv E q_m_X8_arrival 63 [Value.ref am, Value.int (zi y), Value.int (zi z), Value.int (zi (fwM (M 1) y z))] [] (q_mw h am (uA (uM M 0 5 0) 5 C)) Q
            refine xv (x_aload_n 64 d_X8_arrival_63 rfl rfl) ?_
            refine xv (x_iload_n 65 d_X8_arrival_64 rfl rfl) ?_
            refine v_if_ge 72 68 d_X8_arrival_65 rfl rfl (by omega) (by omega) (fun k65 => ?_) (fun k65 => ?_)
            · refine xv (x_iconst 73 d_X8_arrival_72 rfl) ?_
              refine xv (x_putfield 76 d_X8_arrival_73 rfl f_8_49 (Nat.le_of_ble_eq_true rfl) m_pf5 rfl rfl (fun e => absurd e (by decide))) ?_
              show Xv E q_m_X8_arrival 76 [Value.ref am, Value.int (zi y), Value.int (zi z), Value.int (zi (fwM (M 1) y z))] [] (q_mw h am (uM (uA (uM M 0 5 0) 5 C) 0 5 0)) Q
              refine xv (x_aload_n 77 d_X8_arrival_76 rfl rfl) ?_
              refine xv (x_getfield 80 d_X8_arrival_77 rfl f_8_49 (Nat.le_of_ble_eq_true rfl) (Nat.le_of_ble_eq_true rfl) ((q_gf_of (m_o (h := h) (am := am) (M := (uM (uA (uM M 0 5 0) 5 C) 0 5 0))) rfl : q_gf (q_mw h am (uM (uA (uM M 0 5 0) 5 C) 0 5 0)) am 8 5 = some (Value.int (zi 0))))) ?_
              refine v_if_le 87 83 d_X8_arrival_80 rfl rfl (by omega) (by omega) (fun k80 => ?_) (fun k80 => ?_)
              · refine xv (x_iload_n 88 d_X8_arrival_87 rfl rfl) ?_
                refine xv_r (x_ireturn d_X8_arrival_88 rfl rfl) ?_
                have er : arrM (M 1) y z = (0, fwM (M 1) y z) := by unfold arrM; repeat (first | rw [if_pos (by omega)] | rw [if_neg (by omega)])
                refine hQ _ _ ⟨by rw [er], (uM (uA (uM M 0 5 0) 5 C) 0 5 0), rfl, ?_, rfl, rfl, rfl, rfl⟩
                rw [er]
                first | rfl | exact u1_u1
              · omega
            · refine xv (x_iconst 69 d_X8_arrival_68 rfl) ?_
              refine xv (x_goto 73 d_X8_arrival_69 rfl) ?_
              refine xv (x_putfield 76 d_X8_arrival_73 rfl f_8_49 (Nat.le_of_ble_eq_true rfl) m_pf5 rfl rfl (fun e => absurd e (by decide))) ?_
              show Xv E q_m_X8_arrival 76 [Value.ref am, Value.int (zi y), Value.int (zi z), Value.int (zi (fwM (M 1) y z))] [] (q_mw h am (uM (uA (uM M 0 5 0) 5 C) 0 5 2)) Q
              refine xv (x_aload_n 77 d_X8_arrival_76 rfl rfl) ?_
              refine xv (x_getfield 80 d_X8_arrival_77 rfl f_8_49 (Nat.le_of_ble_eq_true rfl) (Nat.le_of_ble_eq_true rfl) ((q_gf_of (m_o (h := h) (am := am) (M := (uM (uA (uM M 0 5 0) 5 C) 0 5 2))) rfl : q_gf (q_mw h am (uM (uA (uM M 0 5 0) 5 C) 0 5 2)) am 8 5 = some (Value.int (zi 2))))) ?_
              refine v_if_le 87 83 d_X8_arrival_80 rfl rfl (by omega) (by omega) (fun k80 => ?_) (fun k80 => ?_)
              · omega
              · refine xv (x_iconst 84 d_X8_arrival_83 rfl) ?_
                refine xv (x_goto 88 d_X8_arrival_84 rfl) ?_
                refine xv_r (x_ireturn d_X8_arrival_88 rfl rfl) ?_
                have er : arrM (M 1) y z = (2, 0) := by unfold arrM; repeat (first | rw [if_pos (by omega)] | rw [if_neg (by omega)])
                refine hQ _ _ ⟨by rw [er], (uM (uA (uM M 0 5 0) 5 C) 0 5 2), rfl, ?_, rfl, rfl, rfl, rfl⟩
                rw [er]
                first | rfl | exact u1_u1
        · refine xv (x_iconst 43 d_X8_arrival_42 rfl) ?_
          refine xv_r (x_ireturn d_X8_arrival_43 rfl rfl) ?_
          have er : arrM (M 1) y z = (0, 0) := by unfold arrM; repeat (first | rw [if_pos (by omega)] | rw [if_neg (by omega)])
          refine hQ _ _ ⟨by rw [er], (uM M 0 5 0), rfl, ?_, rfl, rfl, rfl, rfl⟩
          rw [er]
          first | rfl | exact u1_u1
theorem S_X8_arrivalAgain (hR : Rg (M 1)) (hT : 0 ≤ M 1 2) {y z : Int} (y0 : -2147483648 ≤ y) (y1 : y < 2147483648) (z0 : -2147483648 ≤ z) (z1 : z < 2147483648) : ∃ r_ h', q_cl E q_m_X8_arrivalAgain [Value.ref am, Value.int (zi y), Value.int (zi z)] (q_mw h am M) = some (r_, h') ∧ (r_ = .inl (some (.int (zi (arrM (M 1) y z).2))) ∧ ∃ M', h' = q_mw h am M' ∧ MS M M' (arrM (M 1) y z).1) := by
  suffices K : ∀ Q : q_R → q_H → Prop, (∀ r_ h', (r_ = .inl (some (.int (zi (arrM (M 1) y z).2))) ∧ ∃ M', h' = q_mw h am M' ∧ MS M M' (arrM (M 1) y z).1) → Q r_ h') → Xv E q_m_X8_arrivalAgain 0 [Value.ref am, Value.int (zi y), Value.int (zi z)] [] (q_mw h am M) Q from K _ fun _ _ p => p
  intro Q hQ
  refine xv (x_aload_n 1 d_X8_arrivalAgain_0 rfl rfl) ?_
  refine xv (x_iload_n 2 d_X8_arrivalAgain_1 rfl rfl) ?_
  refine xv (x_iload_n 3 d_X8_arrivalAgain_2 rfl rfl) ?_
  obtain ⟨r3, h3, e3, z3, M', y3, hm⟩ := S_X8_arrival (E := E) (h := h) (am := am) (M := M) (y := y) (z := z) hR hT y0 y1 z0 z1
  subst z3
  subst y3
  refine xv (x_inv1 6 (as := [Value.int (zi y), Value.int (zi z)]) d_X8_arrivalAgain_3 rfl c_8_179 rfl (Nat.le_of_ble_eq_true rfl) (Nat.le_of_ble_eq_true rfl) m_o (Nat.le_of_ble_eq_true rfl) (Nat.le_of_ble_eq_true rfl) rfl e3) ?_
  show Xv E q_m_X8_arrivalAgain 6 [Value.ref am, Value.int (zi y), Value.int (zi z)] [Value.int (zi ((arrM (M 1) y z).2))] (q_mw h am (M')) Q
  refine xv_r (x_ireturn d_X8_arrivalAgain_6 rfl rfl) ?_
  exact hQ _ _ ⟨rfl, M', rfl, hm⟩
end RB3
