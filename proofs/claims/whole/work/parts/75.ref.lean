/-! the reference: reach, farthest (printed by program) -/
section RA1
variable {E : q_E} {h : q_H} {am : Nat} {M M2 : q_Im} {l g : Int → Int} {y k b : Int}
noncomputable def rcN (l : Int → Int) (a : Int) : Int := lpI (fun k x => x + bI (0 ≤ far l a k)) (cs l).toNat 0 0
noncomputable def rchM (l : Int → Int) (a : Int) : Int × Int := if ¬ isC l a then (1, 0) else (0, rcN l a)
def frD (l : Int → Int) (a : Int) : Nat → Int → Int
  | 0, b => b
  | n + 1, b => frD l a n (if far l a b ≤ far l a (n : Nat) then (n : Nat) else b)
theorem frD_b (hk : 0 ≤ k) : frD l y (k + 1).toNat b = frD l y k.toNat (if far l y b ≤ far l y k then k else b) := by
  rw [show (k + 1).toNat = k.toNat + 1 by omega]
  show frD l y k.toNat (if far l y b ≤ far l y (k.toNat : Nat) then (k.toNat : Nat) else b) = _
  rw [Int.toNat_of_nonneg hk]
def frtM (l : Int → Int) (a : Int) : Int × Int := if ¬ isC l a then (1, 0) else (0, frD l a (cs l).toNat a)
theorem S_X8_reach (hR : Rg (M 1)) (hT : 0 ≤ M 1 2) {y : Int} (y0 : -2147483648 ≤ y) (y1 : y < 2147483648) : ∃ r_ h', q_cl E q_m_X8_reach [Value.ref am, Value.int (zi y)] (q_mw h am M) = some (r_, h') ∧ (r_ = .inl (some (.int (zi (rchM (M 1) y).2))) ∧ ∃ M', h' = q_mw h am M' ∧ MS M M' (rchM (M 1) y).1) := by
  suffices K : ∀ Q : q_R → q_H → Prop, (∀ r_ h', (r_ = .inl (some (.int (zi (rchM (M 1) y).2))) ∧ ∃ M', h' = q_mw h am M' ∧ MS M M' (rchM (M 1) y).1) → Q r_ h') → Xv E q_m_X8_reach 0 [Value.ref am, Value.int (zi y), Value.null, Value.null] [] (q_mw h am M) Q from K _ fun _ _ p => p
  intro Q hQ
  have hR0 := hR
  obtain ⟨hr, g0, g1, g3, g4, gc, g5, g6, g7, gk, gl, gr, go⟩ := hR0
  refine xv (x_aload_n 1 d_X8_reach_0 rfl rfl) ?_
  refine xv (x_aload_n 2 d_X8_reach_1 rfl rfl) ?_
  refine xv (x_iload_n 3 d_X8_reach_2 rfl rfl) ?_
  refine xv (x_inv1 6 (as := [Value.int (zi y)]) d_X8_reach_3 rfl c_8_86 rfl (Nat.le_of_ble_eq_true rfl) (Nat.le_of_ble_eq_true rfl) m_o (Nat.le_of_ble_eq_true rfl) (Nat.le_of_ble_eq_true rfl) rfl (S_X8_isCell (E := E) (h := h) (am := am) (M := M) hR (by omega) (by omega))) ?_
  show Xv E q_m_X8_reach 6 [Value.ref am, Value.int (zi y), Value.null, Value.null] [Value.int (zi (bI (isC (M 1) y))), Value.ref am] (q_mw h am M) Q
  refine v_if_eq 13 9 d_X8_reach_6 rfl rfl (by have := bI_r (isC (M 1) y); omega) (by have := bI_r (isC (M 1) y); omega) (fun k6 => ?_) (fun k6 => ?_)
  · replace k6 := bI_0.mp k6
    refine xv (x_iconst 14 d_X8_reach_13 rfl) ?_
    refine xv (x_putfield 17 d_X8_reach_14 rfl f_8_49 (Nat.le_of_ble_eq_true rfl) m_pf5 rfl rfl (fun e => absurd e (by decide))) ?_
    show Xv E q_m_X8_reach 17 [Value.ref am, Value.int (zi y), Value.null, Value.null] [] (q_mw h am (uM M 0 5 1)) Q
    refine xv (x_aload_n 18 d_X8_reach_17 rfl rfl) ?_
    refine xv (x_getfield 21 d_X8_reach_18 rfl f_8_49 (Nat.le_of_ble_eq_true rfl) (Nat.le_of_ble_eq_true rfl) ((q_gf_of (m_o (h := h) (am := am) (M := (uM M 0 5 1))) rfl : q_gf (q_mw h am (uM M 0 5 1)) am 8 5 = some (Value.int (zi 1))))) ?_
    refine v_if_le 26 24 d_X8_reach_21 rfl rfl (by omega) (by omega) (fun k21 => ?_) (fun k21 => ?_)
    · omega
    · refine xv (x_iconst 25 d_X8_reach_24 rfl) ?_
      refine xv_r (x_ireturn d_X8_reach_25 rfl rfl) ?_
      have er : rchM (M 1) y = (1, 0) := by unfold rchM; first | exact if_pos (by omega) | exact if_neg (by omega)
      refine hQ _ _ ⟨by rw [er], (uM M 0 5 1), rfl, ?_, rfl, rfl, rfl, rfl⟩
      rw [er]
      rfl
  · replace k6 := bI_n0.mp k6
    refine xv (x_iconst 10 d_X8_reach_9 rfl) ?_
    refine xv (x_goto 14 d_X8_reach_10 rfl) ?_
    refine xv (x_putfield 17 d_X8_reach_14 rfl f_8_49 (Nat.le_of_ble_eq_true rfl) m_pf5 rfl rfl (fun e => absurd e (by decide))) ?_
    show Xv E q_m_X8_reach 17 [Value.ref am, Value.int (zi y), Value.null, Value.null] [] (q_mw h am (uM M 0 5 0)) Q
    refine xv (x_aload_n 18 d_X8_reach_17 rfl rfl) ?_
    refine xv (x_getfield 21 d_X8_reach_18 rfl f_8_49 (Nat.le_of_ble_eq_true rfl) (Nat.le_of_ble_eq_true rfl) ((q_gf_of (m_o (h := h) (am := am) (M := (uM M 0 5 0))) rfl : q_gf (q_mw h am (uM M 0 5 0)) am 8 5 = some (Value.int (zi 0))))) ?_
    refine v_if_le 26 24 d_X8_reach_21 rfl rfl (by omega) (by omega) (fun k21 => ?_) (fun k21 => ?_)
    · refine xv (x_aload_n 27 d_X8_reach_26 rfl rfl) ?_
      refine xv (x_iload_n 28 d_X8_reach_27 rfl rfl) ?_
      obtain ⟨r28, h28, e28, z28, f28, m28, a28, y28⟩ := S_X8_findFar (E := E) (h := h) (am := am) (M := (uM M 0 5 0)) (y := y) hR hT (show isC (M 1) y by omega)
      subst z28
      subst y28
      replace a28 : ∀ i, 0 ≤ i → i < 48 → f28 i = far (M 1) y i := a28
      refine xv (x_inv0 31 (as := [Value.int (zi y)]) d_X8_reach_28 rfl c_8_162 rfl (Nat.le_of_ble_eq_true rfl) (Nat.le_of_ble_eq_true rfl) m_o (Nat.le_of_ble_eq_true rfl) (Nat.le_of_ble_eq_true rfl) rfl e28) ?_
      show Xv E q_m_X8_reach 31 [Value.ref am, Value.int (zi y), Value.null, Value.null] [] (q_mw h am (uA (uA (uM M 0 5 0) 8 f28) 9 m28)) Q
      refine xv (x_iconst 32 d_X8_reach_31 rfl) ?_
      refine xv (x_istore_n 33 d_X8_reach_32 rfl (Nat.le_of_ble_eq_true rfl)) ?_
      show Xv E q_m_X8_reach 33 [Value.ref am, Value.int (zi y), Value.int (zi 0), Value.null] [] (q_mw h am (uA (uA (uM M 0 5 0) 8 f28) 9 m28)) Q
      refine xv (x_iconst 34 d_X8_reach_33 rfl) ?_
      refine xv (x_istore_n 35 d_X8_reach_34 rfl (Nat.le_of_ble_eq_true rfl)) ?_
      show Xv E q_m_X8_reach 35 [Value.ref am, Value.int (zi y), Value.int (zi 0), Value.int (zi 0)] [] (q_mw h am (uA (uA (uM M 0 5 0) 8 f28) 9 m28)) Q
      have L35 : ∀ (n_ : Nat) (x : Int) (k : Int), (0 ≤ k) → (k ≤ cs (M 1)) → (0 ≤ x ∧ x ≤ k) → (rcN (M 1) y = lpI (fun k x => x + bI (0 ≤ far (M 1) y k)) (cs (M 1) - k).toNat k x) → (cs (M 1) - k).toNat = n_ → Xv E q_m_X8_reach 35 [Value.ref am, Value.int (zi y), Value.int (zi x), Value.int (zi k)] [] (q_mw h am (uA (uA (uM M 0 5 0) 8 f28) 9 m28)) Q := by
        intro n_
        induction n_ using Nat.strongRecOn with
        | _ n_ ih35 =>
          intro x k k0 k1 x0 hv em
          have fk := (far_r (rgc_of hR hT) k6 k).1
          refine xv (x_iload_n 36 d_X8_reach_35 rfl rfl) ?_
          refine xv (x_aload_n 37 d_X8_reach_36 rfl rfl) ?_
          refine xv (x_inv1 40 (as := []) d_X8_reach_37 rfl c_8_67 rfl (Nat.le_of_ble_eq_true rfl) (Nat.le_of_ble_eq_true rfl) m_o (Nat.le_of_ble_eq_true rfl) (Nat.le_of_ble_eq_true rfl) rfl (S_X8_cells (E := E) (h := h) (am := am) (M := (uA (uA (uM M 0 5 0) 8 f28) 9 m28)) hR)) ?_
          show Xv E q_m_X8_reach 40 [Value.ref am, Value.int (zi y), Value.int (zi x), Value.int (zi k)] [Value.int (zi (cs (M 1))), Value.int (zi k)] (q_mw h am (uA (uA (uM M 0 5 0) 8 f28) 9 m28)) Q
          refine v_icmp_ge 66 43 d_X8_reach_40 rfl rfl (by omega) (by omega) (by omega) (by omega) (fun k40 => ?_) (fun k40 => ?_)
          · refine xv (x_iload_n 67 d_X8_reach_66 rfl rfl) ?_
            refine xv_r (x_ireturn d_X8_reach_67 rfl rfl) ?_
            have ev : rcN (M 1) y = x := hv.trans (lpI_e (by omega))
            have er : rchM (M 1) y = (0, x) := by unfold rchM; rw [if_neg (fun e => e k6), ev]
            refine hQ _ _ ⟨by rw [er], (uA (uA (uM M 0 5 0) 8 f28) 9 m28), rfl, ?_, rfl, rfl, rfl, rfl⟩
            rw [er]
            try rfl
          · refine xv (x_iload_n 44 d_X8_reach_43 rfl rfl) ?_
            refine xv (x_aload_n 45 d_X8_reach_44 rfl rfl) ?_
            refine xv (x_getfield 48 d_X8_reach_45 rfl f_8_32 (Nat.le_of_ble_eq_true rfl) (Nat.le_of_ble_eq_true rfl) (q_gf_of m_o rfl)) ?_
            refine xv (x_iload_n 49 d_X8_reach_48 rfl rfl) ?_
            refine xv (x_iaload 50 d_X8_reach_49 rfl ((m_g8 (by omega) (by omega)).trans (congrArg (fun z => some (Value.int (zi z))) (a28 k (by omega) (by omega))))) ?_
            refine v_if_lt 57 53 d_X8_reach_50 rfl rfl (by omega) (by omega) (fun k50 => ?_) (fun k50 => ?_)
            · refine xv (x_iconst 58 d_X8_reach_57 rfl) ?_
              refine xv (x_iadd 59 d_X8_reach_58 rfl) ?_
              refine xv (x_istore_n 60 d_X8_reach_59 rfl (Nat.le_of_ble_eq_true rfl)) ?_
              show Xv E q_m_X8_reach 60 [Value.ref am, Value.int (zi y), Value.int (zi (x + 0)), Value.int (zi k)] [] (q_mw h am (uA (uA (uM M 0 5 0) 8 f28) 9 m28)) Q
              refine xv (x_iinc 63 d_X8_reach_60 rfl rfl) ?_
              show Xv E q_m_X8_reach 63 [Value.ref am, Value.int (zi y), Value.int (zi (x + 0)), Value.int (zi (k + 1))] [] (q_mw h am (uA (uA (uM M 0 5 0) 8 f28) 9 m28)) Q
              refine xv (x_goto 35 d_X8_reach_63 rfl) ?_
              refine ih35 _ (by omega) _ (k + 1) (by omega) (by omega) (by omega) (hv.trans ((lpI_b (by omega)).trans (congrArg (lpI _ _ _) ?_))) rfl
              show x + bI (0 ≤ far (M 1) y k) = _
              rw [bI_f (by omega)]
            · refine xv (x_iconst 54 d_X8_reach_53 rfl) ?_
              refine xv (x_goto 58 d_X8_reach_54 rfl) ?_
              refine xv (x_iadd 59 d_X8_reach_58 rfl) ?_
              refine xv (x_istore_n 60 d_X8_reach_59 rfl (Nat.le_of_ble_eq_true rfl)) ?_
              show Xv E q_m_X8_reach 60 [Value.ref am, Value.int (zi y), Value.int (zi (x + 1)), Value.int (zi k)] [] (q_mw h am (uA (uA (uM M 0 5 0) 8 f28) 9 m28)) Q
              refine xv (x_iinc 63 d_X8_reach_60 rfl rfl) ?_
              show Xv E q_m_X8_reach 63 [Value.ref am, Value.int (zi y), Value.int (zi (x + 1)), Value.int (zi (k + 1))] [] (q_mw h am (uA (uA (uM M 0 5 0) 8 f28) 9 m28)) Q
              refine xv (x_goto 35 d_X8_reach_63 rfl) ?_
              refine ih35 _ (by omega) _ (k + 1) (by omega) (by omega) (by omega) (hv.trans ((lpI_b (by omega)).trans (congrArg (lpI _ _ _) ?_))) rfl
              show x + bI (0 ≤ far (M 1) y k) = _
              rw [bI_t (by omega)]
      exact L35 _ 0 0 (by omega) (by omega) (by omega) (by rw [Int.sub_zero]; rfl) rfl
    · omega
theorem S_X8_farthest (hR : Rg (M 1)) (hT : 0 ≤ M 1 2) {y : Int} (y0 : -2147483648 ≤ y) (y1 : y < 2147483648) : ∃ r_ h', q_cl E q_m_X8_farthest [Value.ref am, Value.int (zi y)] (q_mw h am M) = some (r_, h') ∧ (r_ = .inl (some (.int (zi (frtM (M 1) y).2))) ∧ ∃ M', h' = q_mw h am M' ∧ MS M M' (frtM (M 1) y).1) := by
  suffices K : ∀ Q : q_R → q_H → Prop, (∀ r_ h', (r_ = .inl (some (.int (zi (frtM (M 1) y).2))) ∧ ∃ M', h' = q_mw h am M' ∧ MS M M' (frtM (M 1) y).1) → Q r_ h') → Xv E q_m_X8_farthest 0 [Value.ref am, Value.int (zi y), Value.null, Value.null] [] (q_mw h am M) Q from K _ fun _ _ p => p
  intro Q hQ
  have hR0 := hR
  obtain ⟨hr, g0, g1, g3, g4, gc, g5, g6, g7, gk, gl, gr, go⟩ := hR0
  refine xv (x_aload_n 1 d_X8_farthest_0 rfl rfl) ?_
  refine xv (x_aload_n 2 d_X8_farthest_1 rfl rfl) ?_
  refine xv (x_iload_n 3 d_X8_farthest_2 rfl rfl) ?_
  refine xv (x_inv1 6 (as := [Value.int (zi y)]) d_X8_farthest_3 rfl c_8_86 rfl (Nat.le_of_ble_eq_true rfl) (Nat.le_of_ble_eq_true rfl) m_o (Nat.le_of_ble_eq_true rfl) (Nat.le_of_ble_eq_true rfl) rfl (S_X8_isCell (E := E) (h := h) (am := am) (M := M) hR (by omega) (by omega))) ?_
  show Xv E q_m_X8_farthest 6 [Value.ref am, Value.int (zi y), Value.null, Value.null] [Value.int (zi (bI (isC (M 1) y))), Value.ref am] (q_mw h am M) Q
  refine v_if_eq 13 9 d_X8_farthest_6 rfl rfl (by have := bI_r (isC (M 1) y); omega) (by have := bI_r (isC (M 1) y); omega) (fun k6 => ?_) (fun k6 => ?_)
  · replace k6 := bI_0.mp k6
    refine xv (x_iconst 14 d_X8_farthest_13 rfl) ?_
    refine xv (x_putfield 17 d_X8_farthest_14 rfl f_8_49 (Nat.le_of_ble_eq_true rfl) m_pf5 rfl rfl (fun e => absurd e (by decide))) ?_
    show Xv E q_m_X8_farthest 17 [Value.ref am, Value.int (zi y), Value.null, Value.null] [] (q_mw h am (uM M 0 5 1)) Q
    refine xv (x_aload_n 18 d_X8_farthest_17 rfl rfl) ?_
    refine xv (x_getfield 21 d_X8_farthest_18 rfl f_8_49 (Nat.le_of_ble_eq_true rfl) (Nat.le_of_ble_eq_true rfl) ((q_gf_of (m_o (h := h) (am := am) (M := (uM M 0 5 1))) rfl : q_gf (q_mw h am (uM M 0 5 1)) am 8 5 = some (Value.int (zi 1))))) ?_
    refine v_if_le 26 24 d_X8_farthest_21 rfl rfl (by omega) (by omega) (fun k21 => ?_) (fun k21 => ?_)
    · omega
    · refine xv (x_iconst 25 d_X8_farthest_24 rfl) ?_
      refine xv_r (x_ireturn d_X8_farthest_25 rfl rfl) ?_
      have er : frtM (M 1) y = (1, 0) := by unfold frtM; first | exact if_pos (by omega) | exact if_neg (by omega)
      refine hQ _ _ ⟨by rw [er], (uM M 0 5 1), rfl, ?_, rfl, rfl, rfl, rfl⟩
      rw [er]
      rfl
  · replace k6 := bI_n0.mp k6
    refine xv (x_iconst 10 d_X8_farthest_9 rfl) ?_
    refine xv (x_goto 14 d_X8_farthest_10 rfl) ?_
    refine xv (x_putfield 17 d_X8_farthest_14 rfl f_8_49 (Nat.le_of_ble_eq_true rfl) m_pf5 rfl rfl (fun e => absurd e (by decide))) ?_
    show Xv E q_m_X8_farthest 17 [Value.ref am, Value.int (zi y), Value.null, Value.null] [] (q_mw h am (uM M 0 5 0)) Q
    refine xv (x_aload_n 18 d_X8_farthest_17 rfl rfl) ?_
    refine xv (x_getfield 21 d_X8_farthest_18 rfl f_8_49 (Nat.le_of_ble_eq_true rfl) (Nat.le_of_ble_eq_true rfl) ((q_gf_of (m_o (h := h) (am := am) (M := (uM M 0 5 0))) rfl : q_gf (q_mw h am (uM M 0 5 0)) am 8 5 = some (Value.int (zi 0))))) ?_
    refine v_if_le 26 24 d_X8_farthest_21 rfl rfl (by omega) (by omega) (fun k21 => ?_) (fun k21 => ?_)
    · refine xv (x_aload_n 27 d_X8_farthest_26 rfl rfl) ?_
      refine xv (x_iload_n 28 d_X8_farthest_27 rfl rfl) ?_
      obtain ⟨r28, h28, e28, z28, f28, m28, a28, y28⟩ := S_X8_findFar (E := E) (h := h) (am := am) (M := (uM M 0 5 0)) (y := y) hR hT (show isC (M 1) y by omega)
      subst z28
      subst y28
      replace a28 : ∀ i, 0 ≤ i → i < 48 → f28 i = far (M 1) y i := a28
      refine xv (x_inv0 31 (as := [Value.int (zi y)]) d_X8_farthest_28 rfl c_8_162 rfl (Nat.le_of_ble_eq_true rfl) (Nat.le_of_ble_eq_true rfl) m_o (Nat.le_of_ble_eq_true rfl) (Nat.le_of_ble_eq_true rfl) rfl e28) ?_
      show Xv E q_m_X8_farthest 31 [Value.ref am, Value.int (zi y), Value.null, Value.null] [] (q_mw h am (uA (uA (uM M 0 5 0) 8 f28) 9 m28)) Q
      refine xv (x_iload_n 32 d_X8_farthest_31 rfl rfl) ?_
      refine xv (x_istore_n 33 d_X8_farthest_32 rfl (Nat.le_of_ble_eq_true rfl)) ?_
      show Xv E q_m_X8_farthest 33 [Value.ref am, Value.int (zi y), Value.int (zi y), Value.null] [] (q_mw h am (uA (uA (uM M 0 5 0) 8 f28) 9 m28)) Q
      refine xv (x_aload_n 34 d_X8_farthest_33 rfl rfl) ?_
      refine xv (x_inv1 37 (as := []) d_X8_farthest_34 rfl c_8_67 rfl (Nat.le_of_ble_eq_true rfl) (Nat.le_of_ble_eq_true rfl) m_o (Nat.le_of_ble_eq_true rfl) (Nat.le_of_ble_eq_true rfl) rfl (S_X8_cells (E := E) (h := h) (am := am) (M := (uA (uA (uM M 0 5 0) 8 f28) 9 m28)) hR)) ?_
      show Xv E q_m_X8_farthest 37 [Value.ref am, Value.int (zi y), Value.int (zi y), Value.null] [Value.int (zi (cs (M 1)))] (q_mw h am (uA (uA (uM M 0 5 0) 8 f28) 9 m28)) Q
      refine xv (x_iconst 38 d_X8_farthest_37 rfl) ?_
      refine xv (x_isub 39 d_X8_farthest_38 rfl) ?_
      refine xv (x_istore_n 40 d_X8_farthest_39 rfl (Nat.le_of_ble_eq_true rfl)) ?_
      show Xv E q_m_X8_farthest 40 [Value.ref am, Value.int (zi y), Value.int (zi y), Value.int (zi ((cs (M 1)) - 1))] [] (q_mw h am (uA (uA (uM M 0 5 0) 8 f28) 9 m28)) Q
      have L40 : ∀ (n_ : Nat) (b : Int) (k : Int), (-1 ≤ k) → (k < cs (M 1)) → (isC (M 1) b) → (frD (M 1) y (cs (M 1)).toNat y = frD (M 1) y (k + 1).toNat b) → (k + 1).toNat = n_ → Xv E q_m_X8_farthest 40 [Value.ref am, Value.int (zi y), Value.int (zi b), Value.int (zi k)] [] (q_mw h am (uA (uA (uM M 0 5 0) 8 f28) 9 m28)) Q := by
        intro n_
        induction n_ using Nat.strongRecOn with
        | _ n_ ih40 =>
          intro b k k0 k1 b0 hv em
          have fk := (far_r (rgc_of hR hT) k6 k).1
          have fb := (far_r (rgc_of hR hT) k6 b).1
          refine xv (x_iload_n 41 d_X8_farthest_40 rfl rfl) ?_
          refine v_if_lt 71 44 d_X8_farthest_41 rfl rfl (by omega) (by omega) (fun k41 => ?_) (fun k41 => ?_)
          · refine xv (x_iload_n 72 d_X8_farthest_71 rfl rfl) ?_
            refine xv_r (x_ireturn d_X8_farthest_72 rfl rfl) ?_
            have ev : frD (M 1) y (cs (M 1)).toNat y = b := hv.trans (by rw [show (k + 1).toNat = 0 by omega]; rfl)
            have er : frtM (M 1) y = (0, b) := by unfold frtM; rw [if_neg (fun e => e k6), ev]
            refine hQ _ _ ⟨by rw [er], (uA (uA (uM M 0 5 0) 8 f28) 9 m28), rfl, ?_, rfl, rfl, rfl, rfl⟩
            rw [er]
            try rfl
          · refine xv (x_aload_n 45 d_X8_farthest_44 rfl rfl) ?_
            refine xv (x_getfield 48 d_X8_farthest_45 rfl f_8_32 (Nat.le_of_ble_eq_true rfl) (Nat.le_of_ble_eq_true rfl) (q_gf_of m_o rfl)) ?_
            refine xv (x_iload_n 49 d_X8_farthest_48 rfl rfl) ?_
            refine xv (x_iaload 50 d_X8_farthest_49 rfl ((m_g8 (by omega) (by omega)).trans (congrArg (fun z => some (Value.int (zi z))) (a28 k (by omega) (by omega))))) ?_
            refine xv (x_aload_n 51 d_X8_farthest_50 rfl rfl) ?_
            refine xv (x_getfield 54 d_X8_farthest_51 rfl f_8_32 (Nat.le_of_ble_eq_true rfl) (Nat.le_of_ble_eq_true rfl) (q_gf_of m_o rfl)) ?_
            refine xv (x_iload_n 55 d_X8_farthest_54 rfl rfl) ?_
            refine xv (x_iaload 56 d_X8_farthest_55 rfl ((m_g8 (by omega) (by omega)).trans (congrArg (fun z => some (Value.int (zi z))) (a28 b (by omega) (by omega))))) ?_
            refine v_icmp_lt 63 59 d_X8_farthest_56 rfl rfl (by omega) (by omega) (by omega) (by omega) (fun k56 => ?_) (fun k56 => ?_)
            · refine xv (x_iload_n 64 d_X8_farthest_63 rfl rfl) ?_
              refine xv (x_istore_n 65 d_X8_farthest_64 rfl (Nat.le_of_ble_eq_true rfl)) ?_
              show Xv E q_m_X8_farthest 65 [Value.ref am, Value.int (zi y), Value.int (zi b), Value.int (zi k)] [] (q_mw h am (uA (uA (uM M 0 5 0) 8 f28) 9 m28)) Q
              refine xv (x_iinc 68 d_X8_farthest_65 rfl rfl) ?_
              show Xv E q_m_X8_farthest 68 [Value.ref am, Value.int (zi y), Value.int (zi b), Value.int (zi (k + (-1)))] [] (q_mw h am (uA (uA (uM M 0 5 0) 8 f28) 9 m28)) Q
              refine xv (x_goto 40 d_X8_farthest_68 rfl) ?_
              refine ih40 _ (by omega) _ (k + (-1)) (by omega) (by omega) (by omega) (hv.trans ((frD_b (by omega)).trans ?_)) rfl
              rw [show k + (-1) + 1 = k by omega]
              first | rw [if_pos (by omega)] | rw [if_neg (by omega)]
            · refine xv (x_iload_n 60 d_X8_farthest_59 rfl rfl) ?_
              refine xv (x_goto 64 d_X8_farthest_60 rfl) ?_
              refine xv (x_istore_n 65 d_X8_farthest_64 rfl (Nat.le_of_ble_eq_true rfl)) ?_
              show Xv E q_m_X8_farthest 65 [Value.ref am, Value.int (zi y), Value.int (zi k), Value.int (zi k)] [] (q_mw h am (uA (uA (uM M 0 5 0) 8 f28) 9 m28)) Q
              refine xv (x_iinc 68 d_X8_farthest_65 rfl rfl) ?_
              show Xv E q_m_X8_farthest 68 [Value.ref am, Value.int (zi y), Value.int (zi k), Value.int (zi (k + (-1)))] [] (q_mw h am (uA (uA (uM M 0 5 0) 8 f28) 9 m28)) Q
              refine xv (x_goto 40 d_X8_farthest_68 rfl) ?_
              refine ih40 _ (by omega) _ (k + (-1)) (by omega) (by omega) (by omega) (hv.trans ((frD_b (by omega)).trans ?_)) rfl
              rw [show k + (-1) + 1 = k by omega]
              first | rw [if_pos (by omega)] | rw [if_neg (by omega)]
      exact L40 _ y (cs (M 1) - 1) (by omega) (by omega) k6 (by rw [show cs (M 1) - 1 + 1 = cs (M 1) by omega]) rfl
    · omega
end RA1
