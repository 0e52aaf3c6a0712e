/-! the reference: suited (printed by program) -/
section RA2
variable {E : q_E} {h : q_H} {am : Nat} {M M2 : q_Im} {l : Int → Int} {y k b s g n : Int}
abbrev suC (l : Int → Int) (g k b s : Int) : Prop := rb l k 2 < 0 ∧ 0 ≤ far l (rb l k 0) g ∧ (b < 0 ∨ far l (rb l k 0) g < s ∨ (far l (rb l k 0) g = s ∧ rb l b 1 < rb l k 1))
def suD (l : Int → Int) (g : Int) : Nat → Int → Int → Int → Int
  | 0, _, b, _ => b
  | n + 1, k, b, s => if suC l g k b s then suD l g n (k + 1) k (far l (rb l k 0) g) else suD l g n (k + 1) b s
theorem suD_t (hk : k < n) (c : suC l g k b s) : suD l g (n - k).toNat k b s = suD l g (n - (k + 1)).toNat (k + 1) k (far l (rb l k 0) g) := by
  rw [show (n - k).toNat = (n - (k + 1)).toNat + 1 by omega]
  exact if_pos c
theorem suD_f (hk : k < n) (c : ¬ suC l g k b s) : suD l g (n - k).toNat k b s = suD l g (n - (k + 1)).toNat (k + 1) b s := by
  rw [show (n - k).toNat = (n - (k + 1)).toNat + 1 by omega]
  exact if_neg c
theorem suD_e (hk : n ≤ k) : suD l g (n - k).toNat k b s = b := by
  rw [show (n - k).toNat = 0 by omega]
  rfl
def suW (l : Int → Int) (o : Int) : Int := suD l (ob l o 5) (l 3).toNat 0 (-1) 0
def suiM (l : Int → Int) (o : Int) : Int × Int := if ¬ isO l o then (1, 0) else if suW l o < 0 then (2, 0) else (0, suW l o)
theorem S_X8_suited (hR : Rg (M 1)) (hT : 0 ≤ M 1 2) {y : Int} (y0 : -2147483648 ≤ y) (y1 : y < 2147483648) : ∃ r_ h', q_cl E q_m_X8_suited [Value.ref am, Value.int (zi y)] (q_mw h am M) = some (r_, h') ∧ (r_ = .inl (some (.int (zi (suiM (M 1) y).2))) ∧ ∃ M', h' = q_mw h am M' ∧ MS M M' (suiM (M 1) y).1) := by
  suffices K : ∀ Q : q_R → q_H → Prop, (∀ r_ h', (r_ = .inl (some (.int (zi (suiM (M 1) y).2))) ∧ ∃ M', h' = q_mw h am M' ∧ MS M M' (suiM (M 1) y).1) → Q r_ h') → Xv E q_m_X8_suited 0 [Value.ref am, Value.int (zi y), Value.null, Value.null, Value.null, Value.null] [] (q_mw h am M) Q from K _ fun _ _ p => p
  intro Q hQ
  have hR0 := hR
  obtain ⟨hr, g0, g1, g3, g4, gc, g5, g6, g7, gk, gl, gr, go⟩ := hR0
  refine xv (x_aload_n 1 d_X8_suited_0 rfl rfl) ?_
  refine xv (x_aload_n 2 d_X8_suited_1 rfl rfl) ?_
  refine xv (x_iload_n 3 d_X8_suited_2 rfl rfl) ?_
  refine xv (x_inv1 6 (as := [Value.int (zi y)]) d_X8_suited_3 rfl c_8_112 rfl (Nat.le_of_ble_eq_true rfl) (Nat.le_of_ble_eq_true rfl) m_o (Nat.le_of_ble_eq_true rfl) (Nat.le_of_ble_eq_true rfl) rfl (S_X8_isOrder (E := E) (h := h) (am := am) (M := M) hR (by omega) (by omega))) ?_
  show Xv E q_m_X8_suited 6 [Value.ref am, Value.int (zi y), Value.null, Value.null, Value.null, Value.null] [Value.int (zi (bI (isO (M 1) y))), Value.ref am] (q_mw h am M) Q
  refine v_if_eq 13 9 d_X8_suited_6 rfl rfl (by have := bI_r (isO (M 1) y); omega) (by have := bI_r (isO (M 1) y); omega) (fun k6 => ?_) (fun k6 => ?_)
  · replace k6 := bI_0.mp k6
    refine xv (x_iconst 14 d_X8_suited_13 rfl) ?_
    refine xv (x_putfield 17 d_X8_suited_14 rfl f_8_49 (Nat.le_of_ble_eq_true rfl) m_pf5 rfl rfl (fun e => absurd e (by decide))) ?_
    show Xv E q_m_X8_suited 17 [Value.ref am, Value.int (zi y), Value.null, Value.null, Value.null, Value.null] [] (q_mw h am (uM M 0 5 1)) Q
    refine xv (x_aload_n 18 d_X8_suited_17 rfl rfl) ?_
    refine xv (x_getfield 21 d_X8_suited_18 rfl f_8_49 (Nat.le_of_ble_eq_true rfl) (Nat.le_of_ble_eq_true rfl) ((q_gf_of (m_o (h := h) (am := am) (M := (uM M 0 5 1))) rfl : q_gf (q_mw h am (uM M 0 5 1)) am 8 5 = some (Value.int (zi 1))))) ?_
    refine v_if_le 26 24 d_X8_suited_21 rfl rfl (by omega) (by omega) (fun k21 => ?_) (fun k21 => ?_)
    · omega
    · refine xv (x_iconst 25 d_X8_suited_24 rfl) ?_
      refine xv_r (x_ireturn d_X8_suited_25 rfl rfl) ?_
      have er : suiM (M 1) y = (1, 0) := by unfold suiM; exact if_pos (by omega)
      refine hQ _ _ ⟨by rw [er], (uM M 0 5 1), rfl, ?_, rfl, rfl, rfl, rfl⟩
      rw [er]
      rfl
  · replace k6 := bI_n0.mp k6
    have gy := (go y k6.1 k6.2).1
    have gy5 := gy.2.2.2.2.1 0 (by omega) (by omega)
    have gy6 := gy.2.2.2.2.2 0 (by omega) (by omega)
    have g50 : ob (M 1) y (5 + 0) = ob (M 1) y 5 := rfl
    refine xv (x_iconst 10 d_X8_suited_9 rfl) ?_
    refine xv (x_goto 14 d_X8_suited_10 rfl) ?_
    refine xv (x_putfield 17 d_X8_suited_14 rfl f_8_49 (Nat.le_of_ble_eq_true rfl) m_pf5 rfl rfl (fun e => absurd e (by decide))) ?_
    show Xv E q_m_X8_suited 17 [Value.ref am, Value.int (zi y), Value.null, Value.null, Value.null, Value.null] [] (q_mw h am (uM M 0 5 0)) Q
    refine xv (x_aload_n 18 d_X8_suited_17 rfl rfl) ?_
    refine xv (x_getfield 21 d_X8_suited_18 rfl f_8_49 (Nat.le_of_ble_eq_true rfl) (Nat.le_of_ble_eq_true rfl) ((q_gf_of (m_o (h := h) (am := am) (M := (uM M 0 5 0))) rfl : q_gf (q_mw h am (uM M 0 5 0)) am 8 5 = some (Value.int (zi 0))))) ?_
    refine v_if_le 26 24 d_X8_suited_21 rfl rfl (by omega) (by omega) (fun k21 => ?_) (fun k21 => ?_)
    · refine xv (x_iconst 27 d_X8_suited_26 rfl) ?_
      refine xv (x_istore_n 28 d_X8_suited_27 rfl (Nat.le_of_ble_eq_true rfl)) ?_
      show Xv E q_m_X8_suited 28 [Value.ref am, Value.int (zi y), Value.int (zi (-1)), Value.null, Value.null, Value.null] [] (q_mw h am (uM M 0 5 0)) Q
      refine xv (x_iconst 29 d_X8_suited_28 rfl) ?_
      refine xv (x_istore_n 30 d_X8_suited_29 rfl (Nat.le_of_ble_eq_true rfl)) ?_
      show Xv E q_m_X8_suited 30 [Value.ref am, Value.int (zi y), Value.int (zi (-1)), Value.int (zi 0), Value.null, Value.null] [] (q_mw h am (uM M 0 5 0)) Q
      refine xv (x_iconst 31 d_X8_suited_30 rfl) ?_
      refine xv (x_istore 33 d_X8_suited_31 rfl (Nat.le_of_ble_eq_true rfl)) ?_
      show Xv E q_m_X8_suited 33 [Value.ref am, Value.int (zi y), Value.int (zi (-1)), Value.int (zi 0), Value.int (zi 0), Value.null] [] (q_mw h am (uM M 0 5 0)) Q
      have L33 : ∀ (n_ : Nat) (b : Int) (s : Int) (k : Int) (f8 : Int → Int) (mq : Int → Int) (x5 : Value), (0 ≤ k) → (k ≤ M 1 3) → (b = -1 ∨ isR (M 1) b) → (-1 ≤ s ∧ s ≤ 48) → (suW (M 1) y = suD (M 1) (ob (M 1) y 5) (M 1 3 - k).toNat k b s) → (M 1 3 - k).toNat = n_ → Xv E q_m_X8_suited 33 [Value.ref am, Value.int (zi y), Value.int (zi b), Value.int (zi s), Value.int (zi k), x5] [] (q_mw h am (uA (uA (uM M 0 5 0) 8 f8) 9 mq)) Q := by
        intro n_
        induction n_ using Nat.strongRecOn with
        | _ n_ ih33 =>
          intro b s k f8 mq x5 k0 k1 hb hs hv em
          refine xv (x_iload 35 d_X8_suited_33 rfl rfl) ?_
          refine xv (x_aload_n 36 d_X8_suited_35 rfl rfl) ?_
          refine xv (x_getfield 39 d_X8_suited_36 rfl f_8_9 (Nat.le_of_ble_eq_true rfl) (Nat.le_of_ble_eq_true rfl) (q_gf_of m_o rfl)) ?_
          refine xv (x_iconst 40 d_X8_suited_39 rfl) ?_
          refine xv (x_iaload 41 d_X8_suited_40 rfl ((m_g1 (by omega) (by omega)).trans (rfl : _ = some (Value.int (zi ((M 1) 3)))))) ?_
          have q_1 : -1000000 ≤ (M 1) 3 ∧ (M 1) 3 ≤ 1000000 := hr _
          refine v_icmp_ge 126 44 d_X8_suited_41 rfl rfl (by omega) (by omega) (by omega) (by omega) (fun k41 => ?_) (fun k41 => ?_)
          · refine xv (x_aload_n 127 d_X8_suited_126 rfl rfl) ?_
            refine xv (x_iload_n 128 d_X8_suited_127 rfl rfl) ?_
            refine v_if_ge 135 131 d_X8_suited_128 rfl rfl (by omega) (by omega) (fun k128 => ?_) (fun k128 => ?_)
            · refine xv (x_iconst 136 d_X8_suited_135 rfl) ?_
              refine xv (x_putfield 139 d_X8_suited_136 rfl f_8_49 (Nat.le_of_ble_eq_true rfl) m_pf5 rfl rfl (fun e => absurd e (by decide))) ?_
              show Xv E q_m_X8_suited 139 [Value.ref am, Value.int (zi y), Value.int (zi b), Value.int (zi s), Value.int (zi k), x5] [] (q_mw h am (uM (uA (uA (uM M 0 5 0) 8 f8) 9 mq) 0 5 0)) Q
              refine xv (x_aload_n 140 d_X8_suited_139 rfl rfl) ?_
              refine xv (x_getfield 143 d_X8_suited_140 rfl f_8_49 (Nat.le_of_ble_eq_true rfl) (Nat.le_of_ble_eq_true rfl) ((q_gf_of (m_o (h := h) (am := am) (M := (uM (uA (uA (uM M 0 5 0) 8 f8) 9 mq) 0 5 0))) rfl : q_gf (q_mw h am (uM (uA (uA (uM M 0 5 0) 8 f8) 9 mq) 0 5 0)) am 8 5 = some (Value.int (zi 0))))) ?_
              refine v_if_le 150 146 d_X8_suited_143 rfl rfl (by omega) (by omega) (fun k143 => ?_) (fun k143 => ?_)
              · refine xv (x_iload_n 151 d_X8_suited_150 rfl rfl) ?_
                refine xv_r (x_ireturn d_X8_suited_151 rfl rfl) ?_
                have ev : suW (M 1) y = b := hv.trans (suD_e (by omega))
                have er : suiM (M 1) y = (0, b) := by unfold suiM; rw [ev, if_neg (fun e => e k6)]; first | exact if_pos (by omega) | exact if_neg (by omega)
                refine hQ _ _ ⟨by rw [er], (uM (uA (uA (uM M 0 5 0) 8 f8) 9 mq) 0 5 0), rfl, ?_, rfl, rfl, rfl, rfl⟩
                rw [er]
                exact u1_u1
              · omega
            · refine xv (x_iconst 132 d_X8_suited_131 rfl) ?_
              refine xv (x_goto 136 d_X8_suited_132 rfl) ?_
              refine xv (x_putfield 139 d_X8_suited_136 rfl f_8_49 (Nat.le_of_ble_eq_true rfl) m_pf5 rfl rfl (fun e => absurd e (by decide))) ?_
              show Xv E q_m_X8_suited 139 [Value.ref am, Value.int (zi y), Value.int (zi b), Value.int (zi s), Value.int (zi k), x5] [] (q_mw h am (uM (uA (uA (uM M 0 5 0) 8 f8) 9 mq) 0 5 2)) Q
              refine xv (x_aload_n 140 d_X8_suited_139 rfl rfl) ?_
              refine xv (x_getfield 143 d_X8_suited_140 rfl f_8_49 (Nat.le_of_ble_eq_true rfl) (Nat.le_of_ble_eq_true rfl) ((q_gf_of (m_o (h := h) (am := am) (M := (uM (uA (uA (uM M 0 5 0) 8 f8) 9 mq) 0 5 2))) rfl : q_gf (q_mw h am (uM (uA (uA (uM M 0 5 0) 8 f8) 9 mq) 0 5 2)) am 8 5 = some (Value.int (zi 2))))) ?_
              refine v_if_le 150 146 d_X8_suited_143 rfl rfl (by omega) (by omega) (fun k143 => ?_) (fun k143 => ?_)
              · omega
              · refine xv (x_iconst 147 d_X8_suited_146 rfl) ?_
                refine xv (x_goto 151 d_X8_suited_147 rfl) ?_
                refine xv_r (x_ireturn d_X8_suited_151 rfl rfl) ?_
                have ev : suW (M 1) y = b := hv.trans (suD_e (by omega))
                have er : suiM (M 1) y = (2, 0) := by unfold suiM; rw [ev, if_neg (fun e => e k6)]; first | exact if_pos (by omega) | exact if_neg (by omega)
                refine hQ _ _ ⟨by rw [er], (uM (uA (uA (uM M 0 5 0) 8 f8) 9 mq) 0 5 2), rfl, ?_, rfl, rfl, rfl, rfl⟩
                rw [er]
                exact u1_u1
          · have gq := gr k k0 (by omega)
            refine xv (x_aload_n 45 d_X8_suited_44 rfl rfl) ?_
            refine xv (x_iload 47 d_X8_suited_45 rfl rfl) ?_
            refine xv (x_iconst 48 d_X8_suited_47 rfl) ?_
            refine xv (x_inv1 51 (as := [Value.int (zi k), Value.int (zi 2)]) d_X8_suited_48 rfl c_8_79 rfl (Nat.le_of_ble_eq_true rfl) (Nat.le_of_ble_eq_true rfl) m_o (Nat.le_of_ble_eq_true rfl) (Nat.le_of_ble_eq_true rfl) rfl (S_X8_of (E := E) (h := h) (am := am) (M := (uA (uA (uM M 0 5 0) 8 f8) 9 mq)) hR (by first | omega | (rw [show (uA (uA (uM M 0 5 0) 8 f8) 9 mq) 1 = (M 1) from rfl]; omega)) (by first | omega | (rw [show (uA (uA (uM M 0 5 0) 8 f8) 9 mq) 1 = (M 1) from rfl]; omega)) (by first | omega | (rw [show (uA (uA (uM M 0 5 0) 8 f8) 9 mq) 1 = (M 1) from rfl]; omega)) (by first | omega | (rw [show (uA (uA (uM M 0 5 0) 8 f8) 9 mq) 1 = (M 1) from rfl]; omega)))) ?_
            have q_2 : -1000000 ≤ rb (M 1) k 2 ∧ rb (M 1) k 2 ≤ 1000000 := hr _
            show Xv E q_m_X8_suited 51 [Value.ref am, Value.int (zi y), Value.int (zi b), Value.int (zi s), Value.int (zi k), x5] [Value.int (zi (rb (M 1) k 2))] (q_mw h am (uA (uA (uM M 0 5 0) 8 f8) 9 mq)) Q
            refine v_if_lt 58 54 d_X8_suited_51 rfl rfl (by omega) (by omega) (fun k51 => ?_) (fun k51 => ?_)
            · refine xv (x_aload_n 59 d_X8_suited_58 rfl rfl) ?_
              refine xv (x_aload_n 60 d_X8_suited_59 rfl rfl) ?_
              refine xv (x_iload 62 d_X8_suited_60 rfl rfl) ?_
              refine xv (x_iconst 63 d_X8_suited_62 rfl) ?_
              refine xv (x_inv1 66 (as := [Value.int (zi k), Value.int (zi 0)]) d_X8_suited_63 rfl c_8_79 rfl (Nat.le_of_ble_eq_true rfl) (Nat.le_of_ble_eq_true rfl) m_o (Nat.le_of_ble_eq_true rfl) (Nat.le_of_ble_eq_true rfl) rfl (S_X8_of (E := E) (h := h) (am := am) (M := (uA (uA (uM M 0 5 0) 8 f8) 9 mq)) hR (by first | omega | (rw [show (uA (uA (uM M 0 5 0) 8 f8) 9 mq) 1 = (M 1) from rfl]; omega)) (by first | omega | (rw [show (uA (uA (uM M 0 5 0) 8 f8) 9 mq) 1 = (M 1) from rfl]; omega)) (by first | omega | (rw [show (uA (uA (uM M 0 5 0) 8 f8) 9 mq) 1 = (M 1) from rfl]; omega)) (by first | omega | (rw [show (uA (uA (uM M 0 5 0) 8 f8) 9 mq) 1 = (M 1) from rfl]; omega)))) ?_
              have q_3 : -1000000 ≤ rb (M 1) k 0 ∧ rb (M 1) k 0 ≤ 1000000 := hr _
              show Xv E q_m_X8_suited 66 [Value.ref am, Value.int (zi y), Value.int (zi b), Value.int (zi s), Value.int (zi k), x5] [Value.int (zi (rb (M 1) k 0)), Value.ref am] (q_mw h am (uA (uA (uM M 0 5 0) 8 f8) 9 mq)) Q
              refine xv (x_aload_n 67 d_X8_suited_66 rfl rfl) ?_
              refine xv (x_iload_n 68 d_X8_suited_67 rfl rfl) ?_
              refine xv (x_iconst 69 d_X8_suited_68 rfl) ?_
              refine xv (x_inv1 72 (as := [Value.int (zi y), Value.int (zi 5)]) d_X8_suited_69 rfl c_8_109 rfl (Nat.le_of_ble_eq_true rfl) (Nat.le_of_ble_eq_true rfl) m_o (Nat.le_of_ble_eq_true rfl) (Nat.le_of_ble_eq_true rfl) rfl (S_X8_get (E := E) (h := h) (am := am) (M := (uA (uA (uM M 0 5 0) 8 f8) 9 mq)) hR (by first | omega | (rw [show (uA (uA (uM M 0 5 0) 8 f8) 9 mq) 1 = (M 1) from rfl]; omega)) (by first | omega | (rw [show (uA (uA (uM M 0 5 0) 8 f8) 9 mq) 1 = (M 1) from rfl]; omega)) (by first | omega | (rw [show (uA (uA (uM M 0 5 0) 8 f8) 9 mq) 1 = (M 1) from rfl]; omega)) (by first | omega | (rw [show (uA (uA (uM M 0 5 0) 8 f8) 9 mq) 1 = (M 1) from rfl]; omega)))) ?_
              have q_4 : -1000000 ≤ ob (M 1) y 5 ∧ ob (M 1) y 5 ≤ 1000000 := hr _
              show Xv E q_m_X8_suited 72 [Value.ref am, Value.int (zi y), Value.int (zi b), Value.int (zi s), Value.int (zi k), x5] [Value.int (zi (ob (M 1) y 5)), Value.int (zi (rb (M 1) k 0)), Value.ref am] (q_mw h am (uA (uA (uM M 0 5 0) 8 f8) 9 mq)) Q
              obtain ⟨r72, h72, e72, z72, f72, m72, y72⟩ := S_X8_farOf (E := E) (h := h) (am := am) (M := (uA (uA (uM M 0 5 0) 8 f8) 9 mq)) (y := rb (M 1) k 0) (z := ob (M 1) y 5) hR hT (show isC (M 1) (rb (M 1) k 0) by omega) (by omega)
              replace z72 : r72 = .inl (some (.int (zi (far (M 1) (rb (M 1) k 0) (ob (M 1) y 5))))) := z72
              subst z72
              subst y72
              refine xv (x_inv1 75 (as := [Value.int (zi (rb (M 1) k 0)), Value.int (zi (ob (M 1) y 5))]) d_X8_suited_72 rfl c_8_165 rfl (Nat.le_of_ble_eq_true rfl) (Nat.le_of_ble_eq_true rfl) m_o (Nat.le_of_ble_eq_true rfl) (Nat.le_of_ble_eq_true rfl) rfl e72) ?_
              have q72 := far_r (rgc_of hR hT) (show isC (M 1) (rb (M 1) k 0) by omega) (ob (M 1) y 5)
              show Xv E q_m_X8_suited 75 [Value.ref am, Value.int (zi y), Value.int (zi b), Value.int (zi s), Value.int (zi k), x5] [Value.int (zi (far (M 1) (rb (M 1) k 0) (ob (M 1) y 5)))] (q_mw h am (uA (uA (uA (uA (uM M 0 5 0) 8 f8) 9 mq) 8 f72) 9 m72)) Q
              refine xv (x_istore 77 d_X8_suited_75 rfl (Nat.le_of_ble_eq_true rfl)) ?_
              show Xv E q_m_X8_suited 77 [Value.ref am, Value.int (zi y), Value.int (zi b), Value.int (zi s), Value.int (zi k), Value.int (zi (far (M 1) (rb (M 1) k 0) (ob (M 1) y 5)))] [] (q_mw h am (uA (uA (uA (uA (uM M 0 5 0) 8 f8) 9 mq) 8 f72) 9 m72)) Q
              refine xv (x_iload 79 d_X8_suited_77 rfl rfl) ?_
              refine v_if_lt 120 82 d_X8_suited_79 rfl rfl (by omega) (by omega) (fun k79 => ?_) (fun k79 => ?_)
              · refine xv (x_iinc 123 d_X8_suited_120 rfl rfl) ?_
                show Xv E q_m_X8_suited 123 [Value.ref am, Value.int (zi y), Value.int (zi b), Value.int (zi s), Value.int (zi (k + 1)), Value.int (zi (far (M 1) (rb (M 1) k 0) (ob (M 1) y 5)))] [] (q_mw h am (uA (uA (uA (uA (uM M 0 5 0) 8 f8) 9 mq) 8 f72) 9 m72)) Q
                refine xv (x_goto 33 d_X8_suited_123 rfl) ?_
                have im_ : (uA (uA (uA (uA (uM M 0 5 0) 8 f8) 9 mq) 8 f72) 9 m72) = uA (uA (uM M 0 5 0) 8 f72) 9 m72 := by rw [uA_comm (show (9 : Nat) ≠ 8 by decide), uA_uA, uA_uA]
                rw [im_]
                exact ih33 _ (by omega) _ _ (k + 1) _ _ _ (by omega) (by omega) hb (by omega) (hv.trans (suD_f (by omega) (by omega))) rfl
              · refine xv (x_iload_n 83 d_X8_suited_82 rfl rfl) ?_
                refine v_if_lt 114 86 d_X8_suited_83 rfl rfl (by omega) (by omega) (fun k83 => ?_) (fun k83 => ?_)
                · refine xv (x_iload 116 d_X8_suited_114 rfl rfl) ?_
                  refine xv (x_istore_n 117 d_X8_suited_116 rfl (Nat.le_of_ble_eq_true rfl)) ?_
                  show Xv E q_m_X8_suited 117 [Value.ref am, Value.int (zi y), Value.int (zi k), Value.int (zi s), Value.int (zi k), Value.int (zi (far (M 1) (rb (M 1) k 0) (ob (M 1) y 5)))] [] (q_mw h am (uA (uA (uA (uA (uM M 0 5 0) 8 f8) 9 mq) 8 f72) 9 m72)) Q
                  refine xv (x_iload 119 d_X8_suited_117 rfl rfl) ?_
                  refine xv (x_istore_n 120 d_X8_suited_119 rfl (Nat.le_of_ble_eq_true rfl)) ?_
                  show Xv E q_m_X8_suited 120 [Value.ref am, Value.int (zi y), Value.int (zi k), Value.int (zi (far (M 1) (rb (M 1) k 0) (ob (M 1) y 5))), Value.int (zi k), Value.int (zi (far (M 1) (rb (M 1) k 0) (ob (M 1) y 5)))] [] (q_mw h am (uA (uA (uA (uA (uM M 0 5 0) 8 f8) 9 mq) 8 f72) 9 m72)) Q
                  refine xv (x_iinc 123 d_X8_suited_120 rfl rfl) ?_
                  show Xv E q_m_X8_suited 123 [Value.ref am, Value.int (zi y), Value.int (zi k), Value.int (zi (far (M 1) (rb (M 1) k 0) (ob (M 1) y 5))), Value.int (zi (k + 1)), Value.int (zi (far (M 1) (rb (M 1) k 0) (ob (M 1) y 5)))] [] (q_mw h am (uA (uA (uA (uA (uM M 0 5 0) 8 f8) 9 mq) 8 f72) 9 m72)) Q
                  refine xv (x_goto 33 d_X8_suited_123 rfl) ?_
                  have im_ : (uA (uA (uA (uA (uM M 0 5 0) 8 f8) 9 mq) 8 f72) 9 m72) = uA (uA (uM M 0 5 0) 8 f72) 9 m72 := by rw [uA_comm (show (9 : Nat) ≠ 8 by decide), uA_uA, uA_uA]
                  rw [im_]
                  exact ih33 _ (by omega) _ _ (k + 1) _ _ _ (by omega) (by omega) (.inr ⟨by omega, by omega⟩) (by omega) (hv.trans (suD_t (by omega) ⟨by omega, by omega, by omega⟩)) rfl
                · refine xv (x_iload 88 d_X8_suited_86 rfl rfl) ?_
                  refine xv (x_iload_n 89 d_X8_suited_88 rfl rfl) ?_
                  refine v_icmp_lt 114 92 d_X8_suited_89 rfl rfl (by omega) (by omega) (by omega) (by omega) (fun k89 => ?_) (fun k89 => ?_)
                  · refine xv (x_iload 116 d_X8_suited_114 rfl rfl) ?_
                    refine xv (x_istore_n 117 d_X8_suited_116 rfl (Nat.le_of_ble_eq_true rfl)) ?_
                    show Xv E q_m_X8_suited 117 [Value.ref am, Value.int (zi y), Value.int (zi k), Value.int (zi s), Value.int (zi k), Value.int (zi (far (M 1) (rb (M 1) k 0) (ob (M 1) y 5)))] [] (q_mw h am (uA (uA (uA (uA (uM M 0 5 0) 8 f8) 9 mq) 8 f72) 9 m72)) Q
                    refine xv (x_iload 119 d_X8_suited_117 rfl rfl) ?_
                    refine xv (x_istore_n 120 d_X8_suited_119 rfl (Nat.le_of_ble_eq_true rfl)) ?_
                    show Xv E q_m_X8_suited 120 [Value.ref am, Value.int (zi y), Value.int (zi k), Value.int (zi (far (M 1) (rb (M 1) k 0) (ob (M 1) y 5))), Value.int (zi k), Value.int (zi (far (M 1) (rb (M 1) k 0) (ob (M 1) y 5)))] [] (q_mw h am (uA (uA (uA (uA (uM M 0 5 0) 8 f8) 9 mq) 8 f72) 9 m72)) Q
                    refine xv (x_iinc 123 d_X8_suited_120 rfl rfl) ?_
                    show Xv E q_m_X8_suited 123 [Value.ref am, Value.int (zi y), Value.int (zi k), Value.int (zi (far (M 1) (rb (M 1) k 0) (ob (M 1) y 5))), Value.int (zi (k + 1)), Value.int (zi (far (M 1) (rb (M 1) k 0) (ob (M 1) y 5)))] [] (q_mw h am (uA (uA (uA (uA (uM M 0 5 0) 8 f8) 9 mq) 8 f72) 9 m72)) Q
                    refine xv (x_goto 33 d_X8_suited_123 rfl) ?_
                    have im_ : (uA (uA (uA (uA (uM M 0 5 0) 8 f8) 9 mq) 8 f72) 9 m72) = uA (uA (uM M 0 5 0) 8 f72) 9 m72 := by rw [uA_comm (show (9 : Nat) ≠ 8 by decide), uA_uA, uA_uA]
                    rw [im_]
                    exact ih33 _ (by omega) _ _ (k + 1) _ _ _ (by omega) (by omega) (.inr ⟨by omega, by omega⟩) (by omega) (hv.trans (suD_t (by omega) ⟨by omega, by omega, by omega⟩)) rfl
                  · refine xv (x_iload 94 d_X8_suited_92 rfl rfl) ?_
                    refine xv (x_iload_n 95 d_X8_suited_94 rfl rfl) ?_
                    refine v_icmp_ne 120 98 d_X8_suited_95 rfl rfl (by omega) (by omega) (by omega) (by omega) (fun k95 => ?_) (fun k95 => ?_)
                    · refine xv (x_iinc 123 d_X8_suited_120 rfl rfl) ?_
                      show Xv E q_m_X8_suited 123 [Value.ref am, Value.int (zi y), Value.int (zi b), Value.int (zi s), Value.int (zi (k + 1)), Value.int (zi (far (M 1) (rb (M 1) k 0) (ob (M 1) y 5)))] [] (q_mw h am (uA (uA (uA (uA (uM M 0 5 0) 8 f8) 9 mq) 8 f72) 9 m72)) Q
                      refine xv (x_goto 33 d_X8_suited_123 rfl) ?_
                      have im_ : (uA (uA (uA (uA (uM M 0 5 0) 8 f8) 9 mq) 8 f72) 9 m72) = uA (uA (uM M 0 5 0) 8 f72) 9 m72 := by rw [uA_comm (show (9 : Nat) ≠ 8 by decide), uA_uA, uA_uA]
                      rw [im_]
                      exact ih33 _ (by omega) _ _ (k + 1) _ _ _ (by omega) (by omega) hb (by omega) (hv.trans (suD_f (by omega) (by omega))) rfl
                    · refine xv (x_aload_n 99 d_X8_suited_98 rfl rfl) ?_
                      refine xv (x_iload 101 d_X8_suited_99 rfl rfl) ?_
                      refine xv (x_iconst 102 d_X8_suited_101 rfl) ?_
                      refine xv (x_inv1 105 (as := [Value.int (zi k), Value.int (zi 1)]) d_X8_suited_102 rfl c_8_79 rfl (Nat.le_of_ble_eq_true rfl) (Nat.le_of_ble_eq_true rfl) m_o (Nat.le_of_ble_eq_true rfl) (Nat.le_of_ble_eq_true rfl) rfl (S_X8_of (E := E) (h := h) (am := am) (M := (uA (uA (uA (uA (uM M 0 5 0) 8 f8) 9 mq) 8 f72) 9 m72)) hR (by first | omega | (rw [show (uA (uA (uA (uA (uM M 0 5 0) 8 f8) 9 mq) 8 f72) 9 m72) 1 = (M 1) from rfl]; omega)) (by first | omega | (rw [show (uA (uA (uA (uA (uM M 0 5 0) 8 f8) 9 mq) 8 f72) 9 m72) 1 = (M 1) from rfl]; omega)) (by first | omega | (rw [show (uA (uA (uA (uA (uM M 0 5 0) 8 f8) 9 mq) 8 f72) 9 m72) 1 = (M 1) from rfl]; omega)) (by first | omega | (rw [show (uA (uA (uA (uA (uM M 0 5 0) 8 f8) 9 mq) 8 f72) 9 m72) 1 = (M 1) from rfl]; omega)))) ?_
                      have q_5 : -1000000 ≤ rb (M 1) k 1 ∧ rb (M 1) k 1 ≤ 1000000 := hr _
                      show Xv E q_m_X8_suited 105 [Value.ref am, Value.int (zi y), Value.int (zi b), Value.int (zi s), Value.int (zi k), Value.int (zi (far (M 1) (rb (M 1) k 0) (ob (M 1) y 5)))] [Value.int (zi (rb (M 1) k 1))] (q_mw h am (uA (uA (uA (uA (uM M 0 5 0) 8 f8) 9 mq) 8 f72) 9 m72)) Q
                      refine xv (x_aload_n 106 d_X8_suited_105 rfl rfl) ?_
                      refine xv (x_iload_n 107 d_X8_suited_106 rfl rfl) ?_
                      refine xv (x_iconst 108 d_X8_suited_107 rfl) ?_
                      refine xv (x_inv1 111 (as := [Value.int (zi b), Value.int (zi 1)]) d_X8_suited_108 rfl c_8_79 rfl (Nat.le_of_ble_eq_true rfl) (Nat.le_of_ble_eq_true rfl) m_o (Nat.le_of_ble_eq_true rfl) (Nat.le_of_ble_eq_true rfl) rfl (S_X8_of (E := E) (h := h) (am := am) (M := (uA (uA (uA (uA (uM M 0 5 0) 8 f8) 9 mq) 8 f72) 9 m72)) hR (by first | omega | (rw [show (uA (uA (uA (uA (uM M 0 5 0) 8 f8) 9 mq) 8 f72) 9 m72) 1 = (M 1) from rfl]; omega)) (by first | omega | (rw [show (uA (uA (uA (uA (uM M 0 5 0) 8 f8) 9 mq) 8 f72) 9 m72) 1 = (M 1) from rfl]; omega)) (by first | omega | (rw [show (uA (uA (uA (uA (uM M 0 5 0) 8 f8) 9 mq) 8 f72) 9 m72) 1 = (M 1) from rfl]; omega)) (by first | omega | (rw [show (uA (uA (uA (uA (uM M 0 5 0) 8 f8) 9 mq) 8 f72) 9 m72) 1 = (M 1) from rfl]; omega)))) ?_
                      have q_6 : -1000000 ≤ rb (M 1) b 1 ∧ rb (M 1) b 1 ≤ 1000000 := hr _
                      show Xv E q_m_X8_suited 111 [Value.ref am, Value.int (zi y), Value.int (zi b), Value.int (zi s), Value.int (zi k), Value.int (zi (far (M 1) (rb (M 1) k 0) (ob (M 1) y 5)))] [Value.int (zi (rb (M 1) b 1)), Value.int (zi (rb (M 1) k 1))] (q_mw h am (uA (uA (uA (uA (uM M 0 5 0) 8 f8) 9 mq) 8 f72) 9 m72)) Q
                      refine v_icmp_le 120 114 d_X8_suited_111 rfl rfl (by omega) (by omega) (by omega) (by omega) (fun k111 => ?_) (fun k111 => ?_)
                      · refine xv (x_iinc 123 d_X8_suited_120 rfl rfl) ?_
                        show Xv E q_m_X8_suited 123 [Value.ref am, Value.int (zi y), Value.int (zi b), Value.int (zi s), Value.int (zi (k + 1)), Value.int (zi (far (M 1) (rb (M 1) k 0) (ob (M 1) y 5)))] [] (q_mw h am (uA (uA (uA (uA (uM M 0 5 0) 8 f8) 9 mq) 8 f72) 9 m72)) Q
                        refine xv (x_goto 33 d_X8_suited_123 rfl) ?_
                        have im_ : (uA (uA (uA (uA (uM M 0 5 0) 8 f8) 9 mq) 8 f72) 9 m72) = uA (uA (uM M 0 5 0) 8 f72) 9 m72 := by rw [uA_comm (show (9 : Nat) ≠ 8 by decide), uA_uA, uA_uA]
                        rw [im_]
                        exact ih33 _ (by omega) _ _ (k + 1) _ _ _ (by omega) (by omega) hb (by omega) (hv.trans (suD_f (by omega) (by omega))) rfl
                      · refine xv (x_iload 116 d_X8_suited_114 rfl rfl) ?_
                        refine xv (x_istore_n 117 d_X8_suited_116 rfl (Nat.le_of_ble_eq_true rfl)) ?_
                        show Xv E q_m_X8_suited 117 [Value.ref am, Value.int (zi y), Value.int (zi k), Value.int (zi s), Value.int (zi k), Value.int (zi (far (M 1) (rb (M 1) k 0) (ob (M 1) y 5)))] [] (q_mw h am (uA (uA (uA (uA (uM M 0 5 0) 8 f8) 9 mq) 8 f72) 9 m72)) Q
                        refine xv (x_iload 119 d_X8_suited_117 rfl rfl) ?_
                        refine xv (x_istore_n 120 d_X8_suited_119 rfl (Nat.le_of_ble_eq_true rfl)) ?_
                        show Xv E q_m_X8_suited 120 [Value.ref am, Value.int (zi y), Value.int (zi k), Value.int (zi (far (M 1) (rb (M 1) k 0) (ob (M 1) y 5))), Value.int (zi k), Value.int (zi (far (M 1) (rb (M 1) k 0) (ob (M 1) y 5)))] [] (q_mw h am (uA (uA (uA (uA (uM M 0 5 0) 8 f8) 9 mq) 8 f72) 9 m72)) Q
                        refine xv (x_iinc 123 d_X8_suited_120 rfl rfl) ?_
                        show Xv E q_m_X8_suited 123 [Value.ref am, Value.int (zi y), Value.int (zi k), Value.int (zi (far (M 1) (rb (M 1) k 0) (ob (M 1) y 5))), Value.int (zi (k + 1)), Value.int (zi (far (M 1) (rb (M 1) k 0) (ob (M 1) y 5)))] [] (q_mw h am (uA (uA (uA (uA (uM M 0 5 0) 8 f8) 9 mq) 8 f72) 9 m72)) Q
                        refine xv (x_goto 33 d_X8_suited_123 rfl) ?_
                        have im_ : (uA (uA (uA (uA (uM M 0 5 0) 8 f8) 9 mq) 8 f72) 9 m72) = uA (uA (uM M 0 5 0) 8 f72) 9 m72 := by rw [uA_comm (show (9 : Nat) ≠ 8 by decide), uA_uA, uA_uA]
                        rw [im_]
                        exact ih33 _ (by omega) _ _ (k + 1) _ _ _ (by omega) (by omega) (.inr ⟨by omega, by omega⟩) (by omega) (hv.trans (suD_t (by omega) ⟨by omega, by omega, by omega⟩)) rfl
            · refine xv (x_iconst 55 d_X8_suited_54 rfl) ?_
              refine xv (x_goto 75 d_X8_suited_55 rfl) ?_
              refine xv (x_istore 77 d_X8_suited_75 rfl (Nat.le_of_ble_eq_true rfl)) ?_
              show Xv E q_m_X8_suited 77 [Value.ref am, Value.int (zi y), Value.int (zi b), Value.int (zi s), Value.int (zi k), Value.int (zi (-1))] [] (q_mw h am (uA (uA (uM M 0 5 0) 8 f8) 9 mq)) Q
              refine xv (x_iload 79 d_X8_suited_77 rfl rfl) ?_
              refine v_if_lt 120 82 d_X8_suited_79 rfl rfl (by omega) (by omega) (fun k79 => ?_) (fun k79 => ?_)
              · refine xv (x_iinc 123 d_X8_suited_120 rfl rfl) ?_
                show Xv E q_m_X8_suited 123 [Value.ref am, Value.int (zi y), Value.int (zi b), Value.int (zi s), Value.int (zi (k + 1)), Value.int (zi (-1))] [] (q_mw h am (uA (uA (uM M 0 5 0) 8 f8) 9 mq)) Q
                refine xv (x_goto 33 d_X8_suited_123 rfl) ?_
                exact ih33 _ (by omega) _ _ (k + 1) _ _ _ (by omega) (by omega) hb (by omega) (hv.trans (suD_f (by omega) (by omega))) rfl
              · omega
      have im_ : uA (uA (uM M 0 5 0) 8 (M 8)) 9 (M 9) = uM M 0 5 0 := by
        rw [show uA (uM M 0 5 0) 8 (M 8) = uM M 0 5 0 from uA_self]
        exact uA_self
      have i0 := fun x5 => L33 _ (-1) 0 0 (M 8) (M 9) x5 (by omega) (by omega) (.inl rfl) (by omega) (by rw [Int.sub_zero]; rfl) rfl
      rw [im_] at i0
      exact i0 _
    · omega
end RA2
