/-! the reference: letter, tour (printed by program) -/
section RB5
variable {E : q_E} {h : q_H} {am N : Nat} {M M2 : q_Im} {l F f : Int → Int} {r g T t k w v c e d a b s n x y : Int}
noncomputable def letM (l : Int → Int) (c : Int) : Int × Int := if ¬ isC l c then (1, 32) else if 0 ≤ rin l c 0 then (0, 48 + rin l c 0) else if l (56 + c) = 1 then (0, 120) else (0, sgn (l (8 + c)))
theorem S_X8_letter (hE : q_EN E N) (hLo : Lo h N) (hN : N ≤ am) (hR : Rg (M 1)) {y : Int} (y0 : -2147483648 ≤ y) (y1 : y < 2147483648) : ∃ r_ h', q_cl E q_m_X8_letter [Value.ref am, Value.int (zi y)] (q_mw h am M) = some (r_, h') ∧ (r_ = .inl (some (.int (zi (letM (M 1) y).2))) ∧ h' = q_mw h am (uM M 0 5 (letM (M 1) y).1)) := by
  suffices K : ∀ Q : q_R → q_H → Prop, (∀ r_ h', (r_ = .inl (some (.int (zi (letM (M 1) y).2))) ∧ h' = q_mw h am (uM M 0 5 (letM (M 1) y).1)) → Q r_ h') → Xv E q_m_X8_letter 0 [Value.ref am, Value.int (zi y), Value.null] [] (q_mw h am M) Q from K _ fun _ _ p => p
  intro Q hQ
  have hR0 := hR
  obtain ⟨hr, g0, g1, g3, g4, gc, g5, g6, g7, gk, gl, gr, go⟩ := hR0
  obtain ⟨_, _, _, _, _, _, sa, ba, ⟨ls, lb⟩, e6, e7, eb⟩ := id hE
  refine xv (x_aload_n 1 d_X8_letter_0 rfl rfl) ?_
  refine xv (x_aload_n 2 d_X8_letter_1 rfl rfl) ?_
  refine xv (x_iload_n 3 d_X8_letter_2 rfl rfl) ?_
  refine xv (x_inv1 6 (as := [Value.int (zi y)]) d_X8_letter_3 rfl c_8_86 rfl (Nat.le_of_ble_eq_true rfl) (Nat.le_of_ble_eq_true rfl) m_o (Nat.le_of_ble_eq_true rfl) (Nat.le_of_ble_eq_true rfl) rfl (S_X8_isCell (E := E) (h := h) (am := am) (M := M) hR (by omega) (by omega))) ?_
  show Xv E q_m_X8_letter 6 [Value.ref am, Value.int (zi y), Value.null] [Value.int (zi (bI (isC (M 1) y))), Value.ref am] (q_mw h am M) Q
  refine v_if_eq 13 9 d_X8_letter_6 rfl rfl (by have := bI_r (isC (M 1) y); omega) (by have := bI_r (isC (M 1) y); omega) (fun k6 => ?_) (fun k6 => ?_)
  · replace k6 := bI_0.mp k6
    refine xv (x_iconst 14 d_X8_letter_13 rfl) ?_
    refine xv (x_putfield 17 d_X8_letter_14 rfl f_8_49 (Nat.le_of_ble_eq_true rfl) m_pf5 rfl rfl (fun e => absurd e (by decide))) ?_
    show Xv E q_m_X8_letter 17 [Value.ref am, Value.int (zi y), Value.null] [] (q_mw h am (uM M 0 5 1)) Q
    refine xv (x_aload_n 18 d_X8_letter_17 rfl rfl) ?_
    refine xv (x_getfield 21 d_X8_letter_18 rfl f_8_49 (Nat.le_of_ble_eq_true rfl) (Nat.le_of_ble_eq_true rfl) ((q_gf_of (m_o (h := h) (am := am) (M := (uM M 0 5 1))) rfl : q_gf (q_mw h am (uM M 0 5 1)) am 8 5 = some (Value.int (zi 1))))) ?_
    refine v_if_le 27 24 d_X8_letter_21 rfl rfl (by omega) (by omega) (fun k21 => ?_) (fun k21 => ?_)
    · omega
    · refine xv (x_bipush 26 d_X8_letter_24 rfl rfl) ?_
      refine xv_r (x_ireturn d_X8_letter_26 rfl rfl) ?_
      have er : letM (M 1) y = (1, 32) := by unfold letM; repeat (first | rw [if_pos (by omega)] | rw [if_neg (by omega)])
      refine hQ _ _ ?_
      rw [er]
      exact ⟨rfl, rfl⟩
  · replace k6 := bI_n0.mp k6
    have gky := gk y k6.1 k6.2
    refine xv (x_iconst 10 d_X8_letter_9 rfl) ?_
    refine xv (x_goto 14 d_X8_letter_10 rfl) ?_
    refine xv (x_putfield 17 d_X8_letter_14 rfl f_8_49 (Nat.le_of_ble_eq_true rfl) m_pf5 rfl rfl (fun e => absurd e (by decide))) ?_
    show Xv E q_m_X8_letter 17 [Value.ref am, Value.int (zi y), Value.null] [] (q_mw h am (uM M 0 5 0)) Q
    refine xv (x_aload_n 18 d_X8_letter_17 rfl rfl) ?_
    refine xv (x_getfield 21 d_X8_letter_18 rfl f_8_49 (Nat.le_of_ble_eq_true rfl) (Nat.le_of_ble_eq_true rfl) ((q_gf_of (m_o (h := h) (am := am) (M := (uM M 0 5 0))) rfl : q_gf (q_mw h am (uM M 0 5 0)) am 8 5 = some (Value.int (zi 0))))) ?_
    refine v_if_le 27 24 d_X8_letter_21 rfl rfl (by omega) (by omega) (fun k21 => ?_) (fun k21 => ?_)
    · refine xv (x_aload_n 28 d_X8_letter_27 rfl rfl) ?_
      refine xv (x_iload_n 29 d_X8_letter_28 rfl rfl) ?_
      refine xv (x_iconst 30 d_X8_letter_29 rfl) ?_
      refine xv (x_inv1 33 (as := [Value.int (zi y), Value.int (zi 0)]) d_X8_letter_30 rfl c_8_168 rfl (Nat.le_of_ble_eq_true rfl) (Nat.le_of_ble_eq_true rfl) m_o (Nat.le_of_ble_eq_true rfl) (Nat.le_of_ble_eq_true rfl) rfl (S_X8_robotIn (E := E) (h := h) (am := am) (M := (uM M 0 5 0)) hR (by first | omega | (rw [show (uM M 0 5 0) 1 = (M 1) from rfl]; omega)) (by first | omega | (rw [show (uM M 0 5 0) 1 = (M 1) from rfl]; omega)) (by first | omega | (rw [show (uM M 0 5 0) 1 = (M 1) from rfl]; omega)) (by first | omega | (rw [show (uM M 0 5 0) 1 = (M 1) from rfl]; omega)))) ?_
      have q_2 : rin (M 1) y 0 = -1 ∨ (0 ≤ rin (M 1) y 0 ∧ rin (M 1) y 0 < 0 + (((M 1) 3).toNat : Nat)) :=  @fnd_r (fun r => ahd (M 1) r 0 = y) ((M 1) 3).toNat 0
      show Xv E q_m_X8_letter 33 [Value.ref am, Value.int (zi y), Value.null] [Value.int (zi (rin (M 1) y 0))] (q_mw h am (uM M 0 5 0)) Q
      refine xv (x_istore_n 34 d_X8_letter_33 rfl (Nat.le_of_ble_eq_true rfl)) ?_
      show Xv E q_m_X8_letter 34 [Value.ref am, Value.int (zi y), Value.int (zi (rin (M 1) y 0))] [] (q_mw h am (uM M 0 5 0)) Q
      refine xv (x_iload_n 35 d_X8_letter_34 rfl rfl) ?_
      refine v_if_lt 44 38 d_X8_letter_35 rfl rfl (by omega) (by omega) (fun k35 => ?_) (fun k35 => ?_)
      · refine xv (x_aload_n 45 d_X8_letter_44 rfl rfl) ?_
        refine xv (x_getfield 48 d_X8_letter_45 rfl f_8_9 (Nat.le_of_ble_eq_true rfl) (Nat.le_of_ble_eq_true rfl) (q_gf_of m_o rfl)) ?_
        refine xv (x_bipush 50 d_X8_letter_48 rfl rfl) ?_
        refine xv (x_iload_n 51 d_X8_letter_50 rfl rfl) ?_
        refine xv (x_iadd 52 d_X8_letter_51 rfl) ?_
        refine xv (x_iaload 53 d_X8_letter_52 rfl ((m_g1 (by omega) (by omega)).trans (rfl : _ = some (Value.int (zi ((M 1) (56 + y))))))) ?_
        have q_3 : -1000000 ≤ (M 1) (56 + y) ∧ (M 1) (56 + y) ≤ 1000000 := hr _
        refine xv (x_iconst 54 d_X8_letter_53 rfl) ?_
        refine v_icmp_ne 62 57 d_X8_letter_54 rfl rfl (by omega) (by omega) (by omega) (by omega) (fun k54 => ?_) (fun k54 => ?_)
        · refine xv (y_ldc 64 d_X8_letter_62 rfl rfl e6) ?_
          show Xv E q_m_X8_letter 64 [Value.ref am, Value.int (zi y), Value.int (zi (rin (M 1) y 0))] [Value.ref sa] (q_mw h am (uM M 0 5 0)) Q
          refine xv (x_aload_n 65 d_X8_letter_64 rfl rfl) ?_
          refine xv (x_getfield 68 d_X8_letter_65 rfl f_8_9 (Nat.le_of_ble_eq_true rfl) (Nat.le_of_ble_eq_true rfl) (q_gf_of m_o rfl)) ?_
          refine xv (x_bipush 70 d_X8_letter_68 rfl rfl) ?_
          refine xv (x_iload_n 71 d_X8_letter_70 rfl rfl) ?_
          refine xv (x_iadd 72 d_X8_letter_71 rfl) ?_
          refine xv (x_iaload 73 d_X8_letter_72 rfl ((m_g1 (by omega) (by omega)).trans (rfl : _ = some (Value.int (zi ((M 1) (8 + y))))))) ?_
          have q_4 : -1000000 ≤ (M 1) (8 + y) ∧ (M 1) (8 + y) ≤ 1000000 := hr _
          refine xv (y_invS1 76 (as := [Value.int (zi ((M 1) (8 + y)))]) d_X8_letter_73 rfl c_8_173 rfl rfl (Nat.le_of_ble_eq_true rfl) (lo_mw hLo hN _ ls) e6 (Nat.le_of_ble_eq_true rfl) (Nat.le_of_ble_eq_true rfl) rfl (S_J0_charAt hE (lo_mw hLo hN) e6 (k := (M 1) (8 + y)) (by omega))) ?_
          have qs73 := @sgn_r ((M 1) (8 + y))
          show Xv E q_m_X8_letter 76 [Value.ref am, Value.int (zi y), Value.int (zi (rin (M 1) y 0))] [Value.int (zi (sgn ((M 1) (8 + y))))] (q_mw h am (uM M 0 5 0)) Q
          refine xv_r (x_ireturn d_X8_letter_76 rfl (nc_i (by omega) (by omega))) ?_
          have er : letM (M 1) y = (0, sgn ((M 1) (8 + y))) := by unfold letM; repeat (first | rw [if_pos (by omega)] | rw [if_neg (by omega)])
          refine hQ _ _ ?_
          rw [er]
          exact ⟨rfl, rfl⟩
        · refine xv (x_bipush 59 d_X8_letter_57 rfl rfl) ?_
          refine xv (x_goto 76 d_X8_letter_59 rfl) ?_
          refine xv_r (x_ireturn d_X8_letter_76 rfl rfl) ?_
          have er : letM (M 1) y = (0, 120) := by unfold letM; repeat (first | rw [if_pos (by omega)] | rw [if_neg (by omega)])
          refine hQ _ _ ?_
          rw [er]
          exact ⟨rfl, rfl⟩
      · refine xv (x_bipush 40 d_X8_letter_38 rfl rfl) ?_
        refine xv (x_iload_n 41 d_X8_letter_40 rfl rfl) ?_
        refine xv (x_iadd 42 d_X8_letter_41 rfl) ?_
        refine xv (x_i2c 43 d_X8_letter_42 rfl) ?_
        rw [zc_c (by omega) (by omega)]
        show Xv E q_m_X8_letter 43 [Value.ref am, Value.int (zi y), Value.int (zi (rin (M 1) y 0))] [Value.int (zi (48 + (rin (M 1) y 0)))] (q_mw h am (uM M 0 5 0)) Q
        refine xv_r (x_ireturn d_X8_letter_43 rfl (nc_i (by omega) (by omega))) ?_
        have er : letM (M 1) y = (0, 48 + (rin (M 1) y 0)) := by unfold letM; repeat (first | rw [if_pos (by omega)] | rw [if_neg (by omega)])
        refine hQ _ _ ?_
        rw [er]
        exact ⟨rfl, rfl⟩
    · omega
/-- sum, last line, whether there is a way so far -/
def trD (l : Int → Int) (o : Int) : Nat → Int → Int → Int → Int → Int × Int × Int
  | 0, _, a, b, y => (a, b, y)
  | n + 1, k, a, b, y => trD l o n (k + 1) (a + far l b (ob l o (5 + k))) (ob l o (5 + k)) (if ¬ y = 0 ∧ 0 ≤ far l b (ob l o (5 + k)) then 1 else 0)
theorem trD_b {o : Int} (hk : k < n) : trD l o (n - k).toNat k a b y = trD l o (n - (k + 1)).toNat (k + 1) (a + far l b (ob l o (5 + k))) (ob l o (5 + k)) (if ¬ y = 0 ∧ 0 ≤ far l b (ob l o (5 + k)) then 1 else 0) := by
  rw [show (n - k).toNat = (n - (k + 1)).toNat + 1 by omega]; rfl
theorem trD_e {o : Int} (hk : n ≤ k) : trD l o (n - k).toNat k a b y = (a, b, y) := by
  rw [show (n - k).toNat = 0 by omega]; rfl
def nrF (l : Int → Int) (b k x : Int) : Int := if (l (8 + k) = 3 ∧ 0 ≤ far l b k) ∧ (x < 0 ∨ far l b k < x) then far l b k else x
def nrD (l : Int → Int) (b : Int) : Int := lpI (nrF l b) (cs l).toNat 0 (-1)
def trW (l : Int → Int) (o : Int) : Int × Int × Int := trD l o (ob l o 1 - 1).toNat 1 0 (ob l o 5) 1
def touM (l : Int → Int) (o : Int) : Int × Int := if ¬ isO l o then (1, 0) else if ¬ (trW l o).2.2 = 0 ∧ 0 ≤ nrD l (trW l o).2.1 then (0, (trW l o).1 + nrD l (trW l o).2.1) else (2, 0)
theorem S_X8_tour (hR : Rg (M 1)) (hT : 0 ≤ M 1 2) {y : Int} (y0 : -2147483648 ≤ y) (y1 : y < 2147483648) : ∃ r_ h', q_cl E q_m_X8_tour [Value.ref am, Value.int (zi y)] (q_mw h am M) = some (r_, h') ∧ (r_ = .inl (some (.int (zi (touM (M 1) y).2))) ∧ ∃ M', h' = q_mw h am M' ∧ MS M M' (touM (M 1) y).1) := by
  suffices K : ∀ Q : q_R → q_H → Prop, (∀ r_ h', (r_ = .inl (some (.int (zi (touM (M 1) y).2))) ∧ ∃ M', h' = q_mw h am M' ∧ MS M M' (touM (M 1) y).1) → Q r_ h') → Xv E q_m_X8_tour 0 [Value.ref am, Value.int (zi y), Value.null, Value.null, Value.null, Value.null, Value.null, Value.null] [] (q_mw h am M) Q from K _ fun _ _ p => p
  intro Q hQ
  have hR0 := hR
  obtain ⟨hr, g0, g1, g3, g4, gc, g5, g6, g7, gk, gl, gr, go⟩ := hR0
  have hC := rgc_of hR hT
  refine xv (x_aload_n 1 d_X8_tour_0 rfl rfl) ?_
  refine xv (x_aload_n 2 d_X8_tour_1 rfl rfl) ?_
  refine xv (x_iload_n 3 d_X8_tour_2 rfl rfl) ?_
  refine xv (x_inv1 6 (as := [Value.int (zi y)]) d_X8_tour_3 rfl c_8_112 rfl (Nat.le_of_ble_eq_true rfl) (Nat.le_of_ble_eq_true rfl) m_o (Nat.le_of_ble_eq_true rfl) (Nat.le_of_ble_eq_true rfl) rfl (S_X8_isOrder (E := E) (h := h) (am := am) (M := M) hR (by omega) (by omega))) ?_
  show Xv E q_m_X8_tour 6 [Value.ref am, Value.int (zi y), Value.null, Value.null, Value.null, Value.null, Value.null, Value.null] [Value.int (zi (bI (isO (M 1) y))), Value.ref am] (q_mw h am M) Q
  refine v_if_eq 13 9 d_X8_tour_6 rfl rfl (by have := bI_r (isO (M 1) y); omega) (by have := bI_r (isO (M 1) y); omega) (fun k6 => ?_) (fun k6 => ?_)
  · replace k6 := bI_0.mp k6
    refine xv (x_iconst 14 d_X8_tour_13 rfl) ?_
    refine xv (x_putfield 17 d_X8_tour_14 rfl f_8_49 (Nat.le_of_ble_eq_true rfl) m_pf5 rfl rfl (fun e => absurd e (by decide))) ?_
    show Xv E q_m_X8_tour 17 [Value.ref am, Value.int (zi y), Value.null, Value.null, Value.null, Value.null, Value.null, Value.null] [] (q_mw h am (uM M 0 5 1)) Q
    refine xv (x_aload_n 18 d_X8_tour_17 rfl rfl) ?_
    refine xv (x_getfield 21 d_X8_tour_18 rfl f_8_49 (Nat.le_of_ble_eq_true rfl) (Nat.le_of_ble_eq_true rfl) ((q_gf_of (m_o (h := h) (am := am) (M := (uM M 0 5 1))) rfl : q_gf (q_mw h am (uM M 0 5 1)) am 8 5 = some (Value.int (zi 1))))) ?_
    refine v_if_le 26 24 d_X8_tour_21 rfl rfl (by omega) (by omega) (fun k21 => ?_) (fun k21 => ?_)
    · omega
    · refine xv (x_iconst 25 d_X8_tour_24 rfl) ?_
      refine xv_r (x_ireturn d_X8_tour_25 rfl rfl) ?_
      have er : touM (M 1) y = (1, 0) := by unfold touM; exact if_pos (by omega)
      refine hQ _ _ ⟨by rw [er], (uM M 0 5 1), rfl, ?_, rfl, rfl, rfl, rfl⟩
      rw [er]
      rfl
  · replace k6 := bI_n0.mp k6
    have gy := (go y k6.1 k6.2).1
    have gy5 := gy.2.2.2.2.1 0 (by omega) (by omega)
    have gy6 := gy.2.2.2.2.2 0 (by omega) (by omega)
    have g50 : ob (M 1) y (5 + 0) = ob (M 1) y 5 := rfl
    refine xv (x_iconst 10 d_X8_tour_9 rfl) ?_
    refine xv (x_goto 14 d_X8_tour_10 rfl) ?_
    refine xv (x_putfield 17 d_X8_tour_14 rfl f_8_49 (Nat.le_of_ble_eq_true rfl) m_pf5 rfl rfl (fun e => absurd e (by decide))) ?_
    show Xv E q_m_X8_tour 17 [Value.ref am, Value.int (zi y), Value.null, Value.null, Value.null, Value.null, Value.null, Value.null] [] (q_mw h am (uM M 0 5 0)) Q
    refine xv (x_aload_n 18 d_X8_tour_17 rfl rfl) ?_
    refine xv (x_getfield 21 d_X8_tour_18 rfl f_8_49 (Nat.le_of_ble_eq_true rfl) (Nat.le_of_ble_eq_true rfl) ((q_gf_of (m_o (h := h) (am := am) (M := (uM M 0 5 0))) rfl : q_gf (q_mw h am (uM M 0 5 0)) am 8 5 = some (Value.int (zi 0))))) ?_
    refine v_if_le 26 24 d_X8_tour_21 rfl rfl (by omega) (by omega) (fun k21 => ?_) (fun k21 => ?_)
    · refine xv (x_iconst 27 d_X8_tour_26 rfl) ?_
      refine xv (x_istore_n 28 d_X8_tour_27 rfl (Nat.le_of_ble_eq_true rfl)) ?_
      show Xv E q_m_X8_tour 28 [Value.ref am, Value.int (zi y), Value.int (zi 0), Value.null, Value.null, Value.null, Value.null, Value.null] [] (q_mw h am (uM M 0 5 0)) Q
      refine xv (x_aload_n 29 d_X8_tour_28 rfl rfl) ?_
      refine xv (x_iload_n 30 d_X8_tour_29 rfl rfl) ?_
      refine xv (x_iconst 31 d_X8_tour_30 rfl) ?_
      refine xv (x_inv1 34 (as := [Value.int (zi y), Value.int (zi 5)]) d_X8_tour_31 rfl c_8_109 rfl (Nat.le_of_ble_eq_true rfl) (Nat.le_of_ble_eq_true rfl) m_o (Nat.le_of_ble_eq_true rfl) (Nat.le_of_ble_eq_true rfl) rfl (S_X8_get (E := E) (h := h) (am := am) (M := (uM M 0 5 0)) hR (by first | omega | (rw [show (uM M 0 5 0) 1 = (M 1) from rfl]; omega)) (by first | omega | (rw [show (uM M 0 5 0) 1 = (M 1) from rfl]; omega)) (by first | omega | (rw [show (uM M 0 5 0) 1 = (M 1) from rfl]; omega)) (by first | omega | (rw [show (uM M 0 5 0) 1 = (M 1) from rfl]; omega)))) ?_
      have q_1 : -1000000 ≤ ob (M 1) y 5 ∧ ob (M 1) y 5 ≤ 1000000 := hr _
      show Xv E q_m_X8_tour 34 [Value.ref am, Value.int (zi y), Value.int (zi 0), Value.null, Value.null, Value.null, Value.null, Value.null] [Value.int (zi (ob (M 1) y 5))] (q_mw h am (uM M 0 5 0)) Q
      refine xv (x_istore_n 35 d_X8_tour_34 rfl (Nat.le_of_ble_eq_true rfl)) ?_
      show Xv E q_m_X8_tour 35 [Value.ref am, Value.int (zi y), Value.int (zi 0), Value.int (zi (ob (M 1) y 5)), Value.null, Value.null, Value.null, Value.null] [] (q_mw h am (uM M 0 5 0)) Q
      refine xv (x_iconst 36 d_X8_tour_35 rfl) ?_
      refine xv (x_istore 38 d_X8_tour_36 rfl (Nat.le_of_ble_eq_true rfl)) ?_
      show Xv E q_m_X8_tour 38 [Value.ref am, Value.int (zi y), Value.int (zi 0), Value.int (zi (ob (M 1) y 5)), Value.int (zi 1), Value.null, Value.null, Value.null] [] (q_mw h am (uM M 0 5 0)) Q
      refine xv (x_iconst 39 d_X8_tour_38 rfl) ?_
      refine xv (x_istore 41 d_X8_tour_39 rfl (Nat.le_of_ble_eq_true rfl)) ?_
      show Xv E q_m_X8_tour 41 [Value.ref am, Value.int (zi y), Value.int (zi 0), Value.int (zi (ob (M 1) y 5)), Value.int (zi 1), Value.int (zi 1), Value.null, Value.null] [] (q_mw h am (uM M 0 5 0)) Q
      have L41 : ∀ (n_ : Nat) (a : Int) (b : Int) (m : Int) (k : Int) (f8 : Int → Int) (mq : Int → Int) (x6 : Value), (1 ≤ k) → (k ≤ ob (M 1) y 1) → (-1 * k ≤ a ∧ a ≤ 48 * k) → (0 ≤ b ∧ b < cs (M 1)) → (0 ≤ m ∧ m ≤ 1) → (trW (M 1) y = trD (M 1) y (ob (M 1) y 1 - k).toNat k a b m) → (ob (M 1) y 1 - k).toNat = n_ → Xv E q_m_X8_tour 41 [Value.ref am, Value.int (zi y), Value.int (zi a), Value.int (zi b), Value.int (zi m), Value.int (zi k), x6, Value.null] [] (q_mw h am (uA (uA (uM M 0 5 0) 8 f8) 9 mq)) Q := by
        intro n_
        induction n_ using Nat.strongRecOn with
        | _ n_ ih41 =>
          intro a b m k f8 mq x6 k0 k1 a0 b0 m0 hv em
          refine xv (x_iload 43 d_X8_tour_41 rfl rfl) ?_
          refine xv (x_aload_n 44 d_X8_tour_43 rfl rfl) ?_
          refine xv (x_iload_n 45 d_X8_tour_44 rfl rfl) ?_
          refine xv (x_iconst 46 d_X8_tour_45 rfl) ?_
          refine xv (x_inv1 49 (as := [Value.int (zi y), Value.int (zi 1)]) d_X8_tour_46 rfl c_8_109 rfl (Nat.le_of_ble_eq_true rfl) (Nat.le_of_ble_eq_true rfl) m_o (Nat.le_of_ble_eq_true rfl) (Nat.le_of_ble_eq_true rfl) rfl (S_X8_get (E := E) (h := h) (am := am) (M := (uA (uA (uM M 0 5 0) 8 f8) 9 mq)) hR (by first | omega | (rw [show (uA (uA (uM M 0 5 0) 8 f8) 9 mq) 1 = (M 1) from rfl]; omega)) (by first | omega | (rw [show (uA (uA (uM M 0 5 0) 8 f8) 9 mq) 1 = (M 1) from rfl]; omega)) (by first | omega | (rw [show (uA (uA (uM M 0 5 0) 8 f8) 9 mq) 1 = (M 1) from rfl]; omega)) (by first | omega | (rw [show (uA (uA (uM M 0 5 0) 8 f8) 9 mq) 1 = (M 1) from rfl]; omega)))) ?_
          have q_2 : -1000000 ≤ ob (M 1) y 1 ∧ ob (M 1) y 1 ≤ 1000000 := hr _
          show Xv E q_m_X8_tour 49 [Value.ref am, Value.int (zi y), Value.int (zi a), Value.int (zi b), Value.int (zi m), Value.int (zi k), x6, Value.null] [Value.int (zi (ob (M 1) y 1)), Value.int (zi k)] (q_mw h am (uA (uA (uM M 0 5 0) 8 f8) 9 mq)) Q
          refine v_icmp_ge 106 52 d_X8_tour_49 rfl rfl (by omega) (by omega) (by omega) (by omega) (fun k49 => ?_) (fun k49 => ?_)
          · have et : trW (M 1) y = (a, b, m) := hv.trans (trD_e (by omega))
            refine xv (x_aload_n 107 d_X8_tour_106 rfl rfl) ?_
            refine xv (x_iload_n 108 d_X8_tour_107 rfl rfl) ?_
            obtain ⟨r108, h108, e108, z108, f108, m108, a108, y108⟩ := S_X8_findFar (E := E) (h := h) (am := am) (M := (uA (uA (uM M 0 5 0) 8 f8) 9 mq)) (y := b) hR hT (show isC (M 1) b by omega)
            subst z108
            subst y108
            replace a108 : ∀ i, 0 ≤ i → i < 48 → f108 i = far (M 1) b i := a108
            refine xv (x_inv0 111 (as := [Value.int (zi b)]) d_X8_tour_108 rfl c_8_162 rfl (Nat.le_of_ble_eq_true rfl) (Nat.le_of_ble_eq_true rfl) m_o (Nat.le_of_ble_eq_true rfl) (Nat.le_of_ble_eq_true rfl) rfl e108) ?_
            show Xv E q_m_X8_tour 111 [Value.ref am, Value.int (zi y), Value.int (zi a), Value.int (zi b), Value.int (zi m), Value.int (zi k), x6, Value.null] [] (q_mw h am (uA (uA (uA (uA (uM M 0 5 0) 8 f8) 9 mq) 8 f108) 9 m108)) Q
            refine xv (x_iconst 112 d_X8_tour_111 rfl) ?_
            refine xv (x_istore 114 d_X8_tour_112 rfl (Nat.le_of_ble_eq_true rfl)) ?_
            show Xv E q_m_X8_tour 114 [Value.ref am, Value.int (zi y), Value.int (zi a), Value.int (zi b), Value.int (zi m), Value.int (zi (-1)), x6, Value.null] [] (q_mw h am (uA (uA (uA (uA (uM M 0 5 0) 8 f8) 9 mq) 8 f108) 9 m108)) Q
            refine xv (x_iconst 115 d_X8_tour_114 rfl) ?_
            refine xv (x_istore 117 d_X8_tour_115 rfl (Nat.le_of_ble_eq_true rfl)) ?_
            show Xv E q_m_X8_tour 117 [Value.ref am, Value.int (zi y), Value.int (zi a), Value.int (zi b), Value.int (zi m), Value.int (zi (-1)), Value.int (zi 0), Value.null] [] (q_mw h am (uA (uA (uA (uA (uM M 0 5 0) 8 f8) 9 mq) 8 f108) 9 m108)) Q
            have L117 : ∀ (n_ : Nat) (x : Int) (k : Int) (x7 : Value), (0 ≤ k) → (k ≤ cs (M 1)) → (-1 ≤ x ∧ x < 48) → (nrD (M 1) b = lpI (nrF (M 1) b) (cs (M 1) - k).toNat k x) → (cs (M 1) - k).toNat = n_ → Xv E q_m_X8_tour 117 [Value.ref am, Value.int (zi y), Value.int (zi a), Value.int (zi b), Value.int (zi m), Value.int (zi x), Value.int (zi k), x7] [] (q_mw h am (uA (uA (uA (uA (uM M 0 5 0) 8 f8) 9 mq) 8 f108) 9 m108)) Q := by
              intro n_
              induction n_ using Nat.strongRecOn with
              | _ n_ ih117 =>
                intro x k x7 k0 k1 x0 hw em
                have fk := (far_r hC (show isC (M 1) b from b0) k).1
                refine xv (x_iload 119 d_X8_tour_117 rfl rfl) ?_
                refine xv (x_aload_n 120 d_X8_tour_119 rfl rfl) ?_
                refine xv (x_inv1 123 (as := []) d_X8_tour_120 rfl c_8_67 rfl (Nat.le_of_ble_eq_true rfl) (Nat.le_of_ble_eq_true rfl) m_o (Nat.le_of_ble_eq_true rfl) (Nat.le_of_ble_eq_true rfl) rfl (S_X8_cells (E := E) (h := h) (am := am) (M := (uA (uA (uA (uA (uM M 0 5 0) 8 f8) 9 mq) 8 f108) 9 m108)) hR)) ?_
                show Xv E q_m_X8_tour 123 [Value.ref am, Value.int (zi y), Value.int (zi a), Value.int (zi b), Value.int (zi m), Value.int (zi x), Value.int (zi k), x7] [Value.int (zi (cs (M 1))), Value.int (zi k)] (q_mw h am (uA (uA (uA (uA (uM M 0 5 0) 8 f8) 9 mq) 8 f108) 9 m108)) Q
                refine v_icmp_ge 199 126 d_X8_tour_123 rfl rfl (by omega) (by omega) (by omega) (by omega) (fun k123 => ?_) (fun k123 => ?_)
                · refine xv (x_aload_n 200 d_X8_tour_199 rfl rfl) ?_
                  refine xv (x_iload 202 d_X8_tour_200 rfl rfl) ?_
                  refine v_if_eq 214 205 d_X8_tour_202 rfl rfl (by omega) (by omega) (fun k202 => ?_) (fun k202 => ?_)
                  · refine xv (x_iconst 215 d_X8_tour_214 rfl) ?_
                    refine xv (x_putfield 218 d_X8_tour_215 rfl f_8_49 (Nat.le_of_ble_eq_true rfl) m_pf5 rfl rfl (fun e => absurd e (by decide))) ?_
                    show Xv E q_m_X8_tour 218 [Value.ref am, Value.int (zi y), Value.int (zi a), Value.int (zi b), Value.int (zi m), Value.int (zi x), Value.int (zi k), x7] [] (q_mw h am (uM (uA (uA (uA (uA (uM M 0 5 0) 8 f8) 9 mq) 8 f108) 9 m108) 0 5 2)) Q
                    refine xv (x_aload_n 219 d_X8_tour_218 rfl rfl) ?_
                    refine xv (x_getfield 222 d_X8_tour_219 rfl f_8_49 (Nat.le_of_ble_eq_true rfl) (Nat.le_of_ble_eq_true rfl) ((q_gf_of (m_o (h := h) (am := am) (M := (uM (uA (uA (uA (uA (uM M 0 5 0) 8 f8) 9 mq) 8 f108) 9 m108) 0 5 2))) rfl : q_gf (q_mw h am (uM (uA (uA (uA (uA (uM M 0 5 0) 8 f8) 9 mq) 8 f108) 9 m108) 0 5 2)) am 8 5 = some (Value.int (zi 2))))) ?_
                    refine v_if_le 229 225 d_X8_tour_222 rfl rfl (by omega) (by omega) (fun k222 => ?_) (fun k222 => ?_)
                    · omega
                    · refine xv (x_iconst 226 d_X8_tour_225 rfl) ?_
                      refine xv (x_goto 233 d_X8_tour_226 rfl) ?_
                      refine xv_r (x_ireturn d_X8_tour_233 rfl rfl) ?_
                      have ev : nrD (M 1) b = x := hw.trans (lpI_e (by omega))
                      have er : touM (M 1) y = (2, 0) := by unfold touM; rw [et]; show (if ¬ isO (M 1) y then _ else if ¬ m = 0 ∧ 0 ≤ nrD (M 1) b then ((0 : Int), a + nrD (M 1) b) else (2, 0)) = _; rw [ev, if_neg (fun e => e k6)]; first | exact if_pos (by omega) | exact if_neg (by omega)
                      refine hQ _ _ ⟨by rw [er], (uM (uA (uA (uA (uA (uM M 0 5 0) 8 f8) 9 mq) 8 f108) 9 m108) 0 5 2), rfl, ?_, rfl, rfl, rfl, rfl⟩
                      rw [er]
                      exact u1_u1
                  · refine xv (x_iload 207 d_X8_tour_205 rfl rfl) ?_
                    refine v_if_lt 214 210 d_X8_tour_207 rfl rfl (by omega) (by omega) (fun k207 => ?_) (fun k207 => ?_)
                    · refine xv (x_iconst 215 d_X8_tour_214 rfl) ?_
                      refine xv (x_putfield 218 d_X8_tour_215 rfl f_8_49 (Nat.le_of_ble_eq_true rfl) m_pf5 rfl rfl (fun e => absurd e (by decide))) ?_
                      show Xv E q_m_X8_tour 218 [Value.ref am, Value.int (zi y), Value.int (zi a), Value.int (zi b), Value.int (zi m), Value.int (zi x), Value.int (zi k), x7] [] (q_mw h am (uM (uA (uA (uA (uA (uM M 0 5 0) 8 f8) 9 mq) 8 f108) 9 m108) 0 5 2)) Q
                      refine xv (x_aload_n 219 d_X8_tour_218 rfl rfl) ?_
                      refine xv (x_getfield 222 d_X8_tour_219 rfl f_8_49 (Nat.le_of_ble_eq_true rfl) (Nat.le_of_ble_eq_true rfl) ((q_gf_of (m_o (h := h) (am := am) (M := (uM (uA (uA (uA (uA (uM M 0 5 0) 8 f8) 9 mq) 8 f108) 9 m108) 0 5 2))) rfl : q_gf (q_mw h am (uM (uA (uA (uA (uA (uM M 0 5 0) 8 f8) 9 mq) 8 f108) 9 m108) 0 5 2)) am 8 5 = some (Value.int (zi 2))))) ?_
                      refine v_if_le 229 225 d_X8_tour_222 rfl rfl (by omega) (by omega) (fun k222 => ?_) (fun k222 => ?_)
                      · omega
                      · refine xv (x_iconst 226 d_X8_tour_225 rfl) ?_
                        refine xv (x_goto 233 d_X8_tour_226 rfl) ?_
                        refine xv_r (x_ireturn d_X8_tour_233 rfl rfl) ?_
                        have ev : nrD (M 1) b = x := hw.trans (lpI_e (by omega))
                        have er : touM (M 1) y = (2, 0) := by unfold touM; rw [et]; show (if ¬ isO (M 1) y then _ else if ¬ m = 0 ∧ 0 ≤ nrD (M 1) b then ((0 : Int), a + nrD (M 1) b) else (2, 0)) = _; rw [ev, if_neg (fun e => e k6)]; first | exact if_pos (by omega) | exact if_neg (by omega)
                        refine hQ _ _ ⟨by rw [er], (uM (uA (uA (uA (uA (uM M 0 5 0) 8 f8) 9 mq) 8 f108) 9 m108) 0 5 2), rfl, ?_, rfl, rfl, rfl, rfl⟩
                        rw [er]
                        exact u1_u1
                    · refine xv (x_iconst 211 d_X8_tour_210 rfl) ?_
                      refine xv (x_goto 215 d_X8_tour_211 rfl) ?_
                      refine xv (x_putfield 218 d_X8_tour_215 rfl f_8_49 (Nat.le_of_ble_eq_true rfl) m_pf5 rfl rfl (fun e => absurd e (by decide))) ?_
                      show Xv E q_m_X8_tour 218 [Value.ref am, Value.int (zi y), Value.int (zi a), Value.int (zi b), Value.int (zi m), Value.int (zi x), Value.int (zi k), x7] [] (q_mw h am (uM (uA (uA (uA (uA (uM M 0 5 0) 8 f8) 9 mq) 8 f108) 9 m108) 0 5 0)) Q
                      refine xv (x_aload_n 219 d_X8_tour_218 rfl rfl) ?_
                      refine xv (x_getfield 222 d_X8_tour_219 rfl f_8_49 (Nat.le_of_ble_eq_true rfl) (Nat.le_of_ble_eq_true rfl) ((q_gf_of (m_o (h := h) (am := am) (M := (uM (uA (uA (uA (uA (uM M 0 5 0) 8 f8) 9 mq) 8 f108) 9 m108) 0 5 0))) rfl : q_gf (q_mw h am (uM (uA (uA (uA (uA (uM M 0 5 0) 8 f8) 9 mq) 8 f108) 9 m108) 0 5 0)) am 8 5 = some (Value.int (zi 0))))) ?_
                      refine v_if_le 229 225 d_X8_tour_222 rfl rfl (by omega) (by omega) (fun k222 => ?_) (fun k222 => ?_)
                      · refine xv (x_iload_n 230 d_X8_tour_229 rfl rfl) ?_
                        refine xv (x_iload 232 d_X8_tour_230 rfl rfl) ?_
                        refine xv (x_iadd 233 d_X8_tour_232 rfl) ?_
                        refine xv_r (x_ireturn d_X8_tour_233 rfl rfl) ?_
                        have ev : nrD (M 1) b = x := hw.trans (lpI_e (by omega))
                        have er : touM (M 1) y = (0, a + x) := by unfold touM; rw [et]; show (if ¬ isO (M 1) y then _ else if ¬ m = 0 ∧ 0 ≤ nrD (M 1) b then ((0 : Int), a + nrD (M 1) b) else (2, 0)) = _; rw [ev, if_neg (fun e => e k6)]; first | exact if_pos (by omega) | exact if_neg (by omega)
                        refine hQ _ _ ⟨by rw [er], (uM (uA (uA (uA (uA (uM M 0 5 0) 8 f8) 9 mq) 8 f108) 9 m108) 0 5 0), rfl, ?_, rfl, rfl, rfl, rfl⟩
                        rw [er]
                        exact u1_u1
                      · omega
                · refine xv (x_aload_n 127 d_X8_tour_126 rfl rfl) ?_
                  refine xv (x_getfield 130 d_X8_tour_127 rfl f_8_9 (Nat.le_of_ble_eq_true rfl) (Nat.le_of_ble_eq_true rfl) (q_gf_of m_o rfl)) ?_
                  refine xv (x_bipush 132 d_X8_tour_130 rfl rfl) ?_
                  refine xv (x_iload 134 d_X8_tour_132 rfl rfl) ?_
                  refine xv (x_iadd 135 d_X8_tour_134 rfl) ?_
                  refine xv (x_iaload 136 d_X8_tour_135 rfl ((m_g1 (by omega) (by omega)).trans (rfl : _ = some (Value.int (zi ((M 1) (8 + k))))))) ?_
                  have q_3 : -1000000 ≤ (M 1) (8 + k) ∧ (M 1) (8 + k) ≤ 1000000 := hr _
                  refine xv (x_iconst 137 d_X8_tour_136 rfl) ?_
                  refine v_icmp_ne 154 140 d_X8_tour_137 rfl rfl (by omega) (by omega) (by omega) (by omega) (fun k137 => ?_) (fun k137 => ?_)
                  · refine xv (x_iconst 155 d_X8_tour_154 rfl) ?_
                    refine xv (x_istore 157 d_X8_tour_155 rfl (Nat.le_of_ble_eq_true rfl)) ?_
                    show Xv E q_m_X8_tour 157 [Value.ref am, Value.int (zi y), Value.int (zi a), Value.int (zi b), Value.int (zi m), Value.int (zi x), Value.int (zi k), Value.int (zi 0)] [] (q_mw h am (uA (uA (uA (uA (uM M 0 5 0) 8 f8) 9 mq) 8 f108) 9 m108)) Q
                    refine xv (x_iload 159 d_X8_tour_157 rfl rfl) ?_
                    refine v_if_eq 189 162 d_X8_tour_159 rfl rfl (by omega) (by omega) (fun k159 => ?_) (fun k159 => ?_)
                    · refine xv (x_iload 191 d_X8_tour_189 rfl rfl) ?_
                      refine xv (x_istore 193 d_X8_tour_191 rfl (Nat.le_of_ble_eq_true rfl)) ?_
                      show Xv E q_m_X8_tour 193 [Value.ref am, Value.int (zi y), Value.int (zi a), Value.int (zi b), Value.int (zi m), Value.int (zi x), Value.int (zi k), Value.int (zi 0)] [] (q_mw h am (uA (uA (uA (uA (uM M 0 5 0) 8 f8) 9 mq) 8 f108) 9 m108)) Q
                      refine xv (x_iinc 196 d_X8_tour_193 rfl rfl) ?_
                      show Xv E q_m_X8_tour 196 [Value.ref am, Value.int (zi y), Value.int (zi a), Value.int (zi b), Value.int (zi m), Value.int (zi x), Value.int (zi (k + 1)), Value.int (zi 0)] [] (q_mw h am (uA (uA (uA (uA (uM M 0 5 0) 8 f8) 9 mq) 8 f108) 9 m108)) Q
                      refine xv (x_goto 117 d_X8_tour_196 rfl) ?_
                      refine ih117 _ (by omega) _ (k + 1) _ (by omega) (by omega) (by omega) (hw.trans ((lpI_b (by omega)).trans (congrArg (lpI _ _ _) ?_))) rfl
                      unfold nrF
                      first | exact if_pos (by omega) | exact if_neg (by omega)
                    · omega
                  · refine xv (x_aload_n 141 d_X8_tour_140 rfl rfl) ?_
                    refine xv (x_getfield 144 d_X8_tour_141 rfl f_8_32 (Nat.le_of_ble_eq_true rfl) (Nat.le_of_ble_eq_true rfl) (q_gf_of m_o rfl)) ?_
                    refine xv (x_iload 146 d_X8_tour_144 rfl rfl) ?_
                    refine xv (x_iaload 147 d_X8_tour_146 rfl ((m_g8 (by omega) (by omega)).trans (congrArg (fun z => some (Value.int (zi z))) (a108 k (by omega) (by omega))))) ?_
                    refine v_if_lt 154 150 d_X8_tour_147 rfl rfl (by omega) (by omega) (fun k147 => ?_) (fun k147 => ?_)
                    · refine xv (x_iconst 155 d_X8_tour_154 rfl) ?_
                      refine xv (x_istore 157 d_X8_tour_155 rfl (Nat.le_of_ble_eq_true rfl)) ?_
                      show Xv E q_m_X8_tour 157 [Value.ref am, Value.int (zi y), Value.int (zi a), Value.int (zi b), Value.int (zi m), Value.int (zi x), Value.int (zi k), Value.int (zi 0)] [] (q_mw h am (uA (uA (uA (uA (uM M 0 5 0) 8 f8) 9 mq) 8 f108) 9 m108)) Q
                      refine xv (x_iload 159 d_X8_tour_157 rfl rfl) ?_
                      refine v_if_eq 189 162 d_X8_tour_159 rfl rfl (by omega) (by omega) (fun k159 => ?_) (fun k159 => ?_)
                      · refine xv (x_iload 191 d_X8_tour_189 rfl rfl) ?_
                        refine xv (x_istore 193 d_X8_tour_191 rfl (Nat.le_of_ble_eq_true rfl)) ?_
                        show Xv E q_m_X8_tour 193 [Value.ref am, Value.int (zi y), Value.int (zi a), Value.int (zi b), Value.int (zi m), Value.int (zi x), Value.int (zi k), Value.int (zi 0)] [] (q_mw h am (uA (uA (uA (uA (uM M 0 5 0) 8 f8) 9 mq) 8 f108) 9 m108)) Q
                        refine xv (x_iinc 196 d_X8_tour_193 rfl rfl) ?_
                        show Xv E q_m_X8_tour 196 [Value.ref am, Value.int (zi y), Value.int (zi a), Value.int (zi b), Value.int (zi m), Value.int (zi x), Value.int (zi (k + 1)), Value.int (zi 0)] [] (q_mw h am (uA (uA (uA (uA (uM M 0 5 0) 8 f8) 9 mq) 8 f108) 9 m108)) Q
                        refine xv (x_goto 117 d_X8_tour_196 rfl) ?_
                        refine ih117 _ (by omega) _ (k + 1) _ (by omega) (by omega) (by omega) (hw.trans ((lpI_b (by omega)).trans (congrArg (lpI _ _ _) ?_))) rfl
                        unfold nrF
                        first | exact if_pos (by omega) | exact if_neg (by omega)
                      · omega
                    · refine xv (x_iconst 151 d_X8_tour_150 rfl) ?_
                      refine xv (x_goto 155 d_X8_tour_151 rfl) ?_
                      refine xv (x_istore 157 d_X8_tour_155 rfl (Nat.le_of_ble_eq_true rfl)) ?_
                      show Xv E q_m_X8_tour 157 [Value.ref am, Value.int (zi y), Value.int (zi a), Value.int (zi b), Value.int (zi m), Value.int (zi x), Value.int (zi k), Value.int (zi 1)] [] (q_mw h am (uA (uA (uA (uA (uM M 0 5 0) 8 f8) 9 mq) 8 f108) 9 m108)) Q
                      refine xv (x_iload 159 d_X8_tour_157 rfl rfl) ?_
                      refine v_if_eq 189 162 d_X8_tour_159 rfl rfl (by omega) (by omega) (fun k159 => ?_) (fun k159 => ?_)
                      · omega
                      · refine xv (x_iload 164 d_X8_tour_162 rfl rfl) ?_
                        refine v_if_lt 179 167 d_X8_tour_164 rfl rfl (by omega) (by omega) (fun k164 => ?_) (fun k164 => ?_)
                        · refine xv (x_aload_n 180 d_X8_tour_179 rfl rfl) ?_
                          refine xv (x_getfield 183 d_X8_tour_180 rfl f_8_32 (Nat.le_of_ble_eq_true rfl) (Nat.le_of_ble_eq_true rfl) (q_gf_of m_o rfl)) ?_
                          refine xv (x_iload 185 d_X8_tour_183 rfl rfl) ?_
                          refine xv (x_iaload 186 d_X8_tour_185 rfl ((m_g8 (by omega) (by omega)).trans (congrArg (fun z => some (Value.int (zi z))) (a108 k (by omega) (by omega))))) ?_
                          refine xv (x_goto 191 d_X8_tour_186 rfl) ?_
                          refine xv (x_istore 193 d_X8_tour_191 rfl (Nat.le_of_ble_eq_true rfl)) ?_
                          show Xv E q_m_X8_tour 193 [Value.ref am, Value.int (zi y), Value.int (zi a), Value.int (zi b), Value.int (zi m), Value.int (zi (far (M 1) b k)), Value.int (zi k), Value.int (zi 1)] [] (q_mw h am (uA (uA (uA (uA (uM M 0 5 0) 8 f8) 9 mq) 8 f108) 9 m108)) Q
                          refine xv (x_iinc 196 d_X8_tour_193 rfl rfl) ?_
                          show Xv E q_m_X8_tour 196 [Value.ref am, Value.int (zi y), Value.int (zi a), Value.int (zi b), Value.int (zi m), Value.int (zi (far (M 1) b k)), Value.int (zi (k + 1)), Value.int (zi 1)] [] (q_mw h am (uA (uA (uA (uA (uM M 0 5 0) 8 f8) 9 mq) 8 f108) 9 m108)) Q
                          refine xv (x_goto 117 d_X8_tour_196 rfl) ?_
                          refine ih117 _ (by omega) _ (k + 1) _ (by omega) (by omega) (by omega) (hw.trans ((lpI_b (by omega)).trans (congrArg (lpI _ _ _) ?_))) rfl
                          unfold nrF
                          first | exact if_pos (by omega) | exact if_neg (by omega)
                        · refine xv (x_aload_n 168 d_X8_tour_167 rfl rfl) ?_
                          refine xv (x_getfield 171 d_X8_tour_168 rfl f_8_32 (Nat.le_of_ble_eq_true rfl) (Nat.le_of_ble_eq_true rfl) (q_gf_of m_o rfl)) ?_
                          refine xv (x_iload 173 d_X8_tour_171 rfl rfl) ?_
                          refine xv (x_iaload 174 d_X8_tour_173 rfl ((m_g8 (by omega) (by omega)).trans (congrArg (fun z => some (Value.int (zi z))) (a108 k (by omega) (by omega))))) ?_
                          refine xv (x_iload 176 d_X8_tour_174 rfl rfl) ?_
                          refine v_icmp_ge 189 179 d_X8_tour_176 rfl rfl (by omega) (by omega) (by omega) (by omega) (fun k176 => ?_) (fun k176 => ?_)
                          · refine xv (x_iload 191 d_X8_tour_189 rfl rfl) ?_
                            refine xv (x_istore 193 d_X8_tour_191 rfl (Nat.le_of_ble_eq_true rfl)) ?_
                            show Xv E q_m_X8_tour 193 [Value.ref am, Value.int (zi y), Value.int (zi a), Value.int (zi b), Value.int (zi m), Value.int (zi x), Value.int (zi k), Value.int (zi 1)] [] (q_mw h am (uA (uA (uA (uA (uM M 0 5 0) 8 f8) 9 mq) 8 f108) 9 m108)) Q
                            refine xv (x_iinc 196 d_X8_tour_193 rfl rfl) ?_
                            show Xv E q_m_X8_tour 196 [Value.ref am, Value.int (zi y), Value.int (zi a), Value.int (zi b), Value.int (zi m), Value.int (zi x), Value.int (zi (k + 1)), Value.int (zi 1)] [] (q_mw h am (uA (uA (uA (uA (uM M 0 5 0) 8 f8) 9 mq) 8 f108) 9 m108)) Q
                            refine xv (x_goto 117 d_X8_tour_196 rfl) ?_
                            refine ih117 _ (by omega) _ (k + 1) _ (by omega) (by omega) (by omega) (hw.trans ((lpI_b (by omega)).trans (congrArg (lpI _ _ _) ?_))) rfl
                            unfold nrF
                            first | exact if_pos (by omega) | exact if_neg (by omega)
                          · refine xv (x_aload_n 180 d_X8_tour_179 rfl rfl) ?_
                            refine xv (x_getfield 183 d_X8_tour_180 rfl f_8_32 (Nat.le_of_ble_eq_true rfl) (Nat.le_of_ble_eq_true rfl) (q_gf_of m_o rfl)) ?_
                            refine xv (x_iload 185 d_X8_tour_183 rfl rfl) ?_
                            refine xv (x_iaload 186 d_X8_tour_185 rfl ((m_g8 (by omega) (by omega)).trans (congrArg (fun z => some (Value.int (zi z))) (a108 k (by omega) (by omega))))) ?_
                            refine xv (x_goto 191 d_X8_tour_186 rfl) ?_
                            refine xv (x_istore 193 d_X8_tour_191 rfl (Nat.le_of_ble_eq_true rfl)) ?_
                            show Xv E q_m_X8_tour 193 [Value.ref am, Value.int (zi y), Value.int (zi a), Value.int (zi b), Value.int (zi m), Value.int (zi (far (M 1) b k)), Value.int (zi k), Value.int (zi 1)] [] (q_mw h am (uA (uA (uA (uA (uM M 0 5 0) 8 f8) 9 mq) 8 f108) 9 m108)) Q
                            refine xv (x_iinc 196 d_X8_tour_193 rfl rfl) ?_
                            show Xv E q_m_X8_tour 196 [Value.ref am, Value.int (zi y), Value.int (zi a), Value.int (zi b), Value.int (zi m), Value.int (zi (far (M 1) b k)), Value.int (zi (k + 1)), Value.int (zi 1)] [] (q_mw h am (uA (uA (uA (uA (uM M 0 5 0) 8 f8) 9 mq) 8 f108) 9 m108)) Q
                            refine xv (x_goto 117 d_X8_tour_196 rfl) ?_
                            refine ih117 _ (by omega) _ (k + 1) _ (by omega) (by omega) (by omega) (hw.trans ((lpI_b (by omega)).trans (congrArg (lpI _ _ _) ?_))) rfl
                            unfold nrF
                            first | exact if_pos (by omega) | exact if_neg (by omega)
            exact L117 _ (-1) 0 _ (by omega) (by omega) (by omega) (by rw [Int.sub_zero]; rfl) rfl
          · have gk1 := gy.2.2.2.2.1 k (by omega) (by omega)
            have gk2 := gy.2.2.2.2.2 k (by omega) (by omega)
            refine xv (x_aload_n 53 d_X8_tour_52 rfl rfl) ?_
            refine xv (x_iload_n 54 d_X8_tour_53 rfl rfl) ?_
            refine xv (x_aload_n 55 d_X8_tour_54 rfl rfl) ?_
            refine xv (x_iload_n 56 d_X8_tour_55 rfl rfl) ?_
            refine xv (x_iconst 57 d_X8_tour_56 rfl) ?_
            refine xv (x_iload 59 d_X8_tour_57 rfl rfl) ?_
            refine xv (x_iadd 60 d_X8_tour_59 rfl) ?_
            refine xv (x_inv1 63 (as := [Value.int (zi y), Value.int (zi (5 + k))]) d_X8_tour_60 rfl c_8_109 rfl (Nat.le_of_ble_eq_true rfl) (Nat.le_of_ble_eq_true rfl) m_o (Nat.le_of_ble_eq_true rfl) (Nat.le_of_ble_eq_true rfl) rfl (S_X8_get (E := E) (h := h) (am := am) (M := (uA (uA (uM M 0 5 0) 8 f8) 9 mq)) hR (by first | omega | (rw [show (uA (uA (uM M 0 5 0) 8 f8) 9 mq) 1 = (M 1) from rfl]; omega)) (by first | omega | (rw [show (uA (uA (uM M 0 5 0) 8 f8) 9 mq) 1 = (M 1) from rfl]; omega)) (by first | omega | (rw [show (uA (uA (uM M 0 5 0) 8 f8) 9 mq) 1 = (M 1) from rfl]; omega)) (by first | omega | (rw [show (uA (uA (uM M 0 5 0) 8 f8) 9 mq) 1 = (M 1) from rfl]; omega)))) ?_
            have q_4 : -1000000 ≤ ob (M 1) y (5 + k) ∧ ob (M 1) y (5 + k) ≤ 1000000 := hr _
            show Xv E q_m_X8_tour 63 [Value.ref am, Value.int (zi y), Value.int (zi a), Value.int (zi b), Value.int (zi m), Value.int (zi k), x6, Value.null] [Value.int (zi (ob (M 1) y (5 + k))), Value.int (zi b), Value.ref am] (q_mw h am (uA (uA (uM M 0 5 0) 8 f8) 9 mq)) Q
            obtain ⟨r63, h63, e63, z63, f63, m63, y63⟩ := S_X8_farOf (E := E) (h := h) (am := am) (M := (uA (uA (uM M 0 5 0) 8 f8) 9 mq)) (y := b) (z := ob (M 1) y (5 + k)) hR hT (show isC (M 1) b by omega) (by omega)
            replace z63 : r63 = .inl (some (.int (zi (far (M 1) b (ob (M 1) y (5 + k)))))) := z63
            subst z63
            subst y63
            refine xv (x_inv1 66 (as := [Value.int (zi b), Value.int (zi (ob (M 1) y (5 + k)))]) d_X8_tour_63 rfl c_8_165 rfl (Nat.le_of_ble_eq_true rfl) (Nat.le_of_ble_eq_true rfl) m_o (Nat.le_of_ble_eq_true rfl) (Nat.le_of_ble_eq_true rfl) rfl e63) ?_
            have q63 := far_r (rgc_of hR hT) (show isC (M 1) b by omega) (ob (M 1) y (5 + k))
            show Xv E q_m_X8_tour 66 [Value.ref am, Value.int (zi y), Value.int (zi a), Value.int (zi b), Value.int (zi m), Value.int (zi k), x6, Value.null] [Value.int (zi (far (M 1) b (ob (M 1) y (5 + k))))] (q_mw h am (uA (uA (uA (uA (uM M 0 5 0) 8 f8) 9 mq) 8 f63) 9 m63)) Q
            refine xv (x_istore 68 d_X8_tour_66 rfl (Nat.le_of_ble_eq_true rfl)) ?_
            show Xv E q_m_X8_tour 68 [Value.ref am, Value.int (zi y), Value.int (zi a), Value.int (zi b), Value.int (zi m), Value.int (zi k), Value.int (zi (far (M 1) b (ob (M 1) y (5 + k)))), Value.null] [] (q_mw h am (uA (uA (uA (uA (uM M 0 5 0) 8 f8) 9 mq) 8 f63) 9 m63)) Q
            refine xv (x_iload 70 d_X8_tour_68 rfl rfl) ?_
            refine v_if_eq 82 73 d_X8_tour_70 rfl rfl (by omega) (by omega) (fun k70 => ?_) (fun k70 => ?_)
            · refine xv (x_iconst 83 d_X8_tour_82 rfl) ?_
              refine xv (x_istore 85 d_X8_tour_83 rfl (Nat.le_of_ble_eq_true rfl)) ?_
              show Xv E q_m_X8_tour 85 [Value.ref am, Value.int (zi y), Value.int (zi a), Value.int (zi b), Value.int (zi 0), Value.int (zi k), Value.int (zi (far (M 1) b (ob (M 1) y (5 + k)))), Value.null] [] (q_mw h am (uA (uA (uA (uA (uM M 0 5 0) 8 f8) 9 mq) 8 f63) 9 m63)) Q
              refine xv (x_iload_n 86 d_X8_tour_85 rfl rfl) ?_
              refine xv (x_iload 88 d_X8_tour_86 rfl rfl) ?_
              refine xv (x_iadd 89 d_X8_tour_88 rfl) ?_
              refine xv (x_istore_n 90 d_X8_tour_89 rfl (Nat.le_of_ble_eq_true rfl)) ?_
              show Xv E q_m_X8_tour 90 [Value.ref am, Value.int (zi y), Value.int (zi (a + (far (M 1) b (ob (M 1) y (5 + k))))), Value.int (zi b), Value.int (zi 0), Value.int (zi k), Value.int (zi (far (M 1) b (ob (M 1) y (5 + k)))), Value.null] [] (q_mw h am (uA (uA (uA (uA (uM M 0 5 0) 8 f8) 9 mq) 8 f63) 9 m63)) Q
              refine xv (x_aload_n 91 d_X8_tour_90 rfl rfl) ?_
              refine xv (x_iload_n 92 d_X8_tour_91 rfl rfl) ?_
              refine xv (x_iconst 93 d_X8_tour_92 rfl) ?_
              refine xv (x_iload 95 d_X8_tour_93 rfl rfl) ?_
              refine xv (x_iadd 96 d_X8_tour_95 rfl) ?_
              refine xv (x_inv1 99 (as := [Value.int (zi y), Value.int (zi (5 + k))]) d_X8_tour_96 rfl c_8_109 rfl (Nat.le_of_ble_eq_true rfl) (Nat.le_of_ble_eq_true rfl) m_o (Nat.le_of_ble_eq_true rfl) (Nat.le_of_ble_eq_true rfl) rfl (S_X8_get (E := E) (h := h) (am := am) (M := (uA (uA (uA (uA (uM M 0 5 0) 8 f8) 9 mq) 8 f63) 9 m63)) hR (by first | omega | (rw [show (uA (uA (uA (uA (uM M 0 5 0) 8 f8) 9 mq) 8 f63) 9 m63) 1 = (M 1) from rfl]; omega)) (by first | omega | (rw [show (uA (uA (uA (uA (uM M 0 5 0) 8 f8) 9 mq) 8 f63) 9 m63) 1 = (M 1) from rfl]; omega)) (by first | omega | (rw [show (uA (uA (uA (uA (uM M 0 5 0) 8 f8) 9 mq) 8 f63) 9 m63) 1 = (M 1) from rfl]; omega)) (by first | omega | (rw [show (uA (uA (uA (uA (uM M 0 5 0) 8 f8) 9 mq) 8 f63) 9 m63) 1 = (M 1) from rfl]; omega)))) ?_
              have q_5 : -1000000 ≤ ob (M 1) y (5 + k) ∧ ob (M 1) y (5 + k) ≤ 1000000 := hr _
              show Xv E q_m_X8_tour 99 [Value.ref am, Value.int (zi y), Value.int (zi (a + (far (M 1) b (ob (M 1) y (5 + k))))), Value.int (zi b), Value.int (zi 0), Value.int (zi k), Value.int (zi (far (M 1) b (ob (M 1) y (5 + k)))), Value.null] [Value.int (zi (ob (M 1) y (5 + k)))] (q_mw h am (uA (uA (uA (uA (uM M 0 5 0) 8 f8) 9 mq) 8 f63) 9 m63)) Q
              refine xv (x_istore_n 100 d_X8_tour_99 rfl (Nat.le_of_ble_eq_true rfl)) ?_
              show Xv E q_m_X8_tour 100 [Value.ref am, Value.int (zi y), Value.int (zi (a + (far (M 1) b (ob (M 1) y (5 + k))))), Value.int (zi (ob (M 1) y (5 + k))), Value.int (zi 0), Value.int (zi k), Value.int (zi (far (M 1) b (ob (M 1) y (5 + k)))), Value.null] [] (q_mw h am (uA (uA (uA (uA (uM M 0 5 0) 8 f8) 9 mq) 8 f63) 9 m63)) Q
              refine xv (x_iinc 103 d_X8_tour_100 rfl rfl) ?_
              show Xv E q_m_X8_tour 103 [Value.ref am, Value.int (zi y), Value.int (zi (a + (far (M 1) b (ob (M 1) y (5 + k))))), Value.int (zi (ob (M 1) y (5 + k))), Value.int (zi 0), Value.int (zi (k + 1)), Value.int (zi (far (M 1) b (ob (M 1) y (5 + k)))), Value.null] [] (q_mw h am (uA (uA (uA (uA (uM M 0 5 0) 8 f8) 9 mq) 8 f63) 9 m63)) Q
              refine xv (x_goto 41 d_X8_tour_103 rfl) ?_
              have im_ : (uA (uA (uA (uA (uM M 0 5 0) 8 f8) 9 mq) 8 f63) 9 m63) = uA (uA (uM M 0 5 0) 8 f63) 9 m63 := by rw [uA_comm (show (9 : Nat) ≠ 8 by decide), uA_uA, uA_uA]
              rw [im_]
              have gk1 := gy.2.2.2.2.1 k (by omega) (by omega)
              have gk2 := gy.2.2.2.2.2 k (by omega) (by omega)
              refine ih41 _ (by omega) _ _ _ (k + 1) _ _ _ (by omega) (by omega) (by omega) (by omega) (by omega) (hv.trans ((trD_b (by omega)).trans ?_)) rfl
              congr 1
              first | (rw [if_pos ⟨by omega, by omega⟩]) | (rw [if_neg (by omega)])
            · refine xv (x_iload 75 d_X8_tour_73 rfl rfl) ?_
              refine v_if_lt 82 78 d_X8_tour_75 rfl rfl (by omega) (by omega) (fun k75 => ?_) (fun k75 => ?_)
              · refine xv (x_iconst 83 d_X8_tour_82 rfl) ?_
                refine xv (x_istore 85 d_X8_tour_83 rfl (Nat.le_of_ble_eq_true rfl)) ?_
                show Xv E q_m_X8_tour 85 [Value.ref am, Value.int (zi y), Value.int (zi a), Value.int (zi b), Value.int (zi 0), Value.int (zi k), Value.int (zi (far (M 1) b (ob (M 1) y (5 + k)))), Value.null] [] (q_mw h am (uA (uA (uA (uA (uM M 0 5 0) 8 f8) 9 mq) 8 f63) 9 m63)) Q
                refine xv (x_iload_n 86 d_X8_tour_85 rfl rfl) ?_
                refine xv (x_iload 88 d_X8_tour_86 rfl rfl) ?_
                refine xv (x_iadd 89 d_X8_tour_88 rfl) ?_
                refine xv (x_istore_n 90 d_X8_tour_89 rfl (Nat.le_of_ble_eq_true rfl)) ?_
                show Xv E q_m_X8_tour 90 [Value.ref am, Value.int (zi y), Value.int (zi (a + (far (M 1) b (ob (M 1) y (5 + k))))), Value.int (zi b), Value.int (zi 0), Value.int (zi k), Value.int (zi (far (M 1) b (ob (M 1) y (5 + k)))), Value.null] [] (q_mw h am (uA (uA (uA (uA (uM M 0 5 0) 8 f8) 9 mq) 8 f63) 9 m63)) Q
                refine xv (x_aload_n 91 d_X8_tour_90 rfl rfl) ?_
                refine xv (x_iload_n 92 d_X8_tour_91 rfl rfl) ?_
                refine xv (x_iconst 93 d_X8_tour_92 rfl) ?_
                refine xv (x_iload 95 d_X8_tour_93 rfl rfl) ?_
                refine xv (x_iadd 96 d_X8_tour_95 rfl) ?_
                refine xv (x_inv1 99 (as := [Value.int (zi y), Value.int (zi (5 + k))]) d_X8_tour_96 rfl c_8_109 rfl (Nat.le_of_ble_eq_true rfl) (Nat.le_of_ble_eq_true rfl) m_o (Nat.le_of_ble_eq_true rfl) (Nat.le_of_ble_eq_true rfl) rfl (S_X8_get (E := E) (h := h) (am := am) (M := (uA (uA (uA (uA (uM M 0 5 0) 8 f8) 9 mq) 8 f63) 9 m63)) hR (by first | omega | (rw [show (uA (uA (uA (uA (uM M 0 5 0) 8 f8) 9 mq) 8 f63) 9 m63) 1 = (M 1) from rfl]; omega)) (by first | omega | (rw [show (uA (uA (uA (uA (uM M 0 5 0) 8 f8) 9 mq) 8 f63) 9 m63) 1 = (M 1) from rfl]; omega)) (by first | omega | (rw [show (uA (uA (uA (uA (uM M 0 5 0) 8 f8) 9 mq) 8 f63) 9 m63) 1 = (M 1) from rfl]; omega)) (by first | omega | (rw [show (uA (uA (uA (uA (uM M 0 5 0) 8 f8) 9 mq) 8 f63) 9 m63) 1 = (M 1) from rfl]; omega)))) ?_
                have q_6 : -1000000 ≤ ob (M 1) y (5 + k) ∧ ob (M 1) y (5 + k) ≤ 1000000 := hr _
                show Xv E q_m_X8_tour 99 [Value.ref am, Value.int (zi y), Value.int (zi (a + (far (M 1) b (ob (M 1) y (5 + k))))), Value.int (zi b), Value.int (zi 0), Value.int (zi k), Value.int (zi (far (M 1) b (ob (M 1) y (5 + k)))), Value.null] [Value.int (zi (ob (M 1) y (5 + k)))] (q_mw h am (uA (uA (uA (uA (uM M 0 5 0) 8 f8) 9 mq) 8 f63) 9 m63)) Q
                refine xv (x_istore_n 100 d_X8_tour_99 rfl (Nat.le_of_ble_eq_true rfl)) ?_
                show Xv E q_m_X8_tour 100 [Value.ref am, Value.int (zi y), Value.int (zi (a + (far (M 1) b (ob (M 1) y (5 + k))))), Value.int (zi (ob (M 1) y (5 + k))), Value.int (zi 0), Value.int (zi k), Value.int (zi (far (M 1) b (ob (M 1) y (5 + k)))), Value.null] [] (q_mw h am (uA (uA (uA (uA (uM M 0 5 0) 8 f8) 9 mq) 8 f63) 9 m63)) Q
                refine xv (x_iinc 103 d_X8_tour_100 rfl rfl) ?_
                show Xv E q_m_X8_tour 103 [Value.ref am, Value.int (zi y), Value.int (zi (a + (far (M 1) b (ob (M 1) y (5 + k))))), Value.int (zi (ob (M 1) y (5 + k))), Value.int (zi 0), Value.int (zi (k + 1)), Value.int (zi (far (M 1) b (ob (M 1) y (5 + k)))), Value.null] [] (q_mw h am (uA (uA (uA (uA (uM M 0 5 0) 8 f8) 9 mq) 8 f63) 9 m63)) Q
                refine xv (x_goto 41 d_X8_tour_103 rfl) ?_
                have im_ : (uA (uA (uA (uA (uM M 0 5 0) 8 f8) 9 mq) 8 f63) 9 m63) = uA (uA (uM M 0 5 0) 8 f63) 9 m63 := by rw [uA_comm (show (9 : Nat) ≠ 8 by decide), uA_uA, uA_uA]
                rw [im_]
                have gk1 := gy.2.2.2.2.1 k (by omega) (by omega)
                have gk2 := gy.2.2.2.2.2 k (by omega) (by omega)
                refine ih41 _ (by omega) _ _ _ (k + 1) _ _ _ (by omega) (by omega) (by omega) (by omega) (by omega) (hv.trans ((trD_b (by omega)).trans ?_)) rfl
                congr 1
                first | (rw [if_pos ⟨by omega, by omega⟩]) | (rw [if_neg (by omega)])
              · refine xv (x_iconst 79 d_X8_tour_78 rfl) ?_
                refine xv (x_goto 83 d_X8_tour_79 rfl) ?_
                refine xv (x_istore 85 d_X8_tour_83 rfl (Nat.le_of_ble_eq_true rfl)) ?_
                show Xv E q_m_X8_tour 85 [Value.ref am, Value.int (zi y), Value.int (zi a), Value.int (zi b), Value.int (zi 1), Value.int (zi k), Value.int (zi (far (M 1) b (ob (M 1) y (5 + k)))), Value.null] [] (q_mw h am (uA (uA (uA (uA (uM M 0 5 0) 8 f8) 9 mq) 8 f63) 9 m63)) Q
                refine xv (x_iload_n 86 d_X8_tour_85 rfl rfl) ?_
                refine xv (x_iload 88 d_X8_tour_86 rfl rfl) ?_
                refine xv (x_iadd 89 d_X8_tour_88 rfl) ?_
                refine xv (x_istore_n 90 d_X8_tour_89 rfl (Nat.le_of_ble_eq_true rfl)) ?_
                show Xv E q_m_X8_tour 90 [Value.ref am, Value.int (zi y), Value.int (zi (a + (far (M 1) b (ob (M 1) y (5 + k))))), Value.int (zi b), Value.int (zi 1), Value.int (zi k), Value.int (zi (far (M 1) b (ob (M 1) y (5 + k)))), Value.null] [] (q_mw h am (uA (uA (uA (uA (uM M 0 5 0) 8 f8) 9 mq) 8 f63) 9 m63)) Q
                refine xv (x_aload_n 91 d_X8_tour_90 rfl rfl) ?_
                refine xv (x_iload_n 92 d_X8_tour_91 rfl rfl) ?_
                refine xv (x_iconst 93 d_X8_tour_92 rfl) ?_
                refine xv (x_iload 95 d_X8_tour_93 rfl rfl) ?_
                refine xv (x_iadd 96 d_X8_tour_95 rfl) ?_
                refine xv (x_inv1 99 (as := [Value.int (zi y), Value.int (zi (5 + k))]) d_X8_tour_96 rfl c_8_109 rfl (Nat.le_of_ble_eq_true rfl) (Nat.le_of_ble_eq_true rfl) m_o (Nat.le_of_ble_eq_true rfl) (Nat.le_of_ble_eq_true rfl) rfl (S_X8_get (E := E) (h := h) (am := am) (M := (uA (uA (uA (uA (uM M 0 5 0) 8 f8) 9 mq) 8 f63) 9 m63)) hR (by first | omega | (rw [show (uA (uA (uA (uA (uM M 0 5 0) 8 f8) 9 mq) 8 f63) 9 m63) 1 = (M 1) from rfl]; omega)) (by first | omega | (rw [show (uA (uA (uA (uA (uM M 0 5 0) 8 f8) 9 mq) 8 f63) 9 m63) 1 = (M 1) from rfl]; omega)) (by first | omega | (rw [show (uA (uA (uA (uA (uM M 0 5 0) 8 f8) 9 mq) 8 f63) 9 m63) 1 = (M 1) from rfl]; omega)) (by first | omega | (rw [show (uA (uA (uA (uA (uM M 0 5 0) 8 f8) 9 mq) 8 f63) 9 m63) 1 = (M 1) from rfl]; omega)))) ?_
                have q_7 : -1000000 ≤ ob (M 1) y (5 + k) ∧ ob (M 1) y (5 + k) ≤ 1000000 := hr _
                show Xv E q_m_X8_tour 99 [Value.ref am, Value.int (zi y), Value.int (zi (a + (far (M 1) b (ob (M 1) y (5 + k))))), Value.int (zi b), Value.int (zi 1), Value.int (zi k), Value.int (zi (far (M 1) b (ob (M 1) y (5 + k)))), Value.null] [Value.int (zi (ob (M 1) y (5 + k)))] (q_mw h am (uA (uA (uA (uA (uM M 0 5 0) 8 f8) 9 mq) 8 f63) 9 m63)) Q
                refine xv (x_istore_n 100 d_X8_tour_99 rfl (Nat.le_of_ble_eq_true rfl)) ?_
                show Xv E q_m_X8_tour 100 [Value.ref am, Value.int (zi y), Value.int (zi (a + (far (M 1) b (ob (M 1) y (5 + k))))), Value.int (zi (ob (M 1) y (5 + k))), Value.int (zi 1), Value.int (zi k), Value.int (zi (far (M 1) b (ob (M 1) y (5 + k)))), Value.null] [] (q_mw h am (uA (uA (uA (uA (uM M 0 5 0) 8 f8) 9 mq) 8 f63) 9 m63)) Q
                refine xv (x_iinc 103 d_X8_tour_100 rfl rfl) ?_
                show Xv E q_m_X8_tour 103 [Value.ref am, Value.int (zi y), Value.int (zi (a + (far (M 1) b (ob (M 1) y (5 + k))))), Value.int (zi (ob (M 1) y (5 + k))), Value.int (zi 1), Value.int (zi (k + 1)), Value.int (zi (far (M 1) b (ob (M 1) y (5 + k)))), Value.null] [] (q_mw h am (uA (uA (uA (uA (uM M 0 5 0) 8 f8) 9 mq) 8 f63) 9 m63)) Q
                refine xv (x_goto 41 d_X8_tour_103 rfl) ?_
                have im_ : (uA (uA (uA (uA (uM M 0 5 0) 8 f8) 9 mq) 8 f63) 9 m63) = uA (uA (uM M 0 5 0) 8 f63) 9 m63 := by rw [uA_comm (show (9 : Nat) ≠ 8 by decide), uA_uA, uA_uA]
                rw [im_]
                have gk1 := gy.2.2.2.2.1 k (by omega) (by omega)
                have gk2 := gy.2.2.2.2.2 k (by omega) (by omega)
                refine ih41 _ (by omega) _ _ _ (k + 1) _ _ _ (by omega) (by omega) (by omega) (by omega) (by omega) (hv.trans ((trD_b (by omega)).trans ?_)) rfl
                congr 1
                first | (rw [if_pos ⟨by omega, by omega⟩]) | (rw [if_neg (by omega)])
      have im_ : uA (uA (uM M 0 5 0) 8 (M 8)) 9 (M 9) = uM M 0 5 0 := by
        rw [show uA (uM M 0 5 0) 8 (M 8) = uM M 0 5 0 from uA_self]
        exact uA_self
      have i0 := fun x6 => L41 _ 0 (ob (M 1) y 5) 1 1 (M 8) (M 9) x6 (by omega) (by omega) (by omega) (by omega) (by omega) rfl rfl
      rw [im_] at i0
      exact i0 _
    · omega
end RB5
