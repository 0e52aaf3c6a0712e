/-! the reference: close, open, assign (printed by program) -/
section RP
variable {E : q_E} {h : q_H} {am : Nat} {M M2 : q_Im} {l : Int → Int}
theorem rgc_of (hR : Rg l) (hT : 0 ≤ l 2) : RgC l := by
  obtain ⟨hr, g0, g1, g3, g4, gc, g5, g6, g7, gk, gl, gr, go⟩ := hR
  have := hr 2
  exact ⟨g0, g1, ⟨hT, this.2⟩, g3, g4, gc, g5, g6, g7, gk, gl, gr, fun o a b => (go o a b).1⟩
theorem rg_of (hr : ∀ k, -1000000 ≤ l k ∧ l k ≤ 1000000) (hR : RgC l) (hB : ∀ o, 0 ≤ o → o < l 4 → -1 ≤ ob l o 3 ∧ ob l o 3 < l 3) : Rg l := by
  obtain ⟨g0, g1, g2, g3, g4, gc, g5, g6, g7, gk, gl, gr, go⟩ := hR
  exact ⟨hr, g0, g1, g3, g4, gc, g5, g6, g7, gk, gl, gr, fun o a b => ⟨go o a b, hB o a b⟩⟩
theorem u1_r {k v : Int} (hr : ∀ k, -1000000 ≤ l k ∧ l k ≤ 1000000) (hv : -1000000 ≤ v ∧ v ≤ 1000000) (i : Int) : -1000000 ≤ u1 l k v i ∧ u1 l k v i ≤ 1000000 := by
  by_cases q : i = k
  · rw [q, u1_eq]; exact hv
  · rw [u1_ne q]; exact hr i
theorem rg_u {k v : Int} (hR : Rg l) (hk : 4 < k ∧ k < 320) (hv : -1000000 ≤ v ∧ v ≤ 1000000) (hC : RgC (u1 l k v)) : Rg (u1 l k v) := by
  obtain ⟨hr, g0, g1, g3, g4, gc, g5, g6, g7, gk, gl, gr, go⟩ := hR
  refine rg_of (u1_r hr hv) hC fun o a b => ?_
  rw [u1_ne (by omega)] at b
  rw [show ob (u1 l k v) o 3 = ob l o 3 from u1_ne (i := 320 + 8 * o + 3) (by omega), u1_ne (by omega)]
  exact (go o a b).2
theorem rg_by {o v : Int} (hR : Rg l) (hT : 0 ≤ l 2) (ho : isO l o) (hv : -1 ≤ v ∧ v < l 3) : Rg (u1 l (320 + 8 * o + 3) v) := by
  have hC := rgc_of hR hT
  obtain ⟨hr, g0, g1, g3, g4, gc, g5, g6, g7, gk, gl, gr, go⟩ := hR
  have hO := (go o ho.1 ho.2).1
  have hC2 : RgC (u1 l (320 + 8 * o + 3) v) := by
    rw [← oset_u (l := l) (o := o) (v := v) (k := 3) (by omega) (by omega)]
    obtain ⟨q0, q1, q2, q4, q5, q6⟩ := hO
    exact rgc_oset hC ho ⟨q0, q1, q2, q4, fun t a b => by rw [u1_ne (by omega)]; exact q5 t a b, fun t a b => by rw [u1_ne (by omega)]; exact q6 t a b⟩
  refine rg_of (u1_r hr (by omega)) hC2 fun o' a b => ?_
  rw [u1_ne (by omega)] at b
  rw [u1_ne (i := 3) (by omega)]
  by_cases q : o' = o
  · subst q
    rw [show ob (u1 l (320 + 8 * o' + 3) v) o' 3 = v from u1_eq]
    exact hv
  · rw [show ob (u1 l (320 + 8 * o + 3) v) o' 3 = ob l o' 3 from u1_ne (i := 320 + 8 * o' + 3) (by omega)]
    exact (go o' a b).2
theorem rg_has {r v : Int} (hR : Rg l) (hT : 0 ≤ l 2) (h1 : isR l r) (hv : -1 ≤ v ∧ v < l 4) : Rg (u1 l (104 + 36 * r + 2) v) := by
  have hC := rgc_of hR hT
  have g4 := hR.2.2.2.2.1
  have g3 := hR.2.2.2.1
  have hf := hC.2.2.2.2.2.2.2.2.2.2.2.1 r h1.1 h1.2
  refine rg_u hR (by omega) (by omega) ?_
  rw [← rset_u (l := l) (r := r) (v := v) (k := 2) (by omega) (by omega)]
  obtain ⟨q0, q1, q2, q3, q4, q5, q6⟩ := hf
  refine rgc_rset hC h1 ⟨q0, q1, ?_, q3, q4, q5, fun t a b => ?_⟩
  · rw [u1_eq]; exact hv
  · rw [u1_ne (by omega)]
    exact q6 t a b
noncomputable def mClo (l : Int → Int) (c : Int) : Int × Int := if ¬ isC l c then (1, 0) else if l (56 + c) = 1 then (13, 0) else if l (8 + c) = 1 then (4, c) else if 0 ≤ wbe l c 0 (-1) then (5, wbe l c 0 (-1)) else (0, 0)
def rClo (l : Int → Int) (c : Int) : Int → Int := u1 l (56 + c) 1
noncomputable def mOpn (l : Int → Int) (c : Int) : Int × Int := if ¬ isC l c then (1, 0) else if l (56 + c) = 0 then (13, 0) else (0, 0)
def rOpn (l : Int → Int) (c : Int) : Int → Int := u1 l (56 + c) 0
noncomputable def mAsg (l : Int → Int) (r o : Int) : Int × Int := if ¬ (isR l r ∧ isO l o) then (1, 0) else if 0 ≤ rb l r 2 then (7, rb l r 2) else if ¬ sto l o = 0 then (8, sto l o) else (0, 0)
def rAsg (l : Int → Int) (r o : Int) : Int → Int := u1 (u1 l (104 + 36 * r + 2) o) (320 + 8 * o + 3) r
theorem S_X8_close (hR : Rg (M 1)) (hT : 0 ≤ M 1 2) (hc : 0 ≤ M 0 4 ∧ M 0 4 ≤ 8) {y : Int} (y0 : -2147483648 ≤ y) (y1 : y < 2147483648) : ∃ r_ h', q_cl E q_m_X8_close [Value.ref am, Value.int (zi y)] (q_mw h am M) = some (r_, h') ∧ (r_ = .inl (some (.int (zi (mMut M (mClo (M 1) y) (ccl (u1 (M 1) (56 + y) 1)) (rClo (M 1) y)).1))) ∧ h' = q_mw h am (mMut M (mClo (M 1) y) (ccl (u1 (M 1) (56 + y) 1)) (rClo (M 1) y)).2) := by
  suffices K : ∀ Q : q_R → q_H → Prop, (∀ r_ h', (r_ = .inl (some (.int (zi (mMut M (mClo (M 1) y) (ccl (u1 (M 1) (56 + y) 1)) (rClo (M 1) y)).1))) ∧ h' = q_mw h am (mMut M (mClo (M 1) y) (ccl (u1 (M 1) (56 + y) 1)) (rClo (M 1) y)).2) → Q r_ h') → Xv E q_m_X8_close 0 [Value.ref am, Value.int (zi y), Value.null] [] (q_mw h am M) Q from K _ fun _ _ p => p
  intro Q hQ
  have hR0 := hR
  obtain ⟨hr, g0, g1, g3, g4, gc, g5, g6, g7, gk, gl, gr, go⟩ := hR0
  refine xv (x_aload_n 1 d_X8_close_0 rfl rfl) ?_
  refine xv (x_iconst 2 d_X8_close_1 rfl) ?_
  refine xv (x_putfield 5 d_X8_close_2 rfl f_8_49 (Nat.le_of_ble_eq_true rfl) m_pf5 rfl rfl (fun e => absurd e (by decide))) ?_
  show Xv E q_m_X8_close 5 [Value.ref am, Value.int (zi y), Value.null] [] (q_mw h am (uM M 0 5 0)) Q
  refine xv (x_aload_n 6 d_X8_close_5 rfl rfl) ?_
  refine xv (x_iload_n 7 d_X8_close_6 rfl rfl) ?_
  refine xv (x_inv1 10 (as := [Value.int (zi y)]) d_X8_close_7 rfl c_8_86 rfl (Nat.le_of_ble_eq_true rfl) (Nat.le_of_ble_eq_true rfl) m_o (Nat.le_of_ble_eq_true rfl) (Nat.le_of_ble_eq_true rfl) rfl (S_X8_isCell (E := E) (h := h) (am := am) (M := (uM M 0 5 0)) hR (by first | omega | (rw [show (uM M 0 5 0) 1 = (M 1) from rfl]; omega)) (by first | omega | (rw [show (uM M 0 5 0) 1 = (M 1) from rfl]; omega)))) ?_
  show Xv E q_m_X8_close 10 [Value.ref am, Value.int (zi y), Value.null] [Value.int (zi (bI (isC (M 1) y)))] (q_mw h am (uM M 0 5 0)) Q
  refine v_if_ne 20 13 d_X8_close_10 rfl rfl (by have := bI_r (isC (M 1) y); omega) (by have := bI_r (isC (M 1) y); omega) (fun k10 => ?_) (fun k10 => ?_)
  · replace k10 := bI_n0.mp k10
    refine xv (x_aload_n 21 d_X8_close_20 rfl rfl) ?_
    refine xv (x_getfield 24 d_X8_close_21 rfl f_8_9 (Nat.le_of_ble_eq_true rfl) (Nat.le_of_ble_eq_true rfl) (q_gf_of m_o rfl)) ?_
    refine xv (x_bipush 26 d_X8_close_24 rfl rfl) ?_
    refine xv (x_iload_n 27 d_X8_close_26 rfl rfl) ?_
    refine xv (x_iadd 28 d_X8_close_27 rfl) ?_
    refine xv (x_iaload 29 d_X8_close_28 rfl ((m_g1 (by omega) (by omega)).trans (rfl : _ = some (Value.int (zi ((M 1) (56 + y))))))) ?_
    have q_1 : -1000000 ≤ (M 1) (56 + y) ∧ (M 1) (56 + y) ≤ 1000000 := hr _
    refine xv (x_iconst 30 d_X8_close_29 rfl) ?_
    refine v_icmp_ne 41 33 d_X8_close_30 rfl rfl (by omega) (by omega) (by omega) (by omega) (fun k30 => ?_) (fun k30 => ?_)
    · refine xv (x_aload_n 42 d_X8_close_41 rfl rfl) ?_
      refine xv (x_getfield 45 d_X8_close_42 rfl f_8_9 (Nat.le_of_ble_eq_true rfl) (Nat.le_of_ble_eq_true rfl) (q_gf_of m_o rfl)) ?_
      refine xv (x_bipush 47 d_X8_close_45 rfl rfl) ?_
      refine xv (x_iload_n 48 d_X8_close_47 rfl rfl) ?_
      refine xv (x_iadd 49 d_X8_close_48 rfl) ?_
      refine xv (x_iaload 50 d_X8_close_49 rfl ((m_g1 (by omega) (by omega)).trans (rfl : _ = some (Value.int (zi ((M 1) (8 + y))))))) ?_
      have q_2 : -1000000 ≤ (M 1) (8 + y) ∧ (M 1) (8 + y) ≤ 1000000 := hr _
      refine xv (x_iconst 51 d_X8_close_50 rfl) ?_
      refine v_icmp_ne 61 54 d_X8_close_51 rfl rfl (by omega) (by omega) (by omega) (by omega) (fun k51 => ?_) (fun k51 => ?_)
      · refine xv (x_aload_n 62 d_X8_close_61 rfl rfl) ?_
        refine xv (x_iload_n 63 d_X8_close_62 rfl rfl) ?_
        refine xv (x_iconst 64 d_X8_close_63 rfl) ?_
        refine xv (x_iconst 65 d_X8_close_64 rfl) ?_
        refine xv (x_inv1 68 (as := [Value.int (zi y), Value.int (zi 0), Value.int (zi (-1))]) d_X8_close_65 rfl c_8_96 rfl (Nat.le_of_ble_eq_true rfl) (Nat.le_of_ble_eq_true rfl) m_o (Nat.le_of_ble_eq_true rfl) (Nat.le_of_ble_eq_true rfl) rfl (S_X8_willBe (E := E) (h := h) (am := am) (M := (uM M 0 5 0)) hR (by first | omega | (rw [show (uM M 0 5 0) 1 = (M 1) from rfl]; omega)) (by first | omega | (rw [show (uM M 0 5 0) 1 = (M 1) from rfl]; omega)) (by first | omega | (rw [show (uM M 0 5 0) 1 = (M 1) from rfl]; omega)) (by first | omega | (rw [show (uM M 0 5 0) 1 = (M 1) from rfl]; omega)) (by first | omega | (rw [show (uM M 0 5 0) 1 = (M 1) from rfl]; omega)) (by first | omega | (rw [show (uM M 0 5 0) 1 = (M 1) from rfl]; omega)))) ?_
        have q_4 : wbe (M 1) y 0 (-1) = -1 ∨ (0 ≤ wbe (M 1) y 0 (-1) ∧ wbe (M 1) y 0 (-1) < 0 + (((M 1) 3).toNat : Nat)) :=  @fnd_r (wbA (M 1) y 0 (-1)) ((M 1) 3).toNat 0
        show Xv E q_m_X8_close 68 [Value.ref am, Value.int (zi y), Value.null] [Value.int (zi (wbe (M 1) y 0 (-1)))] (q_mw h am (uM M 0 5 0)) Q
        refine xv (x_istore_n 69 d_X8_close_68 rfl (Nat.le_of_ble_eq_true rfl)) ?_
        show Xv E q_m_X8_close 69 [Value.ref am, Value.int (zi y), Value.int (zi (wbe (M 1) y 0 (-1)))] [] (q_mw h am (uM M 0 5 0)) Q
        refine xv (x_iload_n 70 d_X8_close_69 rfl rfl) ?_
        refine v_if_lt 80 73 d_X8_close_70 rfl rfl (by omega) (by omega) (fun k70 => ?_) (fun k70 => ?_)
        · refine xv (x_aload_n 81 d_X8_close_80 rfl rfl) ?_
          obtain ⟨r81, h81, e81, z81, y81⟩ := S_X8_change (E := E) (h := h) (am := am) (M := (uM M 0 5 0)) hc
          subst z81
          subst y81
          refine xv (x_inv0 84 (as := []) d_X8_close_81 rfl c_8_100 rfl (Nat.le_of_ble_eq_true rfl) (Nat.le_of_ble_eq_true rfl) m_o (Nat.le_of_ble_eq_true rfl) (Nat.le_of_ble_eq_true rfl) rfl e81) ?_
          generalize hM2 : mch (uM M 0 5 0) = M2
          have e2 : M2 1 = M 1 := by rw [← hM2]; exact mch_1
          have eM : M2 = uA M2 1 (M 1) := by rw [← e2, uA_self]
          rw [eM]
          have hR3 : Rg (u1 (M 1) (56 + y) 1) := rg_u hR (by omega) (by omega) (rgc_cl (rgc_of hR hT) k10 (by omega))
          show Xv E q_m_X8_close 84 [Value.ref am, Value.int (zi y), Value.int (zi (wbe (M 1) y 0 (-1)))] [] (q_mw h am (uA M2 1 (M 1))) Q
          refine xv (x_aload_n 85 d_X8_close_84 rfl rfl) ?_
          refine xv (x_getfield 88 d_X8_close_85 rfl f_8_9 (Nat.le_of_ble_eq_true rfl) (Nat.le_of_ble_eq_true rfl) (q_gf_of m_o rfl)) ?_
          refine xv (x_bipush 90 d_X8_close_88 rfl rfl) ?_
          refine xv (x_iload_n 91 d_X8_close_90 rfl rfl) ?_
          refine xv (x_iadd 92 d_X8_close_91 rfl) ?_
          refine xv (x_iconst 93 d_X8_close_92 rfl) ?_
          refine xv (x_iastore 94 d_X8_close_93 rfl (m_s1 (by omega) (by omega))) ?_
          show Xv E q_m_X8_close 94 [Value.ref am, Value.int (zi y), Value.int (zi (wbe (M 1) y 0 (-1)))] [] (q_mw h am (uM (uA M2 1 (M 1)) 1 (56 + y) 1)) Q
          refine xv (x_aload_n 95 d_X8_close_94 rfl rfl) ?_
          refine xv (x_inv1 98 (as := []) d_X8_close_95 rfl c_8_118 rfl (Nat.le_of_ble_eq_true rfl) (Nat.le_of_ble_eq_true rfl) m_o (Nat.le_of_ble_eq_true rfl) (Nat.le_of_ble_eq_true rfl) rfl (S_X8_closedCells (E := E) (h := h) (am := am) (M := (uM (uA M2 1 (M 1)) 1 (56 + y) 1)) hR3)) ?_
          show Xv E q_m_X8_close 98 [Value.ref am, Value.int (zi y), Value.int (zi (wbe (M 1) y 0 (-1)))] [Value.int (zi (ccl (u1 (M 1) (56 + y) 1)))] (q_mw h am (uM (uA M2 1 (M 1)) 1 (56 + y) 1)) Q
          refine xv_r (x_ireturn d_X8_close_98 rfl rfl) ?_
          have er : mClo (M 1) y = (0, 0) := by unfold mClo; repeat (first | rw [if_pos (by omega)] | rw [if_neg (by omega)])
          refine hQ _ _ ?_
          unfold mMut
          rw [er, if_pos rfl]
          refine ⟨rfl, ?_⟩
          rw [hM2]
          unfold rClo
          simp only [uM_uA]
        · refine xv (x_aload_n 74 d_X8_close_73 rfl rfl) ?_
          refine xv (x_iconst 75 d_X8_close_74 rfl) ?_
          refine xv (x_iload_n 76 d_X8_close_75 rfl rfl) ?_
          obtain ⟨r76, h76, e76, z76, y76⟩ := S_X8_refuse (E := E) (h := h) (am := am) (M := (uM M 0 5 0)) (y := 5) (z := wbe (M 1) y 0 (-1)) 
          subst z76
          subst y76
          refine xv (x_inv1 79 (as := [Value.int (zi 5), Value.int (zi (wbe (M 1) y 0 (-1)))]) d_X8_close_76 rfl c_8_90 rfl (Nat.le_of_ble_eq_true rfl) (Nat.le_of_ble_eq_true rfl) m_o (Nat.le_of_ble_eq_true rfl) (Nat.le_of_ble_eq_true rfl) rfl e76) ?_
          show Xv E q_m_X8_close 79 [Value.ref am, Value.int (zi y), Value.int (zi (wbe (M 1) y 0 (-1)))] [Value.int (zi 0)] (q_mw h am (uM (uM (uM (uM M 0 5 0) 0 5 1) 0 6 5) 0 7 (wbe (M 1) y 0 (-1)))) Q
          refine xv_r (x_ireturn d_X8_close_79 rfl rfl) ?_
          have er : mClo (M 1) y = (5, (wbe (M 1) y 0 (-1))) := by unfold mClo; repeat (first | rw [if_pos (by omega)] | rw [if_neg (by omega)])
          refine hQ _ _ ?_
          unfold mMut
          rw [er]
          exact ⟨rfl, rfl⟩
      · refine xv (x_aload_n 55 d_X8_close_54 rfl rfl) ?_
        refine xv (x_iconst 56 d_X8_close_55 rfl) ?_
        refine xv (x_iload_n 57 d_X8_close_56 rfl rfl) ?_
        obtain ⟨r57, h57, e57, z57, y57⟩ := S_X8_refuse (E := E) (h := h) (am := am) (M := (uM M 0 5 0)) (y := 4) (z := y) 
        subst z57
        subst y57
        refine xv (x_inv1 60 (as := [Value.int (zi 4), Value.int (zi y)]) d_X8_close_57 rfl c_8_90 rfl (Nat.le_of_ble_eq_true rfl) (Nat.le_of_ble_eq_true rfl) m_o (Nat.le_of_ble_eq_true rfl) (Nat.le_of_ble_eq_true rfl) rfl e57) ?_
        show Xv E q_m_X8_close 60 [Value.ref am, Value.int (zi y), Value.null] [Value.int (zi 0)] (q_mw h am (uM (uM (uM (uM M 0 5 0) 0 5 1) 0 6 4) 0 7 y)) Q
        refine xv_r (x_ireturn d_X8_close_60 rfl rfl) ?_
        have er : mClo (M 1) y = (4, y) := by unfold mClo; repeat (first | rw [if_pos (by omega)] | rw [if_neg (by omega)])
        refine hQ _ _ ?_
        unfold mMut
        rw [er]
        exact ⟨rfl, rfl⟩
    · refine xv (x_aload_n 34 d_X8_close_33 rfl rfl) ?_
      refine xv (x_bipush 36 d_X8_close_34 rfl rfl) ?_
      refine xv (x_iconst 37 d_X8_close_36 rfl) ?_
      obtain ⟨r37, h37, e37, z37, y37⟩ := S_X8_refuse (E := E) (h := h) (am := am) (M := (uM M 0 5 0)) (y := 13) (z := 0) 
      subst z37
      subst y37
      refine xv (x_inv1 40 (as := [Value.int (zi 13), Value.int (zi 0)]) d_X8_close_37 rfl c_8_90 rfl (Nat.le_of_ble_eq_true rfl) (Nat.le_of_ble_eq_true rfl) m_o (Nat.le_of_ble_eq_true rfl) (Nat.le_of_ble_eq_true rfl) rfl e37) ?_
      show Xv E q_m_X8_close 40 [Value.ref am, Value.int (zi y), Value.null] [Value.int (zi 0)] (q_mw h am (uM (uM (uM (uM M 0 5 0) 0 5 1) 0 6 13) 0 7 0)) Q
      refine xv_r (x_ireturn d_X8_close_40 rfl rfl) ?_
      have er : mClo (M 1) y = (13, 0) := by unfold mClo; repeat (first | rw [if_pos (by omega)] | rw [if_neg (by omega)])
      refine hQ _ _ ?_
      unfold mMut
      rw [er]
      exact ⟨rfl, rfl⟩
  · replace k10 := bI_0.mp k10
    refine xv (x_aload_n 14 d_X8_close_13 rfl rfl) ?_
    refine xv (x_iconst 15 d_X8_close_14 rfl) ?_
    refine xv (x_iconst 16 d_X8_close_15 rfl) ?_
    obtain ⟨r16, h16, e16, z16, y16⟩ := S_X8_refuse (E := E) (h := h) (am := am) (M := (uM M 0 5 0)) (y := 1) (z := 0) 
    subst z16
    subst y16
    refine xv (x_inv1 19 (as := [Value.int (zi 1), Value.int (zi 0)]) d_X8_close_16 rfl c_8_90 rfl (Nat.le_of_ble_eq_true rfl) (Nat.le_of_ble_eq_true rfl) m_o (Nat.le_of_ble_eq_true rfl) (Nat.le_of_ble_eq_true rfl) rfl e16) ?_
    show Xv E q_m_X8_close 19 [Value.ref am, Value.int (zi y), Value.null] [Value.int (zi 0)] (q_mw h am (uM (uM (uM (uM M 0 5 0) 0 5 1) 0 6 1) 0 7 0)) Q
    refine xv_r (x_ireturn d_X8_close_19 rfl rfl) ?_
    have er : mClo (M 1) y = (1, 0) := by unfold mClo; repeat (first | rw [if_pos (by omega)] | rw [if_neg (by omega)])
    refine hQ _ _ ?_
    unfold mMut
    rw [er]
    exact ⟨rfl, rfl⟩
theorem S_X8_open (hR : Rg (M 1)) (hT : 0 ≤ M 1 2) (hc : 0 ≤ M 0 4 ∧ M 0 4 ≤ 8) {y : Int} (y0 : -2147483648 ≤ y) (y1 : y < 2147483648) : ∃ r_ h', q_cl E q_m_X8_open [Value.ref am, Value.int (zi y)] (q_mw h am M) = some (r_, h') ∧ (r_ = .inl (some (.int (zi (mMut M (mOpn (M 1) y) (ccl (u1 (M 1) (56 + y) 0)) (rOpn (M 1) y)).1))) ∧ h' = q_mw h am (mMut M (mOpn (M 1) y) (ccl (u1 (M 1) (56 + y) 0)) (rOpn (M 1) y)).2) := by
  suffices K : ∀ Q : q_R → q_H → Prop, (∀ r_ h', (r_ = .inl (some (.int (zi (mMut M (mOpn (M 1) y) (ccl (u1 (M 1) (56 + y) 0)) (rOpn (M 1) y)).1))) ∧ h' = q_mw h am (mMut M (mOpn (M 1) y) (ccl (u1 (M 1) (56 + y) 0)) (rOpn (M 1) y)).2) → Q r_ h') → Xv E q_m_X8_open 0 [Value.ref am, Value.int (zi y)] [] (q_mw h am M) Q from K _ fun _ _ p => p
  intro Q hQ
  have hR0 := hR
  obtain ⟨hr, g0, g1, g3, g4, gc, g5, g6, g7, gk, gl, gr, go⟩ := hR0
  refine xv (x_aload_n 1 d_X8_open_0 rfl rfl) ?_
  refine xv (x_iconst 2 d_X8_open_1 rfl) ?_
  refine xv (x_putfield 5 d_X8_open_2 rfl f_8_49 (Nat.le_of_ble_eq_true rfl) m_pf5 rfl rfl (fun e => absurd e (by decide))) ?_
  show Xv E q_m_X8_open 5 [Value.ref am, Value.int (zi y)] [] (q_mw h am (uM M 0 5 0)) Q
  refine xv (x_aload_n 6 d_X8_open_5 rfl rfl) ?_
  refine xv (x_iload_n 7 d_X8_open_6 rfl rfl) ?_
  refine xv (x_inv1 10 (as := [Value.int (zi y)]) d_X8_open_7 rfl c_8_86 rfl (Nat.le_of_ble_eq_true rfl) (Nat.le_of_ble_eq_true rfl) m_o (Nat.le_of_ble_eq_true rfl) (Nat.le_of_ble_eq_true rfl) rfl (S_X8_isCell (E := E) (h := h) (am := am) (M := (uM M 0 5 0)) hR (by first | omega | (rw [show (uM M 0 5 0) 1 = (M 1) from rfl]; omega)) (by first | omega | (rw [show (uM M 0 5 0) 1 = (M 1) from rfl]; omega)))) ?_
  show Xv E q_m_X8_open 10 [Value.ref am, Value.int (zi y)] [Value.int (zi (bI (isC (M 1) y)))] (q_mw h am (uM M 0 5 0)) Q
  refine v_if_ne 20 13 d_X8_open_10 rfl rfl (by have := bI_r (isC (M 1) y); omega) (by have := bI_r (isC (M 1) y); omega) (fun k10 => ?_) (fun k10 => ?_)
  · replace k10 := bI_n0.mp k10
    refine xv (x_aload_n 21 d_X8_open_20 rfl rfl) ?_
    refine xv (x_getfield 24 d_X8_open_21 rfl f_8_9 (Nat.le_of_ble_eq_true rfl) (Nat.le_of_ble_eq_true rfl) (q_gf_of m_o rfl)) ?_
    refine xv (x_bipush 26 d_X8_open_24 rfl rfl) ?_
    refine xv (x_iload_n 27 d_X8_open_26 rfl rfl) ?_
    refine xv (x_iadd 28 d_X8_open_27 rfl) ?_
    refine xv (x_iaload 29 d_X8_open_28 rfl ((m_g1 (by omega) (by omega)).trans (rfl : _ = some (Value.int (zi ((M 1) (56 + y))))))) ?_
    have q_1 : -1000000 ≤ (M 1) (56 + y) ∧ (M 1) (56 + y) ≤ 1000000 := hr _
    refine v_if_ne 40 32 d_X8_open_29 rfl rfl (by omega) (by omega) (fun k29 => ?_) (fun k29 => ?_)
    · refine xv (x_aload_n 41 d_X8_open_40 rfl rfl) ?_
      obtain ⟨r41, h41, e41, z41, y41⟩ := S_X8_change (E := E) (h := h) (am := am) (M := (uM M 0 5 0)) hc
      subst z41
      subst y41
      refine xv (x_inv0 44 (as := []) d_X8_open_41 rfl c_8_100 rfl (Nat.le_of_ble_eq_true rfl) (Nat.le_of_ble_eq_true rfl) m_o (Nat.le_of_ble_eq_true rfl) (Nat.le_of_ble_eq_true rfl) rfl e41) ?_
      generalize hM2 : mch (uM M 0 5 0) = M2
      have e2 : M2 1 = M 1 := by rw [← hM2]; exact mch_1
      have eM : M2 = uA M2 1 (M 1) := by rw [← e2, uA_self]
      rw [eM]
      have hR3 : Rg (u1 (M 1) (56 + y) 0) := rg_u hR (by omega) (by omega) (rgc_cl (rgc_of hR hT) k10 (by omega))
      show Xv E q_m_X8_open 44 [Value.ref am, Value.int (zi y)] [] (q_mw h am (uA M2 1 (M 1))) Q
      refine xv (x_aload_n 45 d_X8_open_44 rfl rfl) ?_
      refine xv (x_getfield 48 d_X8_open_45 rfl f_8_9 (Nat.le_of_ble_eq_true rfl) (Nat.le_of_ble_eq_true rfl) (q_gf_of m_o rfl)) ?_
      refine xv (x_bipush 50 d_X8_open_48 rfl rfl) ?_
      refine xv (x_iload_n 51 d_X8_open_50 rfl rfl) ?_
      refine xv (x_iadd 52 d_X8_open_51 rfl) ?_
      refine xv (x_iconst 53 d_X8_open_52 rfl) ?_
      refine xv (x_iastore 54 d_X8_open_53 rfl (m_s1 (by omega) (by omega))) ?_
      show Xv E q_m_X8_open 54 [Value.ref am, Value.int (zi y)] [] (q_mw h am (uM (uA M2 1 (M 1)) 1 (56 + y) 0)) Q
      refine xv (x_aload_n 55 d_X8_open_54 rfl rfl) ?_
      refine xv (x_inv1 58 (as := []) d_X8_open_55 rfl c_8_118 rfl (Nat.le_of_ble_eq_true rfl) (Nat.le_of_ble_eq_true rfl) m_o (Nat.le_of_ble_eq_true rfl) (Nat.le_of_ble_eq_true rfl) rfl (S_X8_closedCells (E := E) (h := h) (am := am) (M := (uM (uA M2 1 (M 1)) 1 (56 + y) 0)) hR3)) ?_
      show Xv E q_m_X8_open 58 [Value.ref am, Value.int (zi y)] [Value.int (zi (ccl (u1 (M 1) (56 + y) 0)))] (q_mw h am (uM (uA M2 1 (M 1)) 1 (56 + y) 0)) Q
      refine xv_r (x_ireturn d_X8_open_58 rfl rfl) ?_
      have er : mOpn (M 1) y = (0, 0) := by unfold mOpn; repeat (first | rw [if_pos (by omega)] | rw [if_neg (by omega)])
      refine hQ _ _ ?_
      unfold mMut
      rw [er, if_pos rfl]
      refine ⟨rfl, ?_⟩
      rw [hM2]
      unfold rOpn
      simp only [uM_uA]
    · refine xv (x_aload_n 33 d_X8_open_32 rfl rfl) ?_
      refine xv (x_bipush 35 d_X8_open_33 rfl rfl) ?_
      refine xv (x_iconst 36 d_X8_open_35 rfl) ?_
      obtain ⟨r36, h36, e36, z36, y36⟩ := S_X8_refuse (E := E) (h := h) (am := am) (M := (uM M 0 5 0)) (y := 13) (z := 0) 
      subst z36
      subst y36
      refine xv (x_inv1 39 (as := [Value.int (zi 13), Value.int (zi 0)]) d_X8_open_36 rfl c_8_90 rfl (Nat.le_of_ble_eq_true rfl) (Nat.le_of_ble_eq_true rfl) m_o (Nat.le_of_ble_eq_true rfl) (Nat.le_of_ble_eq_true rfl) rfl e36) ?_
      show Xv E q_m_X8_open 39 [Value.ref am, Value.int (zi y)] [Value.int (zi 0)] (q_mw h am (uM (uM (uM (uM M 0 5 0) 0 5 1) 0 6 13) 0 7 0)) Q
      refine xv_r (x_ireturn d_X8_open_39 rfl rfl) ?_
      have er : mOpn (M 1) y = (13, 0) := by unfold mOpn; repeat (first | rw [if_pos (by omega)] | rw [if_neg (by omega)])
      refine hQ _ _ ?_
      unfold mMut
      rw [er]
      exact ⟨rfl, rfl⟩
  · replace k10 := bI_0.mp k10
    refine xv (x_aload_n 14 d_X8_open_13 rfl rfl) ?_
    refine xv (x_iconst 15 d_X8_open_14 rfl) ?_
    refine xv (x_iconst 16 d_X8_open_15 rfl) ?_
    obtain ⟨r16, h16, e16, z16, y16⟩ := S_X8_refuse (E := E) (h := h) (am := am) (M := (uM M 0 5 0)) (y := 1) (z := 0) 
    subst z16
    subst y16
    refine xv (x_inv1 19 (as := [Value.int (zi 1), Value.int (zi 0)]) d_X8_open_16 rfl c_8_90 rfl (Nat.le_of_ble_eq_true rfl) (Nat.le_of_ble_eq_true rfl) m_o (Nat.le_of_ble_eq_true rfl) (Nat.le_of_ble_eq_true rfl) rfl e16) ?_
    show Xv E q_m_X8_open 19 [Value.ref am, Value.int (zi y)] [Value.int (zi 0)] (q_mw h am (uM (uM (uM (uM M 0 5 0) 0 5 1) 0 6 1) 0 7 0)) Q
    refine xv_r (x_ireturn d_X8_open_19 rfl rfl) ?_
    have er : mOpn (M 1) y = (1, 0) := by unfold mOpn; repeat (first | rw [if_pos (by omega)] | rw [if_neg (by omega)])
    refine hQ _ _ ?_
    unfold mMut
    rw [er]
    exact ⟨rfl, rfl⟩
theorem S_X8_assign (hR : Rg (M 1)) (hT : 0 ≤ M 1 2) (hc : 0 ≤ M 0 4 ∧ M 0 4 ≤ 8) {y z : Int} (y0 : -2147483648 ≤ y) (y1 : y < 2147483648) (z0 : -2147483648 ≤ z) (z1 : z < 2147483648) : ∃ r_ h', q_cl E q_m_X8_assign [Value.ref am, Value.int (zi y), Value.int (zi z)] (q_mw h am M) = some (r_, h') ∧ (r_ = .inl (some (.int (zi (mMut M (mAsg (M 1) y z) (ob (rAsg (M 1) y z) z 1) (rAsg (M 1) y z)).1))) ∧ h' = q_mw h am (mMut M (mAsg (M 1) y z) (ob (rAsg (M 1) y z) z 1) (rAsg (M 1) y z)).2) := by
  suffices K : ∀ Q : q_R → q_H → Prop, (∀ r_ h', (r_ = .inl (some (.int (zi (mMut M (mAsg (M 1) y z) (ob (rAsg (M 1) y z) z 1) (rAsg (M 1) y z)).1))) ∧ h' = q_mw h am (mMut M (mAsg (M 1) y z) (ob (rAsg (M 1) y z) z 1) (rAsg (M 1) y z)).2) → Q r_ h') → Xv E q_m_X8_assign 0 [Value.ref am, Value.int (zi y), Value.int (zi z)] [] (q_mw h am M) Q from K _ fun _ _ p => p
  intro Q hQ
  have hR0 := hR
  obtain ⟨hr, g0, g1, g3, g4, gc, g5, g6, g7, gk, gl, gr, go⟩ := hR0
  refine xv (x_aload_n 1 d_X8_assign_0 rfl rfl) ?_
  refine xv (x_iconst 2 d_X8_assign_1 rfl) ?_
  refine xv (x_putfield 5 d_X8_assign_2 rfl f_8_49 (Nat.le_of_ble_eq_true rfl) m_pf5 rfl rfl (fun e => absurd e (by decide))) ?_
  show Xv E q_m_X8_assign 5 [Value.ref am, Value.int (zi y), Value.int (zi z)] [] (q_mw h am (uM M 0 5 0)) Q
  refine xv (x_aload_n 6 d_X8_assign_5 rfl rfl) ?_
  refine xv (x_iload_n 7 d_X8_assign_6 rfl rfl) ?_
  refine xv (x_inv1 10 (as := [Value.int (zi y)]) d_X8_assign_7 rfl c_8_103 rfl (Nat.le_of_ble_eq_true rfl) (Nat.le_of_ble_eq_true rfl) m_o (Nat.le_of_ble_eq_true rfl) (Nat.le_of_ble_eq_true rfl) rfl (S_X8_isRobot (E := E) (h := h) (am := am) (M := (uM M 0 5 0)) hR (by first | omega | (rw [show (uM M 0 5 0) 1 = (M 1) from rfl]; omega)) (by first | omega | (rw [show (uM M 0 5 0) 1 = (M 1) from rfl]; omega)))) ?_
  show Xv E q_m_X8_assign 10 [Value.ref am, Value.int (zi y), Value.int (zi z)] [Value.int (zi (bI (isR (M 1) y)))] (q_mw h am (uM M 0 5 0)) Q
  refine v_if_eq 21 13 d_X8_assign_10 rfl rfl (by have := bI_r (isR (M 1) y); omega) (by have := bI_r (isR (M 1) y); omega) (fun k10 => ?_) (fun k10 => ?_)
  · replace k10 := bI_0.mp k10
    refine xv (x_aload_n 22 d_X8_assign_21 rfl rfl) ?_
    refine xv (x_iconst 23 d_X8_assign_22 rfl) ?_
    refine xv (x_iconst 24 d_X8_assign_23 rfl) ?_
    obtain ⟨r24, h24, e24, z24, y24⟩ := S_X8_refuse (E := E) (h := h) (am := am) (M := (uM M 0 5 0)) (y := 1) (z := 0) 
    subst z24
    subst y24
    refine xv (x_inv1 27 (as := [Value.int (zi 1), Value.int (zi 0)]) d_X8_assign_24 rfl c_8_90 rfl (Nat.le_of_ble_eq_true rfl) (Nat.le_of_ble_eq_true rfl) m_o (Nat.le_of_ble_eq_true rfl) (Nat.le_of_ble_eq_true rfl) rfl e24) ?_
    show Xv E q_m_X8_assign 27 [Value.ref am, Value.int (zi y), Value.int (zi z)] [Value.int (zi 0)] (q_mw h am (uM (uM (uM (uM M 0 5 0) 0 5 1) 0 6 1) 0 7 0)) Q
    refine xv_r (x_ireturn d_X8_assign_27 rfl rfl) ?_
    have er : mAsg (M 1) y z = (1, 0) := by unfold mAsg; repeat (first | rw [if_pos (by omega)] | rw [if_neg (by omega)])
    refine hQ _ _ ?_
    unfold mMut
    rw [er]
    exact ⟨rfl, rfl⟩
  · replace k10 := bI_n0.mp k10
    have gq := gr y k10.1 k10.2
    refine xv (x_aload_n 14 d_X8_assign_13 rfl rfl) ?_
    refine xv (x_iload_n 15 d_X8_assign_14 rfl rfl) ?_
    refine xv (x_inv1 18 (as := [Value.int (zi z)]) d_X8_assign_15 rfl c_8_112 rfl (Nat.le_of_ble_eq_true rfl) (Nat.le_of_ble_eq_true rfl) m_o (Nat.le_of_ble_eq_true rfl) (Nat.le_of_ble_eq_true rfl) rfl (S_X8_isOrder (E := E) (h := h) (am := am) (M := (uM M 0 5 0)) hR (by first | omega | (rw [show (uM M 0 5 0) 1 = (M 1) from rfl]; omega)) (by first | omega | (rw [show (uM M 0 5 0) 1 = (M 1) from rfl]; omega)))) ?_
    show Xv E q_m_X8_assign 18 [Value.ref am, Value.int (zi y), Value.int (zi z)] [Value.int (zi (bI (isO (M 1) z)))] (q_mw h am (uM M 0 5 0)) Q
    refine v_if_ne 28 21 d_X8_assign_18 rfl rfl (by have := bI_r (isO (M 1) z); omega) (by have := bI_r (isO (M 1) z); omega) (fun k18 => ?_) (fun k18 => ?_)
    · replace k18 := bI_n0.mp k18
      refine xv (x_aload_n 29 d_X8_assign_28 rfl rfl) ?_
      refine xv (x_iload_n 30 d_X8_assign_29 rfl rfl) ?_
      refine xv (x_iconst 31 d_X8_assign_30 rfl) ?_
      refine xv (x_inv1 34 (as := [Value.int (zi y), Value.int (zi 2)]) d_X8_assign_31 rfl c_8_79 rfl (Nat.le_of_ble_eq_true rfl) (Nat.le_of_ble_eq_true rfl) m_o (Nat.le_of_ble_eq_true rfl) (Nat.le_of_ble_eq_true rfl) rfl (S_X8_of (E := E) (h := h) (am := am) (M := (uM M 0 5 0)) hR (by first | omega | (rw [show (uM M 0 5 0) 1 = (M 1) from rfl]; omega)) (by first | omega | (rw [show (uM M 0 5 0) 1 = (M 1) from rfl]; omega)) (by first | omega | (rw [show (uM M 0 5 0) 1 = (M 1) from rfl]; omega)) (by first | omega | (rw [show (uM M 0 5 0) 1 = (M 1) from rfl]; omega)))) ?_
      have q_1 : -1000000 ≤ rb (M 1) y 2 ∧ rb (M 1) y 2 ≤ 1000000 := hr _
      show Xv E q_m_X8_assign 34 [Value.ref am, Value.int (zi y), Value.int (zi z)] [Value.int (zi (rb (M 1) y 2))] (q_mw h am (uM M 0 5 0)) Q
      refine v_if_lt 50 37 d_X8_assign_34 rfl rfl (by omega) (by omega) (fun k34 => ?_) (fun k34 => ?_)
      · refine xv (x_aload_n 51 d_X8_assign_50 rfl rfl) ?_
        refine xv (x_iload_n 52 d_X8_assign_51 rfl rfl) ?_
        refine xv (x_inv1 55 (as := [Value.int (zi z)]) d_X8_assign_52 rfl c_8_115 rfl (Nat.le_of_ble_eq_true rfl) (Nat.le_of_ble_eq_true rfl) m_o (Nat.le_of_ble_eq_true rfl) (Nat.le_of_ble_eq_true rfl) rfl (S_X8_stateOf (E := E) (h := h) (am := am) (M := (uM M 0 5 0)) hR (by first | omega | (rw [show (uM M 0 5 0) 1 = (M 1) from rfl]; omega)))) ?_
        have q_2 := @sto_r (M 1) z
        show Xv E q_m_X8_assign 55 [Value.ref am, Value.int (zi y), Value.int (zi z)] [Value.int (zi (sto (M 1) z))] (q_mw h am (uM M 0 5 0)) Q
        refine v_if_eq 70 58 d_X8_assign_55 rfl rfl (by omega) (by omega) (fun k55 => ?_) (fun k55 => ?_)
        · refine xv (x_aload_n 71 d_X8_assign_70 rfl rfl) ?_
          obtain ⟨r71, h71, e71, z71, y71⟩ := S_X8_change (E := E) (h := h) (am := am) (M := (uM M 0 5 0)) hc
          subst z71
          subst y71
          refine xv (x_inv0 74 (as := []) d_X8_assign_71 rfl c_8_100 rfl (Nat.le_of_ble_eq_true rfl) (Nat.le_of_ble_eq_true rfl) m_o (Nat.le_of_ble_eq_true rfl) (Nat.le_of_ble_eq_true rfl) rfl e71) ?_
          generalize hM2 : mch (uM M 0 5 0) = M2
          have e2 : M2 1 = M 1 := by rw [← hM2]; exact mch_1
          have eM : M2 = uA M2 1 (M 1) := by rw [← e2, uA_self]
          rw [eM]
          have hR4 : Rg (u1 (M 1) (104 + 36 * y + 2) z) := rg_has hR hT (by omega) (by omega)
          have hR3 : Rg (u1 (u1 (M 1) (104 + 36 * y + 2) z) (320 + 8 * z + 3) y) := rg_by hR4 (by rw [u1_ne (by omega)]; exact hT) (by refine ⟨by omega, ?_⟩; rw [u1_ne (by omega)]; omega) (by rw [u1_ne (by omega)]; omega)
          show Xv E q_m_X8_assign 74 [Value.ref am, Value.int (zi y), Value.int (zi z)] [] (q_mw h am (uA M2 1 (M 1))) Q
          refine xv (x_aload_n 75 d_X8_assign_74 rfl rfl) ?_
          refine xv (x_getfield 78 d_X8_assign_75 rfl f_8_9 (Nat.le_of_ble_eq_true rfl) (Nat.le_of_ble_eq_true rfl) (q_gf_of m_o rfl)) ?_
          refine xv (x_iload_n 79 d_X8_assign_78 rfl rfl) ?_
          refine xv (x_ins1 82 (as := [Value.int (zi y)]) d_X8_assign_79 rfl c_8_75 rfl (Nat.le_of_ble_eq_true rfl) (Nat.le_of_ble_eq_true rfl) (Nat.le_of_ble_eq_true rfl) rfl (S_X8_at (E := E) (h := h) (am := am) (M := (uA M2 1 (M 1))))) ?_
          show Xv E q_m_X8_assign 82 [Value.ref am, Value.int (zi y), Value.int (zi z)] [Value.int (zi (104 + 36 * y)), Value.ref (am + 1)] (q_mw h am (uA M2 1 (M 1))) Q
          refine xv (x_iconst 83 d_X8_assign_82 rfl) ?_
          refine xv (x_iadd 84 d_X8_assign_83 rfl) ?_
          refine xv (x_iload_n 85 d_X8_assign_84 rfl rfl) ?_
          refine xv (x_iastore 86 d_X8_assign_85 rfl (m_s1 (by omega) (by omega))) ?_
          show Xv E q_m_X8_assign 86 [Value.ref am, Value.int (zi y), Value.int (zi z)] [] (q_mw h am (uM (uA M2 1 (M 1)) 1 ((104 + 36 * y) + 2) z)) Q
          refine xv (x_aload_n 87 d_X8_assign_86 rfl rfl) ?_
          refine xv (x_getfield 90 d_X8_assign_87 rfl f_8_9 (Nat.le_of_ble_eq_true rfl) (Nat.le_of_ble_eq_true rfl) (q_gf_of m_o rfl)) ?_
          refine xv (x_iload_n 91 d_X8_assign_90 rfl rfl) ?_
          refine xv (x_ins1 94 (as := [Value.int (zi z)]) d_X8_assign_91 rfl c_8_106 rfl (Nat.le_of_ble_eq_true rfl) (Nat.le_of_ble_eq_true rfl) (Nat.le_of_ble_eq_true rfl) rfl (S_X8_order (E := E) (h := h) (am := am) (M := (uM (uA M2 1 (M 1)) 1 ((104 + 36 * y) + 2) z)))) ?_
          show Xv E q_m_X8_assign 94 [Value.ref am, Value.int (zi y), Value.int (zi z)] [Value.int (zi (320 + 8 * z)), Value.ref (am + 1)] (q_mw h am (uM (uA M2 1 (M 1)) 1 ((104 + 36 * y) + 2) z)) Q
          refine xv (x_iconst 95 d_X8_assign_94 rfl) ?_
          refine xv (x_iadd 96 d_X8_assign_95 rfl) ?_
          refine xv (x_iload_n 97 d_X8_assign_96 rfl rfl) ?_
          refine xv (x_iastore 98 d_X8_assign_97 rfl (m_s1 (by omega) (by omega))) ?_
          show Xv E q_m_X8_assign 98 [Value.ref am, Value.int (zi y), Value.int (zi z)] [] (q_mw h am (uM (uM (uA M2 1 (M 1)) 1 ((104 + 36 * y) + 2) z) 1 ((320 + 8 * z) + 3) y)) Q
          refine xv (x_aload_n 99 d_X8_assign_98 rfl rfl) ?_
          refine xv (x_iload_n 100 d_X8_assign_99 rfl rfl) ?_
          refine xv (x_iconst 101 d_X8_assign_100 rfl) ?_
          refine xv (x_inv1 104 (as := [Value.int (zi z), Value.int (zi 1)]) d_X8_assign_101 rfl c_8_109 rfl (Nat.le_of_ble_eq_true rfl) (Nat.le_of_ble_eq_true rfl) m_o (Nat.le_of_ble_eq_true rfl) (Nat.le_of_ble_eq_true rfl) rfl (S_X8_get (E := E) (h := h) (am := am) (M := (uM (uM (uA M2 1 (M 1)) 1 ((104 + 36 * y) + 2) z) 1 ((320 + 8 * z) + 3) y)) hR3 (by first | omega | (rw [show (uM (uM (uA M2 1 (M 1)) 1 ((104 + 36 * y) + 2) z) 1 ((320 + 8 * z) + 3) y) 1 = (u1 (u1 (M 1) ((104 + 36 * y) + 2) z) ((320 + 8 * z) + 3) y) from rfl]; omega)) (by first | omega | (rw [show (uM (uM (uA M2 1 (M 1)) 1 ((104 + 36 * y) + 2) z) 1 ((320 + 8 * z) + 3) y) 1 = (u1 (u1 (M 1) ((104 + 36 * y) + 2) z) ((320 + 8 * z) + 3) y) from rfl]; omega)) (by first | omega | (rw [show (uM (uM (uA M2 1 (M 1)) 1 ((104 + 36 * y) + 2) z) 1 ((320 + 8 * z) + 3) y) 1 = (u1 (u1 (M 1) ((104 + 36 * y) + 2) z) ((320 + 8 * z) + 3) y) from rfl]; omega)) (by first | omega | (rw [show (uM (uM (uA M2 1 (M 1)) 1 ((104 + 36 * y) + 2) z) 1 ((320 + 8 * z) + 3) y) 1 = (u1 (u1 (M 1) ((104 + 36 * y) + 2) z) ((320 + 8 * z) + 3) y) from rfl]; omega)))) ?_
          show Xv E q_m_X8_assign 104 [Value.ref am, Value.int (zi y), Value.int (zi z)] [Value.int (zi (ob (u1 (u1 (M 1) ((104 + 36 * y) + 2) z) ((320 + 8 * z) + 3) y) z 1))] (q_mw h am (uM (uM (uA M2 1 (M 1)) 1 ((104 + 36 * y) + 2) z) 1 ((320 + 8 * z) + 3) y)) Q
          refine xv_r (x_ireturn d_X8_assign_104 rfl rfl) ?_
          have er : mAsg (M 1) y z = (0, 0) := by unfold mAsg; repeat (first | rw [if_pos (by omega)] | rw [if_neg (by omega)])
          refine hQ _ _ ?_
          unfold mMut
          rw [er, if_pos rfl]
          refine ⟨rfl, ?_⟩
          rw [hM2]
          unfold rAsg
          simp only [uM_uA]
        · refine xv (x_aload_n 59 d_X8_assign_58 rfl rfl) ?_
          refine xv (x_bipush 61 d_X8_assign_59 rfl rfl) ?_
          refine xv (x_aload_n 62 d_X8_assign_61 rfl rfl) ?_
          refine xv (x_iload_n 63 d_X8_assign_62 rfl rfl) ?_
          refine xv (x_inv1 66 (as := [Value.int (zi z)]) d_X8_assign_63 rfl c_8_115 rfl (Nat.le_of_ble_eq_true rfl) (Nat.le_of_ble_eq_true rfl) m_o (Nat.le_of_ble_eq_true rfl) (Nat.le_of_ble_eq_true rfl) rfl (S_X8_stateOf (E := E) (h := h) (am := am) (M := (uM M 0 5 0)) hR (by first | omega | (rw [show (uM M 0 5 0) 1 = (M 1) from rfl]; omega)))) ?_
          have q_4 := @sto_r (M 1) z
          show Xv E q_m_X8_assign 66 [Value.ref am, Value.int (zi y), Value.int (zi z)] [Value.int (zi (sto (M 1) z)), Value.int (zi 8), Value.ref am] (q_mw h am (uM M 0 5 0)) Q
          obtain ⟨r66, h66, e66, z66, y66⟩ := S_X8_refuse (E := E) (h := h) (am := am) (M := (uM M 0 5 0)) (y := 8) (z := sto (M 1) z) 
          subst z66
          subst y66
          refine xv (x_inv1 69 (as := [Value.int (zi 8), Value.int (zi (sto (M 1) z))]) d_X8_assign_66 rfl c_8_90 rfl (Nat.le_of_ble_eq_true rfl) (Nat.le_of_ble_eq_true rfl) m_o (Nat.le_of_ble_eq_true rfl) (Nat.le_of_ble_eq_true rfl) rfl e66) ?_
          show Xv E q_m_X8_assign 69 [Value.ref am, Value.int (zi y), Value.int (zi z)] [Value.int (zi 0)] (q_mw h am (uM (uM (uM (uM M 0 5 0) 0 5 1) 0 6 8) 0 7 (sto (M 1) z))) Q
          refine xv_r (x_ireturn d_X8_assign_69 rfl rfl) ?_
          have er : mAsg (M 1) y z = (8, (sto (M 1) z)) := by unfold mAsg; repeat (first | rw [if_pos (by omega)] | rw [if_neg (by omega)])
          refine hQ _ _ ?_
          unfold mMut
          rw [er]
          exact ⟨rfl, rfl⟩
      · refine xv (x_aload_n 38 d_X8_assign_37 rfl rfl) ?_
        refine xv (x_bipush 40 d_X8_assign_38 rfl rfl) ?_
        refine xv (x_aload_n 41 d_X8_assign_40 rfl rfl) ?_
        refine xv (x_iload_n 42 d_X8_assign_41 rfl rfl) ?_
        refine xv (x_iconst 43 d_X8_assign_42 rfl) ?_
        refine xv (x_inv1 46 (as := [Value.int (zi y), Value.int (zi 2)]) d_X8_assign_43 rfl c_8_79 rfl (Nat.le_of_ble_eq_true rfl) (Nat.le_of_ble_eq_true rfl) m_o (Nat.le_of_ble_eq_true rfl) (Nat.le_of_ble_eq_true rfl) rfl (S_X8_of (E := E) (h := h) (am := am) (M := (uM M 0 5 0)) hR (by first | omega | (rw [show (uM M 0 5 0) 1 = (M 1) from rfl]; omega)) (by first | omega | (rw [show (uM M 0 5 0) 1 = (M 1) from rfl]; omega)) (by first | omega | (rw [show (uM M 0 5 0) 1 = (M 1) from rfl]; omega)) (by first | omega | (rw [show (uM M 0 5 0) 1 = (M 1) from rfl]; omega)))) ?_
        have q_5 : -1000000 ≤ rb (M 1) y 2 ∧ rb (M 1) y 2 ≤ 1000000 := hr _
        show Xv E q_m_X8_assign 46 [Value.ref am, Value.int (zi y), Value.int (zi z)] [Value.int (zi (rb (M 1) y 2)), Value.int (zi 7), Value.ref am] (q_mw h am (uM M 0 5 0)) Q
        obtain ⟨r46, h46, e46, z46, y46⟩ := S_X8_refuse (E := E) (h := h) (am := am) (M := (uM M 0 5 0)) (y := 7) (z := rb (M 1) y 2) 
        subst z46
        subst y46
        refine xv (x_inv1 49 (as := [Value.int (zi 7), Value.int (zi (rb (M 1) y 2))]) d_X8_assign_46 rfl c_8_90 rfl (Nat.le_of_ble_eq_true rfl) (Nat.le_of_ble_eq_true rfl) m_o (Nat.le_of_ble_eq_true rfl) (Nat.le_of_ble_eq_true rfl) rfl e46) ?_
        show Xv E q_m_X8_assign 49 [Value.ref am, Value.int (zi y), Value.int (zi z)] [Value.int (zi 0)] (q_mw h am (uM (uM (uM (uM M 0 5 0) 0 5 1) 0 6 7) 0 7 (rb (M 1) y 2))) Q
        refine xv_r (x_ireturn d_X8_assign_49 rfl rfl) ?_
        have er : mAsg (M 1) y z = (7, (rb (M 1) y 2)) := by unfold mAsg; repeat (first | rw [if_pos (by omega)] | rw [if_neg (by omega)])
        refine hQ _ _ ?_
        unfold mMut
        rw [er]
        exact ⟨rfl, rfl⟩
    · replace k18 := bI_0.mp k18
      refine xv (x_aload_n 22 d_X8_assign_21 rfl rfl) ?_
      refine xv (x_iconst 23 d_X8_assign_22 rfl) ?_
      refine xv (x_iconst 24 d_X8_assign_23 rfl) ?_
      obtain ⟨r24, h24, e24, z24, y24⟩ := S_X8_refuse (E := E) (h := h) (am := am) (M := (uM M 0 5 0)) (y := 1) (z := 0) 
      subst z24
      subst y24
      refine xv (x_inv1 27 (as := [Value.int (zi 1), Value.int (zi 0)]) d_X8_assign_24 rfl c_8_90 rfl (Nat.le_of_ble_eq_true rfl) (Nat.le_of_ble_eq_true rfl) m_o (Nat.le_of_ble_eq_true rfl) (Nat.le_of_ble_eq_true rfl) rfl e24) ?_
      show Xv E q_m_X8_assign 27 [Value.ref am, Value.int (zi y), Value.int (zi z)] [Value.int (zi 0)] (q_mw h am (uM (uM (uM (uM M 0 5 0) 0 5 1) 0 6 1) 0 7 0)) Q
      refine xv_r (x_ireturn d_X8_assign_27 rfl rfl) ?_
      have er : mAsg (M 1) y z = (1, 0) := by unfold mAsg; repeat (first | rw [if_pos (by omega)] | rw [if_neg (by omega)])
      refine hQ _ _ ?_
      unfold mMut
      rw [er]
      exact ⟨rfl, rfl⟩
end RP
