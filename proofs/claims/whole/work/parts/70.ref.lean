/-! the reference: an order (printed by program) -/
section RV
variable {E : q_E} {h : q_H} {am : Nat} {M M2 : q_Im} {l g : Int → Int} {y k : Int}
noncomputable def mOrd (l : Int → Int) (d a b c : Int) : Int × Int := if ¬ (isC l a ∧ (isC l b ∨ b = -1) ∧ (isC l c ∨ c = -1)) then (1, 0) else if ¬ inn d 0 999 ∨ (b = -1 ∧ ¬ c = -1) then (2, 0) else if l 4 = 10 then (3, 0) else if ¬ l (8 + a) = 0 then (12, a) else if ¬ b = -1 ∧ ¬ l (8 + b) = 0 then (12, b) else if ¬ b = -1 ∧ ¬ c = -1 ∧ ¬ l (8 + c) = 0 then (12, c) else (0, 0)
/-- how many lines -/
def cntO (b c : Int) : Int := if b = -1 then 1 else if c = -1 then 2 else 3
def rO1 (l : Int → Int) (d n : Int) (W : Int → Int) : Int → Int := cpI W (u1 (u1 (u1 (u1 (u1 l (320 + 8 * l 4 + 0) d) (320 + 8 * l 4 + 1) n) (320 + 8 * l 4 + 2) 0) (320 + 8 * l 4 + 3) (-1)) (320 + 8 * l 4 + 4) (-1)) 0 (320 + 8 * l 4 + 5) 3
def rOrd (l : Int → Int) (d n : Int) (W : Int → Int) : Int → Int := u1 (rO1 l d n W) 4 (rO1 l d n W 4 + 1)
def lnO (M : q_Im) (a b c : Int) : q_Im := uM (uM (uM (uM M 0 5 0) 4 0 a) 4 1 b) 4 2 c
noncomputable def mMu2 (M1 : q_Im) (rf : Int × Int) (v : Int) (l' : Int → Int) : Int × q_Im := if rf.1 = 0 then (v, uA (mch M1) 1 l') else (0, mrf M1 rf.1 rf.2)
set_option maxRecDepth 100000 in
theorem S_X8_order_ (hR : Rg (M 1)) (hc : 0 ≤ M 0 4 ∧ M 0 4 ≤ 8) {d a b c : Int} (d0 : -2147483648 ≤ d) (d1 : d < 2147483648) (a0 : -2147483648 ≤ a) (a1 : a < 2147483648) (b0 : -2147483648 ≤ b) (b1 : b < 2147483648) (c0 : -2147483648 ≤ c) (c1 : c < 2147483648) : ∃ r_ h', q_cl E q_m_X8_order_ [Value.ref am, Value.int (zi d), Value.int (zi a), Value.int (zi b), Value.int (zi c)] (q_mw h am M) = some (r_, h') ∧ (r_ = .inl (some (.int (zi (mMu2 (lnO M a b c) (mOrd (M 1) d a b c) (M 1 4) (rOrd (M 1) d (cntO b c) (u1 (u1 (u1 (M 4) 0 a) 1 b) 2 c))).1))) ∧ h' = q_mw h am (mMu2 (lnO M a b c) (mOrd (M 1) d a b c) (M 1 4) (rOrd (M 1) d (cntO b c) (u1 (u1 (u1 (M 4) 0 a) 1 b) 2 c))).2) := by
  suffices K : ∀ Q : q_R → q_H → Prop, (∀ r_ h', (r_ = .inl (some (.int (zi (mMu2 (lnO M a b c) (mOrd (M 1) d a b c) (M 1 4) (rOrd (M 1) d (cntO b c) (u1 (u1 (u1 (M 4) 0 a) 1 b) 2 c))).1))) ∧ h' = q_mw h am (mMu2 (lnO M a b c) (mOrd (M 1) d a b c) (M 1 4) (rOrd (M 1) d (cntO b c) (u1 (u1 (u1 (M 4) 0 a) 1 b) 2 c))).2) → Q r_ h') → Xv E q_m_X8_order_ 0 [Value.ref am, Value.int (zi d), Value.int (zi a), Value.int (zi b), Value.int (zi c), Value.null, Value.null] [] (q_mw h am M) Q from K _ fun _ _ p => p
  intro Q hQ
  have hR0 := hR
  obtain ⟨hr, g0, g1, g3, g4, gc, g5, g6, g7, gk, gl, gr, go⟩ := hR0
  refine xv (x_aload_n 1 d_X8_order__0 rfl rfl) ?_
  refine xv (x_iconst 2 d_X8_order__1 rfl) ?_
  refine xv (x_putfield 5 d_X8_order__2 rfl f_8_49 (Nat.le_of_ble_eq_true rfl) m_pf5 rfl rfl (fun e => absurd e (by decide))) ?_
  show Xv E q_m_X8_order_ 5 [Value.ref am, Value.int (zi d), Value.int (zi a), Value.int (zi b), Value.int (zi c), Value.null, Value.null] [] (q_mw h am (uM M 0 5 0)) Q
  refine xv (x_aload_n 6 d_X8_order__5 rfl rfl) ?_
  refine xv (x_getfield 9 d_X8_order__6 rfl f_8_19 (Nat.le_of_ble_eq_true rfl) (Nat.le_of_ble_eq_true rfl) (q_gf_of m_o rfl)) ?_
  refine xv (x_iconst 10 d_X8_order__9 rfl) ?_
  refine xv (x_iload_n 11 d_X8_order__10 rfl rfl) ?_
  refine xv (x_iastore 12 d_X8_order__11 rfl (m_s4 (by omega) (by omega))) ?_
  show Xv E q_m_X8_order_ 12 [Value.ref am, Value.int (zi d), Value.int (zi a), Value.int (zi b), Value.int (zi c), Value.null, Value.null] [] (q_mw h am (uM (uM M 0 5 0) 4 0 a)) Q
  refine xv (x_aload_n 13 d_X8_order__12 rfl rfl) ?_
  refine xv (x_getfield 16 d_X8_order__13 rfl f_8_19 (Nat.le_of_ble_eq_true rfl) (Nat.le_of_ble_eq_true rfl) (q_gf_of m_o rfl)) ?_
  refine xv (x_iconst 17 d_X8_order__16 rfl) ?_
  refine xv (x_iload_n 18 d_X8_order__17 rfl rfl) ?_
  refine xv (x_iastore 19 d_X8_order__18 rfl (m_s4 (by omega) (by omega))) ?_
  show Xv E q_m_X8_order_ 19 [Value.ref am, Value.int (zi d), Value.int (zi a), Value.int (zi b), Value.int (zi c), Value.null, Value.null] [] (q_mw h am (uM (uM (uM M 0 5 0) 4 0 a) 4 1 b)) Q
  refine xv (x_aload_n 20 d_X8_order__19 rfl rfl) ?_
  refine xv (x_getfield 23 d_X8_order__20 rfl f_8_19 (Nat.le_of_ble_eq_true rfl) (Nat.le_of_ble_eq_true rfl) (q_gf_of m_o rfl)) ?_
  refine xv (x_iconst 24 d_X8_order__23 rfl) ?_
  refine xv (x_iload 26 d_X8_order__24 rfl rfl) ?_
  refine xv (x_iastore 27 d_X8_order__26 rfl (m_s4 (by omega) (by omega))) ?_
  show Xv E q_m_X8_order_ 27 [Value.ref am, Value.int (zi d), Value.int (zi a), Value.int (zi b), Value.int (zi c), Value.null, Value.null] [] (q_mw h am (uM (uM (uM (uM M 0 5 0) 4 0 a) 4 1 b) 4 2 c)) Q
  refine xv (x_iload_n 28 d_X8_order__27 rfl rfl) ?_
  refine xv (x_iconst 29 d_X8_order__28 rfl) ?_
  refine v_icmp_ne 36 32 d_X8_order__29 rfl rfl (by omega) (by omega) (by omega) (by omega) (fun k29 => ?_) (fun k29 => ?_)
  · refine xv (x_iload 38 d_X8_order__36 rfl rfl) ?_
    refine xv (x_iconst 39 d_X8_order__38 rfl) ?_
    refine v_icmp_ne 46 42 d_X8_order__39 rfl rfl (by omega) (by omega) (by omega) (by omega) (fun k39 => ?_) (fun k39 => ?_)
    · refine xv (x_iconst 47 d_X8_order__46 rfl) ?_
      refine xv (x_istore 49 d_X8_order__47 rfl (Nat.le_of_ble_eq_true rfl)) ?_
      show Xv E q_m_X8_order_ 49 [Value.ref am, Value.int (zi d), Value.int (zi a), Value.int (zi b), Value.int (zi c), Value.int (zi 3), Value.null] [] (q_mw h am (uM (uM (uM (uM M 0 5 0) 4 0 a) 4 1 b) 4 2 c)) Q
      refine xv (x_iconst 50 d_X8_order__49 rfl) ?_
      refine xv (x_istore 52 d_X8_order__50 rfl (Nat.le_of_ble_eq_true rfl)) ?_
      show Xv E q_m_X8_order_ 52 [Value.ref am, Value.int (zi d), Value.int (zi a), Value.int (zi b), Value.int (zi c), Value.int (zi 3), Value.int (zi 0)] [] (q_mw h am (uM (uM (uM (uM M 0 5 0) 4 0 a) 4 1 b) 4 2 c)) Q
      refine xv (x_iload 54 d_X8_order__52 rfl rfl) ?_
      refine xv (x_iconst 55 d_X8_order__54 rfl) ?_
      refine v_icmp_ge 101 58 d_X8_order__55 rfl rfl (by omega) (by omega) (by omega) (by omega) (fun k55 => ?_) (fun k55 => ?_)
      · omega
      · refine xv (x_aload_n 59 d_X8_order__58 rfl rfl) ?_
        refine xv (x_aload_n 60 d_X8_order__59 rfl rfl) ?_
        refine xv (x_getfield 63 d_X8_order__60 rfl f_8_19 (Nat.le_of_ble_eq_true rfl) (Nat.le_of_ble_eq_true rfl) (q_gf_of m_o rfl)) ?_
        refine xv (x_iload 65 d_X8_order__63 rfl rfl) ?_
        refine xv (x_iaload 66 d_X8_order__65 rfl ((m_g4 (by omega) (by omega)).trans (rfl : _ = some (Value.int (zi a))))) ?_
        refine xv (x_inv1 69 (as := [Value.int (zi a)]) d_X8_order__66 rfl c_8_86 rfl (Nat.le_of_ble_eq_true rfl) (Nat.le_of_ble_eq_true rfl) m_o (Nat.le_of_ble_eq_true rfl) (Nat.le_of_ble_eq_true rfl) rfl (S_X8_isCell (E := E) (h := h) (am := am) (M := (uM (uM (uM (uM M 0 5 0) 4 0 a) 4 1 b) 4 2 c)) hR (by first | omega | (rw [show (uM (uM (uM (uM M 0 5 0) 4 0 a) 4 1 b) 4 2 c) 1 = (M 1) from rfl]; omega)) (by first | omega | (rw [show (uM (uM (uM (uM M 0 5 0) 4 0 a) 4 1 b) 4 2 c) 1 = (M 1) from rfl]; omega)))) ?_
        show Xv E q_m_X8_order_ 69 [Value.ref am, Value.int (zi d), Value.int (zi a), Value.int (zi b), Value.int (zi c), Value.int (zi 3), Value.int (zi 0)] [Value.int (zi (bI (isC (M 1) a)))] (q_mw h am (uM (uM (uM (uM M 0 5 0) 4 0 a) 4 1 b) 4 2 c)) Q
        refine v_if_ne 95 72 d_X8_order__69 rfl rfl (by have := bI_r (isC (M 1) a); omega) (by have := bI_r (isC (M 1) a); omega) (fun k69 => ?_) (fun k69 => ?_)
        · replace k69 := bI_n0.mp k69
          refine xv (x_iinc 98 d_X8_order__95 rfl rfl) ?_
          show Xv E q_m_X8_order_ 98 [Value.ref am, Value.int (zi d), Value.int (zi a), Value.int (zi b), Value.int (zi c), Value.int (zi 3), Value.int (zi (0 + 1))] [] (q_mw h am (uM (uM (uM (uM M 0 5 0) 4 0 a) 4 1 b) 4 2 c)) Q
          refine xv (x_goto 52 d_X8_order__98 rfl) ?_
          refine xv (x_iload 54 d_X8_order__52 rfl rfl) ?_
          refine xv (x_iconst 55 d_X8_order__54 rfl) ?_
          refine v_icmp_ge 101 58 d_X8_order__55 rfl rfl (by omega) (by omega) (by omega) (by omega) (fun k55 => ?_) (fun k55 => ?_)
          · omega
          · refine xv (x_aload_n 59 d_X8_order__58 rfl rfl) ?_
            refine xv (x_aload_n 60 d_X8_order__59 rfl rfl) ?_
            refine xv (x_getfield 63 d_X8_order__60 rfl f_8_19 (Nat.le_of_ble_eq_true rfl) (Nat.le_of_ble_eq_true rfl) (q_gf_of m_o rfl)) ?_
            refine xv (x_iload 65 d_X8_order__63 rfl rfl) ?_
            refine xv (x_iaload 66 d_X8_order__65 rfl ((m_g4 (by omega) (by omega)).trans (rfl : _ = some (Value.int (zi b))))) ?_
            refine xv (x_inv1 69 (as := [Value.int (zi b)]) d_X8_order__66 rfl c_8_86 rfl (Nat.le_of_ble_eq_true rfl) (Nat.le_of_ble_eq_true rfl) m_o (Nat.le_of_ble_eq_true rfl) (Nat.le_of_ble_eq_true rfl) rfl (S_X8_isCell (E := E) (h := h) (am := am) (M := (uM (uM (uM (uM M 0 5 0) 4 0 a) 4 1 b) 4 2 c)) hR (by first | omega | (rw [show (uM (uM (uM (uM M 0 5 0) 4 0 a) 4 1 b) 4 2 c) 1 = (M 1) from rfl]; omega)) (by first | omega | (rw [show (uM (uM (uM (uM M 0 5 0) 4 0 a) 4 1 b) 4 2 c) 1 = (M 1) from rfl]; omega)))) ?_
            show Xv E q_m_X8_order_ 69 [Value.ref am, Value.int (zi d), Value.int (zi a), Value.int (zi b), Value.int (zi c), Value.int (zi 3), Value.int (zi (0 + 1))] [Value.int (zi (bI (isC (M 1) b)))] (q_mw h am (uM (uM (uM (uM M 0 5 0) 4 0 a) 4 1 b) 4 2 c)) Q
            refine v_if_ne 95 72 d_X8_order__69 rfl rfl (by have := bI_r (isC (M 1) b); omega) (by have := bI_r (isC (M 1) b); omega) (fun k69 => ?_) (fun k69 => ?_)
            · replace k69 := bI_n0.mp k69
              refine xv (x_iinc 98 d_X8_order__95 rfl rfl) ?_
              show Xv E q_m_X8_order_ 98 [Value.ref am, Value.int (zi d), Value.int (zi a), Value.int (zi b), Value.int (zi c), Value.int (zi 3), Value.int (zi ((0 + 1) + 1))] [] (q_mw h am (uM (uM (uM (uM M 0 5 0) 4 0 a) 4 1 b) 4 2 c)) Q
              refine xv (x_goto 52 d_X8_order__98 rfl) ?_
              refine xv (x_iload 54 d_X8_order__52 rfl rfl) ?_
              refine xv (x_iconst 55 d_X8_order__54 rfl) ?_
              refine v_icmp_ge 101 58 d_X8_order__55 rfl rfl (by omega) (by omega) (by omega) (by omega) (fun k55 => ?_) (fun k55 => ?_)
              · omega
              · refine xv (x_aload_n 59 d_X8_order__58 rfl rfl) ?_
                refine xv (x_aload_n 60 d_X8_order__59 rfl rfl) ?_
                refine xv (x_getfield 63 d_X8_order__60 rfl f_8_19 (Nat.le_of_ble_eq_true rfl) (Nat.le_of_ble_eq_true rfl) (q_gf_of m_o rfl)) ?_
                refine xv (x_iload 65 d_X8_order__63 rfl rfl) ?_
                refine xv (x_iaload 66 d_X8_order__65 rfl ((m_g4 (by omega) (by omega)).trans (rfl : _ = some (Value.int (zi c))))) ?_
                refine xv (x_inv1 69 (as := [Value.int (zi c)]) d_X8_order__66 rfl c_8_86 rfl (Nat.le_of_ble_eq_true rfl) (Nat.le_of_ble_eq_true rfl) m_o (Nat.le_of_ble_eq_true rfl) (Nat.le_of_ble_eq_true rfl) rfl (S_X8_isCell (E := E) (h := h) (am := am) (M := (uM (uM (uM (uM M 0 5 0) 4 0 a) 4 1 b) 4 2 c)) hR (by first | omega | (rw [show (uM (uM (uM (uM M 0 5 0) 4 0 a) 4 1 b) 4 2 c) 1 = (M 1) from rfl]; omega)) (by first | omega | (rw [show (uM (uM (uM (uM M 0 5 0) 4 0 a) 4 1 b) 4 2 c) 1 = (M 1) from rfl]; omega)))) ?_
                show Xv E q_m_X8_order_ 69 [Value.ref am, Value.int (zi d), Value.int (zi a), Value.int (zi b), Value.int (zi c), Value.int (zi 3), Value.int (zi ((0 + 1) + 1))] [Value.int (zi (bI (isC (M 1) c)))] (q_mw h am (uM (uM (uM (uM M 0 5 0) 4 0 a) 4 1 b) 4 2 c)) Q
                refine v_if_ne 95 72 d_X8_order__69 rfl rfl (by have := bI_r (isC (M 1) c); omega) (by have := bI_r (isC (M 1) c); omega) (fun k69 => ?_) (fun k69 => ?_)
                · replace k69 := bI_n0.mp k69
                  refine xv (x_iinc 98 d_X8_order__95 rfl rfl) ?_
                  show Xv E q_m_X8_order_ 98 [Value.ref am, Value.int (zi d), Value.int (zi a), Value.int (zi b), Value.int (zi c), Value.int (zi 3), Value.int (zi (((0 + 1) + 1) + 1))] [] (q_mw h am (uM (uM (uM (uM M 0 5 0) 4 0 a) 4 1 b) 4 2 c)) Q
                  refine xv (x_goto 52 d_X8_order__98 rfl) ?_
                  refine xv (x_iload 54 d_X8_order__52 rfl rfl) ?_
                  refine xv (x_iconst 55 d_X8_order__54 rfl) ?_
                  refine v_icmp_ge 101 58 d_X8_order__55 rfl rfl (by omega) (by omega) (by omega) (by omega) (fun k55 => ?_) (fun k55 => ?_)
                  · refine xv (x_iload_n 102 d_X8_order__101 rfl rfl) ?_
                    refine xv (x_iconst 103 d_X8_order__102 rfl) ?_
                    refine xv (x_sipush 106 d_X8_order__103 rfl rfl) ?_
                    refine xv (x_ins1 109 (as := [Value.int (zi d), Value.int (zi 0), Value.int (zi 999)]) d_X8_order__106 rfl c_8_71 rfl (Nat.le_of_ble_eq_true rfl) (Nat.le_of_ble_eq_true rfl) (Nat.le_of_ble_eq_true rfl) rfl (S_X8_in (E := E) (h := h) (am := am) (M := (uM (uM (uM (uM M 0 5 0) 4 0 a) 4 1 b) 4 2 c)) (by first | omega | (rw [show (uM (uM (uM (uM M 0 5 0) 4 0 a) 4 1 b) 4 2 c) 1 = (M 1) from rfl]; omega)) (by first | omega | (rw [show (uM (uM (uM (uM M 0 5 0) 4 0 a) 4 1 b) 4 2 c) 1 = (M 1) from rfl]; omega)) (by first | omega | (rw [show (uM (uM (uM (uM M 0 5 0) 4 0 a) 4 1 b) 4 2 c) 1 = (M 1) from rfl]; omega)) (by first | omega | (rw [show (uM (uM (uM (uM M 0 5 0) 4 0 a) 4 1 b) 4 2 c) 1 = (M 1) from rfl]; omega)) (by first | omega | (rw [show (uM (uM (uM (uM M 0 5 0) 4 0 a) 4 1 b) 4 2 c) 1 = (M 1) from rfl]; omega)) (by first | omega | (rw [show (uM (uM (uM (uM M 0 5 0) 4 0 a) 4 1 b) 4 2 c) 1 = (M 1) from rfl]; omega)))) ?_
                    show Xv E q_m_X8_order_ 109 [Value.ref am, Value.int (zi d), Value.int (zi a), Value.int (zi b), Value.int (zi c), Value.int (zi 3), Value.int (zi (((0 + 1) + 1) + 1))] [Value.int (zi (bI (inn d 0 999)))] (q_mw h am (uM (uM (uM (uM M 0 5 0) 4 0 a) 4 1 b) 4 2 c)) Q
                    refine v_if_eq 123 112 d_X8_order__109 rfl rfl (by have := bI_r (inn d 0 999); omega) (by have := bI_r (inn d 0 999); omega) (fun k109 => ?_) (fun k109 => ?_)
                    · replace k109 := bI_0.mp k109
                      refine xv (x_aload_n 124 d_X8_order__123 rfl rfl) ?_
                      refine xv (x_iconst 125 d_X8_order__124 rfl) ?_
                      refine xv (x_iconst 126 d_X8_order__125 rfl) ?_
                      obtain ⟨r126, h126, e126, z126, y126⟩ := S_X8_refuse (E := E) (h := h) (am := am) (M := (uM (uM (uM (uM M 0 5 0) 4 0 a) 4 1 b) 4 2 c)) (y := 2) (z := 0) 
                      subst z126
                      subst y126
                      refine xv (x_inv1 129 (as := [Value.int (zi 2), Value.int (zi 0)]) d_X8_order__126 rfl c_8_90 rfl (Nat.le_of_ble_eq_true rfl) (Nat.le_of_ble_eq_true rfl) m_o (Nat.le_of_ble_eq_true rfl) (Nat.le_of_ble_eq_true rfl) rfl e126) ?_
                      show Xv E q_m_X8_order_ 129 [Value.ref am, Value.int (zi d), Value.int (zi a), Value.int (zi b), Value.int (zi c), Value.int (zi 3), Value.int (zi (((0 + 1) + 1) + 1))] [Value.int (zi 0)] (q_mw h am (uM (uM (uM (uM (uM (uM (uM M 0 5 0) 4 0 a) 4 1 b) 4 2 c) 0 5 1) 0 6 2) 0 7 0)) Q
                      refine xv_r (x_ireturn d_X8_order__129 rfl rfl) ?_
                      have er : mOrd (M 1) d a b c = (2, 0) := by first | (exfalso; omega) | (unfold mOrd; repeat (first | rw [if_pos (by omega)] | rw [if_neg (by omega)]))
                      refine hQ _ _ ?_
                      unfold mMu2
                      rw [er]
                      exact ⟨rfl, rfl⟩
                    · replace k109 := bI_n0.mp k109
                      refine xv (x_iload_n 113 d_X8_order__112 rfl rfl) ?_
                      refine xv (x_iconst 114 d_X8_order__113 rfl) ?_
                      refine v_icmp_ne 130 117 d_X8_order__114 rfl rfl (by omega) (by omega) (by omega) (by omega) (fun k114 => ?_) (fun k114 => ?_)
                      · refine xv (x_aload_n 131 d_X8_order__130 rfl rfl) ?_
                        refine xv (x_getfield 134 d_X8_order__131 rfl f_8_9 (Nat.le_of_ble_eq_true rfl) (Nat.le_of_ble_eq_true rfl) (q_gf_of m_o rfl)) ?_
                        refine xv (x_iconst 135 d_X8_order__134 rfl) ?_
                        refine xv (x_iaload 136 d_X8_order__135 rfl ((m_g1 (by omega) (by omega)).trans (rfl : _ = some (Value.int (zi ((M 1) 4)))))) ?_
                        have q_1 : -1000000 ≤ (M 1) 4 ∧ (M 1) 4 ≤ 1000000 := hr _
                        refine xv (x_bipush 138 d_X8_order__136 rfl rfl) ?_
                        refine v_icmp_ne 148 141 d_X8_order__138 rfl rfl (by omega) (by omega) (by omega) (by omega) (fun k138 => ?_) (fun k138 => ?_)
                        · refine xv (x_iconst 149 d_X8_order__148 rfl) ?_
                          refine xv (x_istore 151 d_X8_order__149 rfl (Nat.le_of_ble_eq_true rfl)) ?_
                          show Xv E q_m_X8_order_ 151 [Value.ref am, Value.int (zi d), Value.int (zi a), Value.int (zi b), Value.int (zi c), Value.int (zi 3), Value.int (zi 0)] [] (q_mw h am (uM (uM (uM (uM M 0 5 0) 4 0 a) 4 1 b) 4 2 c)) Q
                          refine xv (x_iload 153 d_X8_order__151 rfl rfl) ?_
                          refine xv (x_iload 155 d_X8_order__153 rfl rfl) ?_
                          refine v_icmp_ge 196 158 d_X8_order__155 rfl rfl (by omega) (by omega) (by omega) (by omega) (fun k155 => ?_) (fun k155 => ?_)
                          · omega
                          · refine xv (x_aload_n 159 d_X8_order__158 rfl rfl) ?_
                            refine xv (x_getfield 162 d_X8_order__159 rfl f_8_9 (Nat.le_of_ble_eq_true rfl) (Nat.le_of_ble_eq_true rfl) (q_gf_of m_o rfl)) ?_
                            refine xv (x_bipush 164 d_X8_order__162 rfl rfl) ?_
                            refine xv (x_aload_n 165 d_X8_order__164 rfl rfl) ?_
                            refine xv (x_getfield 168 d_X8_order__165 rfl f_8_19 (Nat.le_of_ble_eq_true rfl) (Nat.le_of_ble_eq_true rfl) (q_gf_of m_o rfl)) ?_
                            refine xv (x_iload 170 d_X8_order__168 rfl rfl) ?_
                            refine xv (x_iaload 171 d_X8_order__170 rfl ((m_g4 (by omega) (by omega)).trans (rfl : _ = some (Value.int (zi a))))) ?_
                            refine xv (x_iadd 172 d_X8_order__171 rfl) ?_
                            refine xv (x_iaload 173 d_X8_order__172 rfl ((m_g1 (by omega) (by omega)).trans (rfl : _ = some (Value.int (zi ((M 1) (8 + a))))))) ?_
                            have q_2 : -1000000 ≤ (M 1) (8 + a) ∧ (M 1) (8 + a) ≤ 1000000 := hr _
                            refine v_if_eq 190 176 d_X8_order__173 rfl rfl (by omega) (by omega) (fun k173 => ?_) (fun k173 => ?_)
                            · refine xv (x_iinc 193 d_X8_order__190 rfl rfl) ?_
                              show Xv E q_m_X8_order_ 193 [Value.ref am, Value.int (zi d), Value.int (zi a), Value.int (zi b), Value.int (zi c), Value.int (zi 3), Value.int (zi (0 + 1))] [] (q_mw h am (uM (uM (uM (uM M 0 5 0) 4 0 a) 4 1 b) 4 2 c)) Q
                              refine xv (x_goto 151 d_X8_order__193 rfl) ?_
                              refine xv (x_iload 153 d_X8_order__151 rfl rfl) ?_
                              refine xv (x_iload 155 d_X8_order__153 rfl rfl) ?_
                              refine v_icmp_ge 196 158 d_X8_order__155 rfl rfl (by omega) (by omega) (by omega) (by omega) (fun k155 => ?_) (fun k155 => ?_)
                              · omega
                              · refine xv (x_aload_n 159 d_X8_order__158 rfl rfl) ?_
                                refine xv (x_getfield 162 d_X8_order__159 rfl f_8_9 (Nat.le_of_ble_eq_true rfl) (Nat.le_of_ble_eq_true rfl) (q_gf_of m_o rfl)) ?_
                                refine xv (x_bipush 164 d_X8_order__162 rfl rfl) ?_
                                refine xv (x_aload_n 165 d_X8_order__164 rfl rfl) ?_
                                refine xv (x_getfield 168 d_X8_order__165 rfl f_8_19 (Nat.le_of_ble_eq_true rfl) (Nat.le_of_ble_eq_true rfl) (q_gf_of m_o rfl)) ?_
                                refine xv (x_iload 170 d_X8_order__168 rfl rfl) ?_
                                refine xv (x_iaload 171 d_X8_order__170 rfl ((m_g4 (by omega) (by omega)).trans (rfl : _ = some (Value.int (zi b))))) ?_
                                refine xv (x_iadd 172 d_X8_order__171 rfl) ?_
                                refine xv (x_iaload 173 d_X8_order__172 rfl ((m_g1 (by omega) (by omega)).trans (rfl : _ = some (Value.int (zi ((M 1) (8 + b))))))) ?_
                                have q_3 : -1000000 ≤ (M 1) (8 + b) ∧ (M 1) (8 + b) ≤ 1000000 := hr _
                                refine v_if_eq 190 176 d_X8_order__173 rfl rfl (by omega) (by omega) (fun k173 => ?_) (fun k173 => ?_)
                                · refine xv (x_iinc 193 d_X8_order__190 rfl rfl) ?_
                                  show Xv E q_m_X8_order_ 193 [Value.ref am, Value.int (zi d), Value.int (zi a), Value.int (zi b), Value.int (zi c), Value.int (zi 3), Value.int (zi ((0 + 1) + 1))] [] (q_mw h am (uM (uM (uM (uM M 0 5 0) 4 0 a) 4 1 b) 4 2 c)) Q
                                  refine xv (x_goto 151 d_X8_order__193 rfl) ?_
                                  refine xv (x_iload 153 d_X8_order__151 rfl rfl) ?_
                                  refine xv (x_iload 155 d_X8_order__153 rfl rfl) ?_
                                  refine v_icmp_ge 196 158 d_X8_order__155 rfl rfl (by omega) (by omega) (by omega) (by omega) (fun k155 => ?_) (fun k155 => ?_)
                                  · omega
                                  · refine xv (x_aload_n 159 d_X8_order__158 rfl rfl) ?_
                                    refine xv (x_getfield 162 d_X8_order__159 rfl f_8_9 (Nat.le_of_ble_eq_true rfl) (Nat.le_of_ble_eq_true rfl) (q_gf_of m_o rfl)) ?_
                                    refine xv (x_bipush 164 d_X8_order__162 rfl rfl) ?_
                                    refine xv (x_aload_n 165 d_X8_order__164 rfl rfl) ?_
                                    refine xv (x_getfield 168 d_X8_order__165 rfl f_8_19 (Nat.le_of_ble_eq_true rfl) (Nat.le_of_ble_eq_true rfl) (q_gf_of m_o rfl)) ?_
                                    refine xv (x_iload 170 d_X8_order__168 rfl rfl) ?_
                                    refine xv (x_iaload 171 d_X8_order__170 rfl ((m_g4 (by omega) (by omega)).trans (rfl : _ = some (Value.int (zi c))))) ?_
                                    refine xv (x_iadd 172 d_X8_order__171 rfl) ?_
                                    refine xv (x_iaload 173 d_X8_order__172 rfl ((m_g1 (by omega) (by omega)).trans (rfl : _ = some (Value.int (zi ((M 1) (8 + c))))))) ?_
                                    have q_4 : -1000000 ≤ (M 1) (8 + c) ∧ (M 1) (8 + c) ≤ 1000000 := hr _
                                    refine v_if_eq 190 176 d_X8_order__173 rfl rfl (by omega) (by omega) (fun k173 => ?_) (fun k173 => ?_)
                                    · refine xv (x_iinc 193 d_X8_order__190 rfl rfl) ?_
                                      show Xv E q_m_X8_order_ 193 [Value.ref am, Value.int (zi d), Value.int (zi a), Value.int (zi b), Value.int (zi c), Value.int (zi 3), Value.int (zi (((0 + 1) + 1) + 1))] [] (q_mw h am (uM (uM (uM (uM M 0 5 0) 4 0 a) 4 1 b) 4 2 c)) Q
                                      refine xv (x_goto 151 d_X8_order__193 rfl) ?_
                                      refine xv (x_iload 153 d_X8_order__151 rfl rfl) ?_
                                      refine xv (x_iload 155 d_X8_order__153 rfl rfl) ?_
                                      refine v_icmp_ge 196 158 d_X8_order__155 rfl rfl (by omega) (by omega) (by omega) (by omega) (fun k155 => ?_) (fun k155 => ?_)
                                      · refine xv (x_aload_n 197 d_X8_order__196 rfl rfl) ?_
                                        obtain ⟨r197, h197, e197, z197, y197⟩ := S_X8_change (E := E) (h := h) (am := am) (M := (uM (uM (uM (uM M 0 5 0) 4 0 a) 4 1 b) 4 2 c)) hc
                                        subst z197
                                        subst y197
                                        refine xv (x_inv0 200 (as := []) d_X8_order__197 rfl c_8_100 rfl (Nat.le_of_ble_eq_true rfl) (Nat.le_of_ble_eq_true rfl) m_o (Nat.le_of_ble_eq_true rfl) (Nat.le_of_ble_eq_true rfl) rfl e197) ?_
                                        generalize hM2 : mch (uM (uM (uM (uM M 0 5 0) 4 0 a) 4 1 b) 4 2 c) = M2
                                        have e2 : M2 1 = M 1 := by rw [← hM2]; exact mch_1
                                        have e4 : M2 4 = (u1 (u1 (u1 (M 4) 0 a) 1 b) 2 c) := by rw [← hM2]; exact mch_s (by decide) (by decide)
                                        have eM : M2 = uA (uA M2 1 (M 1)) 4 (u1 (u1 (u1 (M 4) 0 a) 1 b) 2 c) := by rw [← e2, uA_self, ← e4, uA_self]
                                        rw [eM]
                                        show Xv E q_m_X8_order_ 200 [Value.ref am, Value.int (zi d), Value.int (zi a), Value.int (zi b), Value.int (zi c), Value.int (zi 3), Value.int (zi (((0 + 1) + 1) + 1))] [] (q_mw h am (uA (uA M2 1 (M 1)) 4 (u1 (u1 (u1 (M 4) 0 a) 1 b) 2 c))) Q
                                        refine xv (x_aload_n 201 d_X8_order__200 rfl rfl) ?_
                                        refine xv (x_getfield 204 d_X8_order__201 rfl f_8_9 (Nat.le_of_ble_eq_true rfl) (Nat.le_of_ble_eq_true rfl) (q_gf_of m_o rfl)) ?_
                                        refine xv (x_iconst 205 d_X8_order__204 rfl) ?_
                                        refine xv (x_iaload 206 d_X8_order__205 rfl ((m_g1 (by omega) (by omega)).trans (rfl : _ = some (Value.int (zi ((M 1) 4)))))) ?_
                                        have q_5 : -1000000 ≤ (M 1) 4 ∧ (M 1) 4 ≤ 1000000 := hr _
                                        refine xv (x_istore 208 d_X8_order__206 rfl (Nat.le_of_ble_eq_true rfl)) ?_
                                        show Xv E q_m_X8_order_ 208 [Value.ref am, Value.int (zi d), Value.int (zi a), Value.int (zi b), Value.int (zi c), Value.int (zi 3), Value.int (zi ((M 1) 4))] [] (q_mw h am (uA (uA M2 1 (M 1)) 4 (u1 (u1 (u1 (M 4) 0 a) 1 b) 2 c))) Q
                                        refine xv (x_aload_n 209 d_X8_order__208 rfl rfl) ?_
                                        refine xv (x_getfield 212 d_X8_order__209 rfl f_8_9 (Nat.le_of_ble_eq_true rfl) (Nat.le_of_ble_eq_true rfl) (q_gf_of m_o rfl)) ?_
                                        refine xv (x_iload 214 d_X8_order__212 rfl rfl) ?_
                                        refine xv (x_ins1 217 (as := [Value.int (zi ((M 1) 4))]) d_X8_order__214 rfl c_8_106 rfl (Nat.le_of_ble_eq_true rfl) (Nat.le_of_ble_eq_true rfl) (Nat.le_of_ble_eq_true rfl) rfl (S_X8_order (E := E) (h := h) (am := am) (M := (uA (uA M2 1 (M 1)) 4 (u1 (u1 (u1 (M 4) 0 a) 1 b) 2 c))))) ?_
                                        show Xv E q_m_X8_order_ 217 [Value.ref am, Value.int (zi d), Value.int (zi a), Value.int (zi b), Value.int (zi c), Value.int (zi 3), Value.int (zi ((M 1) 4))] [Value.int (zi (320 + 8 * ((M 1) 4))), Value.ref (am + 1)] (q_mw h am (uA (uA M2 1 (M 1)) 4 (u1 (u1 (u1 (M 4) 0 a) 1 b) 2 c))) Q
                                        refine xv (x_iconst 218 d_X8_order__217 rfl) ?_
                                        refine xv (x_iadd 219 d_X8_order__218 rfl) ?_
                                        refine xv (x_iload_n 220 d_X8_order__219 rfl rfl) ?_
                                        refine xv (x_iastore 221 d_X8_order__220 rfl (m_s1 (by omega) (by omega))) ?_
                                        show Xv E q_m_X8_order_ 221 [Value.ref am, Value.int (zi d), Value.int (zi a), Value.int (zi b), Value.int (zi c), Value.int (zi 3), Value.int (zi ((M 1) 4))] [] (q_mw h am (uM (uA (uA M2 1 (M 1)) 4 (u1 (u1 (u1 (M 4) 0 a) 1 b) 2 c)) 1 ((320 + 8 * ((M 1) 4)) + 0) d)) Q
                                        refine xv (x_aload_n 222 d_X8_order__221 rfl rfl) ?_
                                        refine xv (x_getfield 225 d_X8_order__222 rfl f_8_9 (Nat.le_of_ble_eq_true rfl) (Nat.le_of_ble_eq_true rfl) (q_gf_of m_o rfl)) ?_
                                        refine xv (x_iload 227 d_X8_order__225 rfl rfl) ?_
                                        refine xv (x_ins1 230 (as := [Value.int (zi ((M 1) 4))]) d_X8_order__227 rfl c_8_106 rfl (Nat.le_of_ble_eq_true rfl) (Nat.le_of_ble_eq_true rfl) (Nat.le_of_ble_eq_true rfl) rfl (S_X8_order (E := E) (h := h) (am := am) (M := (uM (uA (uA M2 1 (M 1)) 4 (u1 (u1 (u1 (M 4) 0 a) 1 b) 2 c)) 1 ((320 + 8 * ((M 1) 4)) + 0) d)))) ?_
                                        show Xv E q_m_X8_order_ 230 [Value.ref am, Value.int (zi d), Value.int (zi a), Value.int (zi b), Value.int (zi c), Value.int (zi 3), Value.int (zi ((M 1) 4))] [Value.int (zi (320 + 8 * ((M 1) 4))), Value.ref (am + 1)] (q_mw h am (uM (uA (uA M2 1 (M 1)) 4 (u1 (u1 (u1 (M 4) 0 a) 1 b) 2 c)) 1 ((320 + 8 * ((M 1) 4)) + 0) d)) Q
                                        refine xv (x_iconst 231 d_X8_order__230 rfl) ?_
                                        refine xv (x_iadd 232 d_X8_order__231 rfl) ?_
                                        refine xv (x_iload 234 d_X8_order__232 rfl rfl) ?_
                                        refine xv (x_iastore 235 d_X8_order__234 rfl (m_s1 (by omega) (by omega))) ?_
                                        show Xv E q_m_X8_order_ 235 [Value.ref am, Value.int (zi d), Value.int (zi a), Value.int (zi b), Value.int (zi c), Value.int (zi 3), Value.int (zi ((M 1) 4))] [] (q_mw h am (uM (uM (uA (uA M2 1 (M 1)) 4 (u1 (u1 (u1 (M 4) 0 a) 1 b) 2 c)) 1 ((320 + 8 * ((M 1) 4)) + 0) d) 1 ((320 + 8 * ((M 1) 4)) + 1) 3)) Q
                                        refine xv (x_aload_n 236 d_X8_order__235 rfl rfl) ?_
                                        refine xv (x_getfield 239 d_X8_order__236 rfl f_8_9 (Nat.le_of_ble_eq_true rfl) (Nat.le_of_ble_eq_true rfl) (q_gf_of m_o rfl)) ?_
                                        refine xv (x_iload 241 d_X8_order__239 rfl rfl) ?_
                                        refine xv (x_ins1 244 (as := [Value.int (zi ((M 1) 4))]) d_X8_order__241 rfl c_8_106 rfl (Nat.le_of_ble_eq_true rfl) (Nat.le_of_ble_eq_true rfl) (Nat.le_of_ble_eq_true rfl) rfl (S_X8_order (E := E) (h := h) (am := am) (M := (uM (uM (uA (uA M2 1 (M 1)) 4 (u1 (u1 (u1 (M 4) 0 a) 1 b) 2 c)) 1 ((320 + 8 * ((M 1) 4)) + 0) d) 1 ((320 + 8 * ((M 1) 4)) + 1) 3)))) ?_
                                        show Xv E q_m_X8_order_ 244 [Value.ref am, Value.int (zi d), Value.int (zi a), Value.int (zi b), Value.int (zi c), Value.int (zi 3), Value.int (zi ((M 1) 4))] [Value.int (zi (320 + 8 * ((M 1) 4))), Value.ref (am + 1)] (q_mw h am (uM (uM (uA (uA M2 1 (M 1)) 4 (u1 (u1 (u1 (M 4) 0 a) 1 b) 2 c)) 1 ((320 + 8 * ((M 1) 4)) + 0) d) 1 ((320 + 8 * ((M 1) 4)) + 1) 3)) Q
                                        refine xv (x_iconst 245 d_X8_order__244 rfl) ?_
                                        refine xv (x_iadd 246 d_X8_order__245 rfl) ?_
                                        refine xv (x_iconst 247 d_X8_order__246 rfl) ?_
                                        refine xv (x_iastore 248 d_X8_order__247 rfl (m_s1 (by omega) (by omega))) ?_
                                        show Xv E q_m_X8_order_ 248 [Value.ref am, Value.int (zi d), Value.int (zi a), Value.int (zi b), Value.int (zi c), Value.int (zi 3), Value.int (zi ((M 1) 4))] [] (q_mw h am (uM (uM (uM (uA (uA M2 1 (M 1)) 4 (u1 (u1 (u1 (M 4) 0 a) 1 b) 2 c)) 1 ((320 + 8 * ((M 1) 4)) + 0) d) 1 ((320 + 8 * ((M 1) 4)) + 1) 3) 1 ((320 + 8 * ((M 1) 4)) + 2) 0)) Q
                                        refine xv (x_aload_n 249 d_X8_order__248 rfl rfl) ?_
                                        refine xv (x_getfield 252 d_X8_order__249 rfl f_8_9 (Nat.le_of_ble_eq_true rfl) (Nat.le_of_ble_eq_true rfl) (q_gf_of m_o rfl)) ?_
                                        refine xv (x_iload 254 d_X8_order__252 rfl rfl) ?_
                                        refine xv (x_ins1 257 (as := [Value.int (zi ((M 1) 4))]) d_X8_order__254 rfl c_8_106 rfl (Nat.le_of_ble_eq_true rfl) (Nat.le_of_ble_eq_true rfl) (Nat.le_of_ble_eq_true rfl) rfl (S_X8_order (E := E) (h := h) (am := am) (M := (uM (uM (uM (uA (uA M2 1 (M 1)) 4 (u1 (u1 (u1 (M 4) 0 a) 1 b) 2 c)) 1 ((320 + 8 * ((M 1) 4)) + 0) d) 1 ((320 + 8 * ((M 1) 4)) + 1) 3) 1 ((320 + 8 * ((M 1) 4)) + 2) 0)))) ?_
                                        show Xv E q_m_X8_order_ 257 [Value.ref am, Value.int (zi d), Value.int (zi a), Value.int (zi b), Value.int (zi c), Value.int (zi 3), Value.int (zi ((M 1) 4))] [Value.int (zi (320 + 8 * ((M 1) 4))), Value.ref (am + 1)] (q_mw h am (uM (uM (uM (uA (uA M2 1 (M 1)) 4 (u1 (u1 (u1 (M 4) 0 a) 1 b) 2 c)) 1 ((320 + 8 * ((M 1) 4)) + 0) d) 1 ((320 + 8 * ((M 1) 4)) + 1) 3) 1 ((320 + 8 * ((M 1) 4)) + 2) 0)) Q
                                        refine xv (x_iconst 258 d_X8_order__257 rfl) ?_
                                        refine xv (x_iadd 259 d_X8_order__258 rfl) ?_
                                        refine xv (x_iconst 260 d_X8_order__259 rfl) ?_
                                        refine xv (x_iastore 261 d_X8_order__260 rfl (m_s1 (by omega) (by omega))) ?_
                                        show Xv E q_m_X8_order_ 261 [Value.ref am, Value.int (zi d), Value.int (zi a), Value.int (zi b), Value.int (zi c), Value.int (zi 3), Value.int (zi ((M 1) 4))] [] (q_mw h am (uM (uM (uM (uM (uA (uA M2 1 (M 1)) 4 (u1 (u1 (u1 (M 4) 0 a) 1 b) 2 c)) 1 ((320 + 8 * ((M 1) 4)) + 0) d) 1 ((320 + 8 * ((M 1) 4)) + 1) 3) 1 ((320 + 8 * ((M 1) 4)) + 2) 0) 1 ((320 + 8 * ((M 1) 4)) + 3) (-1))) Q
                                        refine xv (x_aload_n 262 d_X8_order__261 rfl rfl) ?_
                                        refine xv (x_getfield 265 d_X8_order__262 rfl f_8_9 (Nat.le_of_ble_eq_true rfl) (Nat.le_of_ble_eq_true rfl) (q_gf_of m_o rfl)) ?_
                                        refine xv (x_iload 267 d_X8_order__265 rfl rfl) ?_
                                        refine xv (x_ins1 270 (as := [Value.int (zi ((M 1) 4))]) d_X8_order__267 rfl c_8_106 rfl (Nat.le_of_ble_eq_true rfl) (Nat.le_of_ble_eq_true rfl) (Nat.le_of_ble_eq_true rfl) rfl (S_X8_order (E := E) (h := h) (am := am) (M := (uM (uM (uM (uM (uA (uA M2 1 (M 1)) 4 (u1 (u1 (u1 (M 4) 0 a) 1 b) 2 c)) 1 ((320 + 8 * ((M 1) 4)) + 0) d) 1 ((320 + 8 * ((M 1) 4)) + 1) 3) 1 ((320 + 8 * ((M 1) 4)) + 2) 0) 1 ((320 + 8 * ((M 1) 4)) + 3) (-1))))) ?_
                                        show Xv E q_m_X8_order_ 270 [Value.ref am, Value.int (zi d), Value.int (zi a), Value.int (zi b), Value.int (zi c), Value.int (zi 3), Value.int (zi ((M 1) 4))] [Value.int (zi (320 + 8 * ((M 1) 4))), Value.ref (am + 1)] (q_mw h am (uM (uM (uM (uM (uA (uA M2 1 (M 1)) 4 (u1 (u1 (u1 (M 4) 0 a) 1 b) 2 c)) 1 ((320 + 8 * ((M 1) 4)) + 0) d) 1 ((320 + 8 * ((M 1) 4)) + 1) 3) 1 ((320 + 8 * ((M 1) 4)) + 2) 0) 1 ((320 + 8 * ((M 1) 4)) + 3) (-1))) Q
                                        refine xv (x_iconst 271 d_X8_order__270 rfl) ?_
                                        refine xv (x_iadd 272 d_X8_order__271 rfl) ?_
                                        refine xv (x_iconst 273 d_X8_order__272 rfl) ?_
                                        refine xv (x_iastore 274 d_X8_order__273 rfl (m_s1 (by omega) (by omega))) ?_
                                        show Xv E q_m_X8_order_ 274 [Value.ref am, Value.int (zi d), Value.int (zi a), Value.int (zi b), Value.int (zi c), Value.int (zi 3), Value.int (zi ((M 1) 4))] [] (q_mw h am (uM (uM (uM (uM (uM (uA (uA M2 1 (M 1)) 4 (u1 (u1 (u1 (M 4) 0 a) 1 b) 2 c)) 1 ((320 + 8 * ((M 1) 4)) + 0) d) 1 ((320 + 8 * ((M 1) 4)) + 1) 3) 1 ((320 + 8 * ((M 1) 4)) + 2) 0) 1 ((320 + 8 * ((M 1) 4)) + 3) (-1)) 1 ((320 + 8 * ((M 1) 4)) + 4) (-1))) Q
                                        refine xv (x_aload_n 275 d_X8_order__274 rfl rfl) ?_
                                        refine xv (x_getfield 278 d_X8_order__275 rfl f_8_19 (Nat.le_of_ble_eq_true rfl) (Nat.le_of_ble_eq_true rfl) (q_gf_of m_o rfl)) ?_
                                        refine xv (x_iconst 279 d_X8_order__278 rfl) ?_
                                        refine xv (x_aload_n 280 d_X8_order__279 rfl rfl) ?_
                                        refine xv (x_getfield 283 d_X8_order__280 rfl f_8_9 (Nat.le_of_ble_eq_true rfl) (Nat.le_of_ble_eq_true rfl) (q_gf_of m_o rfl)) ?_
                                        refine xv (x_iload 285 d_X8_order__283 rfl rfl) ?_
                                        refine xv (x_ins1 288 (as := [Value.int (zi ((M 1) 4))]) d_X8_order__285 rfl c_8_106 rfl (Nat.le_of_ble_eq_true rfl) (Nat.le_of_ble_eq_true rfl) (Nat.le_of_ble_eq_true rfl) rfl (S_X8_order (E := E) (h := h) (am := am) (M := (uM (uM (uM (uM (uM (uA (uA M2 1 (M 1)) 4 (u1 (u1 (u1 (M 4) 0 a) 1 b) 2 c)) 1 ((320 + 8 * ((M 1) 4)) + 0) d) 1 ((320 + 8 * ((M 1) 4)) + 1) 3) 1 ((320 + 8 * ((M 1) 4)) + 2) 0) 1 ((320 + 8 * ((M 1) 4)) + 3) (-1)) 1 ((320 + 8 * ((M 1) 4)) + 4) (-1))))) ?_
                                        show Xv E q_m_X8_order_ 288 [Value.ref am, Value.int (zi d), Value.int (zi a), Value.int (zi b), Value.int (zi c), Value.int (zi 3), Value.int (zi ((M 1) 4))] [Value.int (zi (320 + 8 * ((M 1) 4))), Value.ref (am + 1), Value.int (zi 0), Value.ref (am + 4)] (q_mw h am (uM (uM (uM (uM (uM (uA (uA M2 1 (M 1)) 4 (u1 (u1 (u1 (M 4) 0 a) 1 b) 2 c)) 1 ((320 + 8 * ((M 1) 4)) + 0) d) 1 ((320 + 8 * ((M 1) 4)) + 1) 3) 1 ((320 + 8 * ((M 1) 4)) + 2) 0) 1 ((320 + 8 * ((M 1) 4)) + 3) (-1)) 1 ((320 + 8 * ((M 1) 4)) + 4) (-1))) Q
                                        refine xv (x_iconst 289 d_X8_order__288 rfl) ?_
                                        refine xv (x_iadd 290 d_X8_order__289 rfl) ?_
                                        refine xv (x_iconst 291 d_X8_order__290 rfl) ?_
                                        refine xv (x_copy 294 d_X8_order__291 rfl rfl rfl (Nat.le_of_ble_eq_true rfl) (Nat.le_of_ble_eq_true rfl) (Nat.le_of_ble_eq_true rfl) (m_cpy 4 1 m_a4 m_a1 m_w1 (by omega) (by omega) (by omega) (by omega) (by omega) (by decide) (by decide))) ?_
                                        show Xv E q_m_X8_order_ 294 [Value.ref am, Value.int (zi d), Value.int (zi a), Value.int (zi b), Value.int (zi c), Value.int (zi 3), Value.int (zi ((M 1) 4))] [] (q_mw h am (uA (uM (uM (uM (uM (uM (uA (uA M2 1 (M 1)) 4 (u1 (u1 (u1 (M 4) 0 a) 1 b) 2 c)) 1 ((320 + 8 * ((M 1) 4)) + 0) d) 1 ((320 + 8 * ((M 1) 4)) + 1) 3) 1 ((320 + 8 * ((M 1) 4)) + 2) 0) 1 ((320 + 8 * ((M 1) 4)) + 3) (-1)) 1 ((320 + 8 * ((M 1) 4)) + 4) (-1)) 1 (cpI (u1 (u1 (u1 (M 4) 0 a) 1 b) 2 c) (u1 (u1 (u1 (u1 (u1 (M 1) ((320 + 8 * ((M 1) 4)) + 0) d) ((320 + 8 * ((M 1) 4)) + 1) 3) ((320 + 8 * ((M 1) 4)) + 2) 0) ((320 + 8 * ((M 1) 4)) + 3) (-1)) ((320 + 8 * ((M 1) 4)) + 4) (-1)) 0 ((320 + 8 * ((M 1) 4)) + 5) 3))) Q
                                        refine xv (x_aload_n 295 d_X8_order__294 rfl rfl) ?_
                                        refine xv (x_getfield 298 d_X8_order__295 rfl f_8_9 (Nat.le_of_ble_eq_true rfl) (Nat.le_of_ble_eq_true rfl) (q_gf_of m_o rfl)) ?_
                                        refine xv (x_iconst 299 d_X8_order__298 rfl) ?_
                                        refine xv (x_dup2 300 d_X8_order__299 rfl rfl rfl) ?_
                                        refine xv (x_iaload 301 d_X8_order__300 rfl ((m_g1 (by omega) (by omega)).trans (rfl : _ = some (Value.int (zi ((cpI (u1 (u1 (u1 (M 4) 0 a) 1 b) 2 c) (u1 (u1 (u1 (u1 (u1 (M 1) ((320 + 8 * ((M 1) 4)) + 0) d) ((320 + 8 * ((M 1) 4)) + 1) 3) ((320 + 8 * ((M 1) 4)) + 2) 0) ((320 + 8 * ((M 1) 4)) + 3) (-1)) ((320 + 8 * ((M 1) 4)) + 4) (-1)) 0 ((320 + 8 * ((M 1) 4)) + 5) 3) 4)))))) ?_
                                        refine xv (x_iconst 302 d_X8_order__301 rfl) ?_
                                        refine xv (x_iadd 303 d_X8_order__302 rfl) ?_
                                        refine xv (x_iastore 304 d_X8_order__303 rfl (m_s1 (by omega) (by omega))) ?_
                                        show Xv E q_m_X8_order_ 304 [Value.ref am, Value.int (zi d), Value.int (zi a), Value.int (zi b), Value.int (zi c), Value.int (zi 3), Value.int (zi ((M 1) 4))] [] (q_mw h am (uM (uA (uM (uM (uM (uM (uM (uA (uA M2 1 (M 1)) 4 (u1 (u1 (u1 (M 4) 0 a) 1 b) 2 c)) 1 ((320 + 8 * ((M 1) 4)) + 0) d) 1 ((320 + 8 * ((M 1) 4)) + 1) 3) 1 ((320 + 8 * ((M 1) 4)) + 2) 0) 1 ((320 + 8 * ((M 1) 4)) + 3) (-1)) 1 ((320 + 8 * ((M 1) 4)) + 4) (-1)) 1 (cpI (u1 (u1 (u1 (M 4) 0 a) 1 b) 2 c) (u1 (u1 (u1 (u1 (u1 (M 1) ((320 + 8 * ((M 1) 4)) + 0) d) ((320 + 8 * ((M 1) 4)) + 1) 3) ((320 + 8 * ((M 1) 4)) + 2) 0) ((320 + 8 * ((M 1) 4)) + 3) (-1)) ((320 + 8 * ((M 1) 4)) + 4) (-1)) 0 ((320 + 8 * ((M 1) 4)) + 5) 3)) 1 4 (((cpI (u1 (u1 (u1 (M 4) 0 a) 1 b) 2 c) (u1 (u1 (u1 (u1 (u1 (M 1) ((320 + 8 * ((M 1) 4)) + 0) d) ((320 + 8 * ((M 1) 4)) + 1) 3) ((320 + 8 * ((M 1) 4)) + 2) 0) ((320 + 8 * ((M 1) 4)) + 3) (-1)) ((320 + 8 * ((M 1) 4)) + 4) (-1)) 0 ((320 + 8 * ((M 1) 4)) + 5) 3) 4) + 1))) Q
                                        refine xv (x_iload 306 d_X8_order__304 rfl rfl) ?_
                                        refine xv_r (x_ireturn d_X8_order__306 rfl rfl) ?_
                                        have er : mOrd (M 1) d a b c = (0, 0) := by first | (exfalso; omega) | (unfold mOrd; repeat (first | rw [if_pos (by omega)] | rw [if_neg (by omega)]))
                                        have ec : cntO b c = 3 := by first | (exfalso; omega) | (unfold cntO; repeat (first | rw [if_pos (by omega)] | rw [if_neg (by omega)]))
                                        refine hQ _ _ ?_
                                        unfold mMu2
                                        rw [er, if_pos rfl, ec]
                                        refine ⟨rfl, ?_⟩
                                        unfold lnO
                                        rw [hM2, ← eM]
                                        simp only [uM_uA, uA_uA, uA_eq]
                                        rfl
                                      · omega
                                    · refine xv (x_aload_n 177 d_X8_order__176 rfl rfl) ?_
                                      refine xv (x_bipush 179 d_X8_order__177 rfl rfl) ?_
                                      refine xv (x_aload_n 180 d_X8_order__179 rfl rfl) ?_
                                      refine xv (x_getfield 183 d_X8_order__180 rfl f_8_19 (Nat.le_of_ble_eq_true rfl) (Nat.le_of_ble_eq_true rfl) (q_gf_of m_o rfl)) ?_
                                      refine xv (x_iload 185 d_X8_order__183 rfl rfl) ?_
                                      refine xv (x_iaload 186 d_X8_order__185 rfl ((m_g4 (by omega) (by omega)).trans (rfl : _ = some (Value.int (zi c))))) ?_
                                      obtain ⟨r186, h186, e186, z186, y186⟩ := S_X8_refuse (E := E) (h := h) (am := am) (M := (uM (uM (uM (uM M 0 5 0) 4 0 a) 4 1 b) 4 2 c)) (y := 12) (z := c) 
                                      subst z186
                                      subst y186
                                      refine xv (x_inv1 189 (as := [Value.int (zi 12), Value.int (zi c)]) d_X8_order__186 rfl c_8_90 rfl (Nat.le_of_ble_eq_true rfl) (Nat.le_of_ble_eq_true rfl) m_o (Nat.le_of_ble_eq_true rfl) (Nat.le_of_ble_eq_true rfl) rfl e186) ?_
                                      show Xv E q_m_X8_order_ 189 [Value.ref am, Value.int (zi d), Value.int (zi a), Value.int (zi b), Value.int (zi c), Value.int (zi 3), Value.int (zi ((0 + 1) + 1))] [Value.int (zi 0)] (q_mw h am (uM (uM (uM (uM (uM (uM (uM M 0 5 0) 4 0 a) 4 1 b) 4 2 c) 0 5 1) 0 6 12) 0 7 c)) Q
                                      refine xv_r (x_ireturn d_X8_order__189 rfl rfl) ?_
                                      have er : mOrd (M 1) d a b c = (12, c) := by first | (exfalso; omega) | (unfold mOrd; repeat (first | rw [if_pos (by omega)] | rw [if_neg (by omega)]))
                                      refine hQ _ _ ?_
                                      unfold mMu2
                                      rw [er]
                                      exact ⟨rfl, rfl⟩
                                · refine xv (x_aload_n 177 d_X8_order__176 rfl rfl) ?_
                                  refine xv (x_bipush 179 d_X8_order__177 rfl rfl) ?_
                                  refine xv (x_aload_n 180 d_X8_order__179 rfl rfl) ?_
                                  refine xv (x_getfield 183 d_X8_order__180 rfl f_8_19 (Nat.le_of_ble_eq_true rfl) (Nat.le_of_ble_eq_true rfl) (q_gf_of m_o rfl)) ?_
                                  refine xv (x_iload 185 d_X8_order__183 rfl rfl) ?_
                                  refine xv (x_iaload 186 d_X8_order__185 rfl ((m_g4 (by omega) (by omega)).trans (rfl : _ = some (Value.int (zi b))))) ?_
                                  obtain ⟨r186, h186, e186, z186, y186⟩ := S_X8_refuse (E := E) (h := h) (am := am) (M := (uM (uM (uM (uM M 0 5 0) 4 0 a) 4 1 b) 4 2 c)) (y := 12) (z := b) 
                                  subst z186
                                  subst y186
                                  refine xv (x_inv1 189 (as := [Value.int (zi 12), Value.int (zi b)]) d_X8_order__186 rfl c_8_90 rfl (Nat.le_of_ble_eq_true rfl) (Nat.le_of_ble_eq_true rfl) m_o (Nat.le_of_ble_eq_true rfl) (Nat.le_of_ble_eq_true rfl) rfl e186) ?_
                                  show Xv E q_m_X8_order_ 189 [Value.ref am, Value.int (zi d), Value.int (zi a), Value.int (zi b), Value.int (zi c), Value.int (zi 3), Value.int (zi (0 + 1))] [Value.int (zi 0)] (q_mw h am (uM (uM (uM (uM (uM (uM (uM M 0 5 0) 4 0 a) 4 1 b) 4 2 c) 0 5 1) 0 6 12) 0 7 b)) Q
                                  refine xv_r (x_ireturn d_X8_order__189 rfl rfl) ?_
                                  have er : mOrd (M 1) d a b c = (12, b) := by first | (exfalso; omega) | (unfold mOrd; repeat (first | rw [if_pos (by omega)] | rw [if_neg (by omega)]))
                                  refine hQ _ _ ?_
                                  unfold mMu2
                                  rw [er]
                                  exact ⟨rfl, rfl⟩
                            · refine xv (x_aload_n 177 d_X8_order__176 rfl rfl) ?_
                              refine xv (x_bipush 179 d_X8_order__177 rfl rfl) ?_
                              refine xv (x_aload_n 180 d_X8_order__179 rfl rfl) ?_
                              refine xv (x_getfield 183 d_X8_order__180 rfl f_8_19 (Nat.le_of_ble_eq_true rfl) (Nat.le_of_ble_eq_true rfl) (q_gf_of m_o rfl)) ?_
                              refine xv (x_iload 185 d_X8_order__183 rfl rfl) ?_
                              refine xv (x_iaload 186 d_X8_order__185 rfl ((m_g4 (by omega) (by omega)).trans (rfl : _ = some (Value.int (zi a))))) ?_
                              obtain ⟨r186, h186, e186, z186, y186⟩ := S_X8_refuse (E := E) (h := h) (am := am) (M := (uM (uM (uM (uM M 0 5 0) 4 0 a) 4 1 b) 4 2 c)) (y := 12) (z := a) 
                              subst z186
                              subst y186
                              refine xv (x_inv1 189 (as := [Value.int (zi 12), Value.int (zi a)]) d_X8_order__186 rfl c_8_90 rfl (Nat.le_of_ble_eq_true rfl) (Nat.le_of_ble_eq_true rfl) m_o (Nat.le_of_ble_eq_true rfl) (Nat.le_of_ble_eq_true rfl) rfl e186) ?_
                              show Xv E q_m_X8_order_ 189 [Value.ref am, Value.int (zi d), Value.int (zi a), Value.int (zi b), Value.int (zi c), Value.int (zi 3), Value.int (zi 0)] [Value.int (zi 0)] (q_mw h am (uM (uM (uM (uM (uM (uM (uM M 0 5 0) 4 0 a) 4 1 b) 4 2 c) 0 5 1) 0 6 12) 0 7 a)) Q
                              refine xv_r (x_ireturn d_X8_order__189 rfl rfl) ?_
                              have er : mOrd (M 1) d a b c = (12, a) := by first | (exfalso; omega) | (unfold mOrd; repeat (first | rw [if_pos (by omega)] | rw [if_neg (by omega)]))
                              refine hQ _ _ ?_
                              unfold mMu2
                              rw [er]
                              exact ⟨rfl, rfl⟩
                        · refine xv (x_aload_n 142 d_X8_order__141 rfl rfl) ?_
                          refine xv (x_iconst 143 d_X8_order__142 rfl) ?_
                          refine xv (x_iconst 144 d_X8_order__143 rfl) ?_
                          obtain ⟨r144, h144, e144, z144, y144⟩ := S_X8_refuse (E := E) (h := h) (am := am) (M := (uM (uM (uM (uM M 0 5 0) 4 0 a) 4 1 b) 4 2 c)) (y := 3) (z := 0) 
                          subst z144
                          subst y144
                          refine xv (x_inv1 147 (as := [Value.int (zi 3), Value.int (zi 0)]) d_X8_order__144 rfl c_8_90 rfl (Nat.le_of_ble_eq_true rfl) (Nat.le_of_ble_eq_true rfl) m_o (Nat.le_of_ble_eq_true rfl) (Nat.le_of_ble_eq_true rfl) rfl e144) ?_
                          show Xv E q_m_X8_order_ 147 [Value.ref am, Value.int (zi d), Value.int (zi a), Value.int (zi b), Value.int (zi c), Value.int (zi 3), Value.int (zi (((0 + 1) + 1) + 1))] [Value.int (zi 0)] (q_mw h am (uM (uM (uM (uM (uM (uM (uM M 0 5 0) 4 0 a) 4 1 b) 4 2 c) 0 5 1) 0 6 3) 0 7 0)) Q
                          refine xv_r (x_ireturn d_X8_order__147 rfl rfl) ?_
                          have er : mOrd (M 1) d a b c = (3, 0) := by first | (exfalso; omega) | (unfold mOrd; repeat (first | rw [if_pos (by omega)] | rw [if_neg (by omega)]))
                          refine hQ _ _ ?_
                          unfold mMu2
                          rw [er]
                          exact ⟨rfl, rfl⟩
                      · refine xv (x_iload 119 d_X8_order__117 rfl rfl) ?_
                        refine xv (x_iconst 120 d_X8_order__119 rfl) ?_
                        refine v_icmp_eq 130 123 d_X8_order__120 rfl rfl (by omega) (by omega) (by omega) (by omega) (fun k120 => ?_) (fun k120 => ?_)
                        · refine xv (x_aload_n 131 d_X8_order__130 rfl rfl) ?_
                          refine xv (x_getfield 134 d_X8_order__131 rfl f_8_9 (Nat.le_of_ble_eq_true rfl) (Nat.le_of_ble_eq_true rfl) (q_gf_of m_o rfl)) ?_
                          refine xv (x_iconst 135 d_X8_order__134 rfl) ?_
                          refine xv (x_iaload 136 d_X8_order__135 rfl ((m_g1 (by omega) (by omega)).trans (rfl : _ = some (Value.int (zi ((M 1) 4)))))) ?_
                          have q_6 : -1000000 ≤ (M 1) 4 ∧ (M 1) 4 ≤ 1000000 := hr _
                          refine xv (x_bipush 138 d_X8_order__136 rfl rfl) ?_
                          refine v_icmp_ne 148 141 d_X8_order__138 rfl rfl (by omega) (by omega) (by omega) (by omega) (fun k138 => ?_) (fun k138 => ?_)
                          · refine xv (x_iconst 149 d_X8_order__148 rfl) ?_
                            refine xv (x_istore 151 d_X8_order__149 rfl (Nat.le_of_ble_eq_true rfl)) ?_
                            show Xv E q_m_X8_order_ 151 [Value.ref am, Value.int (zi d), Value.int (zi a), Value.int (zi b), Value.int (zi c), Value.int (zi 3), Value.int (zi 0)] [] (q_mw h am (uM (uM (uM (uM M 0 5 0) 4 0 a) 4 1 b) 4 2 c)) Q
                            refine xv (x_iload 153 d_X8_order__151 rfl rfl) ?_
                            refine xv (x_iload 155 d_X8_order__153 rfl rfl) ?_
                            refine v_icmp_ge 196 158 d_X8_order__155 rfl rfl (by omega) (by omega) (by omega) (by omega) (fun k155 => ?_) (fun k155 => ?_)
                            · omega
                            · refine xv (x_aload_n 159 d_X8_order__158 rfl rfl) ?_
                              refine xv (x_getfield 162 d_X8_order__159 rfl f_8_9 (Nat.le_of_ble_eq_true rfl) (Nat.le_of_ble_eq_true rfl) (q_gf_of m_o rfl)) ?_
                              refine xv (x_bipush 164 d_X8_order__162 rfl rfl) ?_
                              refine xv (x_aload_n 165 d_X8_order__164 rfl rfl) ?_
                              refine xv (x_getfield 168 d_X8_order__165 rfl f_8_19 (Nat.le_of_ble_eq_true rfl) (Nat.le_of_ble_eq_true rfl) (q_gf_of m_o rfl)) ?_
                              refine xv (x_iload 170 d_X8_order__168 rfl rfl) ?_
                              refine xv (x_iaload 171 d_X8_order__170 rfl ((m_g4 (by omega) (by omega)).trans (rfl : _ = some (Value.int (zi a))))) ?_
                              refine xv (x_iadd 172 d_X8_order__171 rfl) ?_
                              refine xv (x_iaload 173 d_X8_order__172 rfl ((m_g1 (by omega) (by omega)).trans (rfl : _ = some (Value.int (zi ((M 1) (8 + a))))))) ?_
                              have q_7 : -1000000 ≤ (M 1) (8 + a) ∧ (M 1) (8 + a) ≤ 1000000 := hr _
                              refine v_if_eq 190 176 d_X8_order__173 rfl rfl (by omega) (by omega) (fun k173 => ?_) (fun k173 => ?_)
                              · refine xv (x_iinc 193 d_X8_order__190 rfl rfl) ?_
                                show Xv E q_m_X8_order_ 193 [Value.ref am, Value.int (zi d), Value.int (zi a), Value.int (zi b), Value.int (zi c), Value.int (zi 3), Value.int (zi (0 + 1))] [] (q_mw h am (uM (uM (uM (uM M 0 5 0) 4 0 a) 4 1 b) 4 2 c)) Q
                                refine xv (x_goto 151 d_X8_order__193 rfl) ?_
                                refine xv (x_iload 153 d_X8_order__151 rfl rfl) ?_
                                refine xv (x_iload 155 d_X8_order__153 rfl rfl) ?_
                                refine v_icmp_ge 196 158 d_X8_order__155 rfl rfl (by omega) (by omega) (by omega) (by omega) (fun k155 => ?_) (fun k155 => ?_)
                                · omega
                                · refine xv (x_aload_n 159 d_X8_order__158 rfl rfl) ?_
                                  refine xv (x_getfield 162 d_X8_order__159 rfl f_8_9 (Nat.le_of_ble_eq_true rfl) (Nat.le_of_ble_eq_true rfl) (q_gf_of m_o rfl)) ?_
                                  refine xv (x_bipush 164 d_X8_order__162 rfl rfl) ?_
                                  refine xv (x_aload_n 165 d_X8_order__164 rfl rfl) ?_
                                  refine xv (x_getfield 168 d_X8_order__165 rfl f_8_19 (Nat.le_of_ble_eq_true rfl) (Nat.le_of_ble_eq_true rfl) (q_gf_of m_o rfl)) ?_
                                  refine xv (x_iload 170 d_X8_order__168 rfl rfl) ?_
                                  refine xv (x_iaload 171 d_X8_order__170 rfl ((m_g4 (by omega) (by omega)).trans (rfl : _ = some (Value.int (zi b))))) ?_
                                  refine xv (x_iadd 172 d_X8_order__171 rfl) ?_
                                  refine xv (x_iaload 173 d_X8_order__172 rfl ((m_g1 (by omega) (by omega)).trans (rfl : _ = some (Value.int (zi ((M 1) (8 + b))))))) ?_
                                  have q_8 : -1000000 ≤ (M 1) (8 + b) ∧ (M 1) (8 + b) ≤ 1000000 := hr _
                                  refine v_if_eq 190 176 d_X8_order__173 rfl rfl (by omega) (by omega) (fun k173 => ?_) (fun k173 => ?_)
                                  · refine xv (x_iinc 193 d_X8_order__190 rfl rfl) ?_
                                    show Xv E q_m_X8_order_ 193 [Value.ref am, Value.int (zi d), Value.int (zi a), Value.int (zi b), Value.int (zi c), Value.int (zi 3), Value.int (zi ((0 + 1) + 1))] [] (q_mw h am (uM (uM (uM (uM M 0 5 0) 4 0 a) 4 1 b) 4 2 c)) Q
                                    refine xv (x_goto 151 d_X8_order__193 rfl) ?_
                                    refine xv (x_iload 153 d_X8_order__151 rfl rfl) ?_
                                    refine xv (x_iload 155 d_X8_order__153 rfl rfl) ?_
                                    refine v_icmp_ge 196 158 d_X8_order__155 rfl rfl (by omega) (by omega) (by omega) (by omega) (fun k155 => ?_) (fun k155 => ?_)
                                    · omega
                                    · refine xv (x_aload_n 159 d_X8_order__158 rfl rfl) ?_
                                      refine xv (x_getfield 162 d_X8_order__159 rfl f_8_9 (Nat.le_of_ble_eq_true rfl) (Nat.le_of_ble_eq_true rfl) (q_gf_of m_o rfl)) ?_
                                      refine xv (x_bipush 164 d_X8_order__162 rfl rfl) ?_
                                      refine xv (x_aload_n 165 d_X8_order__164 rfl rfl) ?_
                                      refine xv (x_getfield 168 d_X8_order__165 rfl f_8_19 (Nat.le_of_ble_eq_true rfl) (Nat.le_of_ble_eq_true rfl) (q_gf_of m_o rfl)) ?_
                                      refine xv (x_iload 170 d_X8_order__168 rfl rfl) ?_
                                      refine xv (x_iaload 171 d_X8_order__170 rfl ((m_g4 (by omega) (by omega)).trans (rfl : _ = some (Value.int (zi c))))) ?_
                                      refine xv (x_iadd 172 d_X8_order__171 rfl) ?_
                                      refine xv (x_iaload 173 d_X8_order__172 rfl ((m_g1 (by omega) (by omega)).trans (rfl : _ = some (Value.int (zi ((M 1) (8 + c))))))) ?_
                                      have q_9 : -1000000 ≤ (M 1) (8 + c) ∧ (M 1) (8 + c) ≤ 1000000 := hr _
                                      refine v_if_eq 190 176 d_X8_order__173 rfl rfl (by omega) (by omega) (fun k173 => ?_) (fun k173 => ?_)
                                      · refine xv (x_iinc 193 d_X8_order__190 rfl rfl) ?_
                                        show Xv E q_m_X8_order_ 193 [Value.ref am, Value.int (zi d), Value.int (zi a), Value.int (zi b), Value.int (zi c), Value.int (zi 3), Value.int (zi (((0 + 1) + 1) + 1))] [] (q_mw h am (uM (uM (uM (uM M 0 5 0) 4 0 a) 4 1 b) 4 2 c)) Q
                                        refine xv (x_goto 151 d_X8_order__193 rfl) ?_
                                        refine xv (x_iload 153 d_X8_order__151 rfl rfl) ?_
                                        refine xv (x_iload 155 d_X8_order__153 rfl rfl) ?_
                                        refine v_icmp_ge 196 158 d_X8_order__155 rfl rfl (by omega) (by omega) (by omega) (by omega) (fun k155 => ?_) (fun k155 => ?_)
                                        · refine xv (x_aload_n 197 d_X8_order__196 rfl rfl) ?_
                                          obtain ⟨r197, h197, e197, z197, y197⟩ := S_X8_change (E := E) (h := h) (am := am) (M := (uM (uM (uM (uM M 0 5 0) 4 0 a) 4 1 b) 4 2 c)) hc
                                          subst z197
                                          subst y197
                                          refine xv (x_inv0 200 (as := []) d_X8_order__197 rfl c_8_100 rfl (Nat.le_of_ble_eq_true rfl) (Nat.le_of_ble_eq_true rfl) m_o (Nat.le_of_ble_eq_true rfl) (Nat.le_of_ble_eq_true rfl) rfl e197) ?_
                                          generalize hM2 : mch (uM (uM (uM (uM M 0 5 0) 4 0 a) 4 1 b) 4 2 c) = M2
                                          have e2 : M2 1 = M 1 := by rw [← hM2]; exact mch_1
                                          have e4 : M2 4 = (u1 (u1 (u1 (M 4) 0 a) 1 b) 2 c) := by rw [← hM2]; exact mch_s (by decide) (by decide)
                                          have eM : M2 = uA (uA M2 1 (M 1)) 4 (u1 (u1 (u1 (M 4) 0 a) 1 b) 2 c) := by rw [← e2, uA_self, ← e4, uA_self]
                                          rw [eM]
                                          show Xv E q_m_X8_order_ 200 [Value.ref am, Value.int (zi d), Value.int (zi a), Value.int (zi b), Value.int (zi c), Value.int (zi 3), Value.int (zi (((0 + 1) + 1) + 1))] [] (q_mw h am (uA (uA M2 1 (M 1)) 4 (u1 (u1 (u1 (M 4) 0 a) 1 b) 2 c))) Q
                                          refine xv (x_aload_n 201 d_X8_order__200 rfl rfl) ?_
                                          refine xv (x_getfield 204 d_X8_order__201 rfl f_8_9 (Nat.le_of_ble_eq_true rfl) (Nat.le_of_ble_eq_true rfl) (q_gf_of m_o rfl)) ?_
                                          refine xv (x_iconst 205 d_X8_order__204 rfl) ?_
                                          refine xv (x_iaload 206 d_X8_order__205 rfl ((m_g1 (by omega) (by omega)).trans (rfl : _ = some (Value.int (zi ((M 1) 4)))))) ?_
                                          have q_10 : -1000000 ≤ (M 1) 4 ∧ (M 1) 4 ≤ 1000000 := hr _
                                          refine xv (x_istore 208 d_X8_order__206 rfl (Nat.le_of_ble_eq_true rfl)) ?_
                                          show Xv E q_m_X8_order_ 208 [Value.ref am, Value.int (zi d), Value.int (zi a), Value.int (zi b), Value.int (zi c), Value.int (zi 3), Value.int (zi ((M 1) 4))] [] (q_mw h am (uA (uA M2 1 (M 1)) 4 (u1 (u1 (u1 (M 4) 0 a) 1 b) 2 c))) Q
                                          refine xv (x_aload_n 209 d_X8_order__208 rfl rfl) ?_
                                          refine xv (x_getfield 212 d_X8_order__209 rfl f_8_9 (Nat.le_of_ble_eq_true rfl) (Nat.le_of_ble_eq_true rfl) (q_gf_of m_o rfl)) ?_
                                          refine xv (x_iload 214 d_X8_order__212 rfl rfl) ?_
                                          refine xv (x_ins1 217 (as := [Value.int (zi ((M 1) 4))]) d_X8_order__214 rfl c_8_106 rfl (Nat.le_of_ble_eq_true rfl) (Nat.le_of_ble_eq_true rfl) (Nat.le_of_ble_eq_true rfl) rfl (S_X8_order (E := E) (h := h) (am := am) (M := (uA (uA M2 1 (M 1)) 4 (u1 (u1 (u1 (M 4) 0 a) 1 b) 2 c))))) ?_
                                          show Xv E q_m_X8_order_ 217 [Value.ref am, Value.int (zi d), Value.int (zi a), Value.int (zi b), Value.int (zi c), Value.int (zi 3), Value.int (zi ((M 1) 4))] [Value.int (zi (320 + 8 * ((M 1) 4))), Value.ref (am + 1)] (q_mw h am (uA (uA M2 1 (M 1)) 4 (u1 (u1 (u1 (M 4) 0 a) 1 b) 2 c))) Q
                                          refine xv (x_iconst 218 d_X8_order__217 rfl) ?_
                                          refine xv (x_iadd 219 d_X8_order__218 rfl) ?_
                                          refine xv (x_iload_n 220 d_X8_order__219 rfl rfl) ?_
                                          refine xv (x_iastore 221 d_X8_order__220 rfl (m_s1 (by omega) (by omega))) ?_
                                          show Xv E q_m_X8_order_ 221 [Value.ref am, Value.int (zi d), Value.int (zi a), Value.int (zi b), Value.int (zi c), Value.int (zi 3), Value.int (zi ((M 1) 4))] [] (q_mw h am (uM (uA (uA M2 1 (M 1)) 4 (u1 (u1 (u1 (M 4) 0 a) 1 b) 2 c)) 1 ((320 + 8 * ((M 1) 4)) + 0) d)) Q
                                          refine xv (x_aload_n 222 d_X8_order__221 rfl rfl) ?_
                                          refine xv (x_getfield 225 d_X8_order__222 rfl f_8_9 (Nat.le_of_ble_eq_true rfl) (Nat.le_of_ble_eq_true rfl) (q_gf_of m_o rfl)) ?_
                                          refine xv (x_iload 227 d_X8_order__225 rfl rfl) ?_
                                          refine xv (x_ins1 230 (as := [Value.int (zi ((M 1) 4))]) d_X8_order__227 rfl c_8_106 rfl (Nat.le_of_ble_eq_true rfl) (Nat.le_of_ble_eq_true rfl) (Nat.le_of_ble_eq_true rfl) rfl (S_X8_order (E := E) (h := h) (am := am) (M := (uM (uA (uA M2 1 (M 1)) 4 (u1 (u1 (u1 (M 4) 0 a) 1 b) 2 c)) 1 ((320 + 8 * ((M 1) 4)) + 0) d)))) ?_
                                          show Xv E q_m_X8_order_ 230 [Value.ref am, Value.int (zi d), Value.int (zi a), Value.int (zi b), Value.int (zi c), Value.int (zi 3), Value.int (zi ((M 1) 4))] [Value.int (zi (320 + 8 * ((M 1) 4))), Value.ref (am + 1)] (q_mw h am (uM (uA (uA M2 1 (M 1)) 4 (u1 (u1 (u1 (M 4) 0 a) 1 b) 2 c)) 1 ((320 + 8 * ((M 1) 4)) + 0) d)) Q
                                          refine xv (x_iconst 231 d_X8_order__230 rfl) ?_
                                          refine xv (x_iadd 232 d_X8_order__231 rfl) ?_
                                          refine xv (x_iload 234 d_X8_order__232 rfl rfl) ?_
                                          refine xv (x_iastore 235 d_X8_order__234 rfl (m_s1 (by omega) (by omega))) ?_
                                          show Xv E q_m_X8_order_ 235 [Value.ref am, Value.int (zi d), Value.int (zi a), Value.int (zi b), Value.int (zi c), Value.int (zi 3), Value.int (zi ((M 1) 4))] [] (q_mw h am (uM (uM (uA (uA M2 1 (M 1)) 4 (u1 (u1 (u1 (M 4) 0 a) 1 b) 2 c)) 1 ((320 + 8 * ((M 1) 4)) + 0) d) 1 ((320 + 8 * ((M 1) 4)) + 1) 3)) Q
                                          refine xv (x_aload_n 236 d_X8_order__235 rfl rfl) ?_
                                          refine xv (x_getfield 239 d_X8_order__236 rfl f_8_9 (Nat.le_of_ble_eq_true rfl) (Nat.le_of_ble_eq_true rfl) (q_gf_of m_o rfl)) ?_
                                          refine xv (x_iload 241 d_X8_order__239 rfl rfl) ?_
                                          refine xv (x_ins1 244 (as := [Value.int (zi ((M 1) 4))]) d_X8_order__241 rfl c_8_106 rfl (Nat.le_of_ble_eq_true rfl) (Nat.le_of_ble_eq_true rfl) (Nat.le_of_ble_eq_true rfl) rfl (S_X8_order (E := E) (h := h) (am := am) (M := (uM (uM (uA (uA M2 1 (M 1)) 4 (u1 (u1 (u1 (M 4) 0 a) 1 b) 2 c)) 1 ((320 + 8 * ((M 1) 4)) + 0) d) 1 ((320 + 8 * ((M 1) 4)) + 1) 3)))) ?_
                                          show Xv E q_m_X8_order_ 244 [Value.ref am, Value.int (zi d), Value.int (zi a), Value.int (zi b), Value.int (zi c), Value.int (zi 3), Value.int (zi ((M 1) 4))] [Value.int (zi (320 + 8 * ((M 1) 4))), Value.ref (am + 1)] (q_mw h am (uM (uM (uA (uA M2 1 (M 1)) 4 (u1 (u1 (u1 (M 4) 0 a) 1 b) 2 c)) 1 ((320 + 8 * ((M 1) 4)) + 0) d) 1 ((320 + 8 * ((M 1) 4)) + 1) 3)) Q
                                          refine xv (x_iconst 245 d_X8_order__244 rfl) ?_
                                          refine xv (x_iadd 246 d_X8_order__245 rfl) ?_
                                          refine xv (x_iconst 247 d_X8_order__246 rfl) ?_
                                          refine xv (x_iastore 248 d_X8_order__247 rfl (m_s1 (by omega) (by omega))) ?_
                                          show Xv E q_m_X8_order_ 248 [Value.ref am, Value.int (zi d), Value.int (zi a), Value.int (zi b), Value.int (zi c), Value.int (zi 3), Value.int (zi ((M 1) 4))] [] (q_mw h am (uM (uM (uM (uA (uA M2 1 (M 1)) 4 (u1 (u1 (u1 (M 4) 0 a) 1 b) 2 c)) 1 ((320 + 8 * ((M 1) 4)) + 0) d) 1 ((320 + 8 * ((M 1) 4)) + 1) 3) 1 ((320 + 8 * ((M 1) 4)) + 2) 0)) Q
                                          refine xv (x_aload_n 249 d_X8_order__248 rfl rfl) ?_
                                          refine xv (x_getfield 252 d_X8_order__249 rfl f_8_9 (Nat.le_of_ble_eq_true rfl) (Nat.le_of_ble_eq_true rfl) (q_gf_of m_o rfl)) ?_
                                          refine xv (x_iload 254 d_X8_order__252 rfl rfl) ?_
                                          refine xv (x_ins1 257 (as := [Value.int (zi ((M 1) 4))]) d_X8_order__254 rfl c_8_106 rfl (Nat.le_of_ble_eq_true rfl) (Nat.le_of_ble_eq_true rfl) (Nat.le_of_ble_eq_true rfl) rfl (S_X8_order (E := E) (h := h) (am := am) (M := (uM (uM (uM (uA (uA M2 1 (M 1)) 4 (u1 (u1 (u1 (M 4) 0 a) 1 b) 2 c)) 1 ((320 + 8 * ((M 1) 4)) + 0) d) 1 ((320 + 8 * ((M 1) 4)) + 1) 3) 1 ((320 + 8 * ((M 1) 4)) + 2) 0)))) ?_
                                          show Xv E q_m_X8_order_ 257 [Value.ref am, Value.int (zi d), Value.int (zi a), Value.int (zi b), Value.int (zi c), Value.int (zi 3), Value.int (zi ((M 1) 4))] [Value.int (zi (320 + 8 * ((M 1) 4))), Value.ref (am + 1)] (q_mw h am (uM (uM (uM (uA (uA M2 1 (M 1)) 4 (u1 (u1 (u1 (M 4) 0 a) 1 b) 2 c)) 1 ((320 + 8 * ((M 1) 4)) + 0) d) 1 ((320 + 8 * ((M 1) 4)) + 1) 3) 1 ((320 + 8 * ((M 1) 4)) + 2) 0)) Q
                                          refine xv (x_iconst 258 d_X8_order__257 rfl) ?_
                                          refine xv (x_iadd 259 d_X8_order__258 rfl) ?_
                                          refine xv (x_iconst 260 d_X8_order__259 rfl) ?_
                                          refine xv (x_iastore 261 d_X8_order__260 rfl (m_s1 (by omega) (by omega))) ?_
                                          show Xv E q_m_X8_order_ 261 [Value.ref am, Value.int (zi d), Value.int (zi a), Value.int (zi b), Value.int (zi c), Value.int (zi 3), Value.int (zi ((M 1) 4))] [] (q_mw h am (uM (uM (uM (uM (uA (uA M2 1 (M 1)) 4 (u1 (u1 (u1 (M 4) 0 a) 1 b) 2 c)) 1 ((320 + 8 * ((M 1) 4)) + 0) d) 1 ((320 + 8 * ((M 1) 4)) + 1) 3) 1 ((320 + 8 * ((M 1) 4)) + 2) 0) 1 ((320 + 8 * ((M 1) 4)) + 3) (-1))) Q
                                          refine xv (x_aload_n 262 d_X8_order__261 rfl rfl) ?_
                                          refine xv (x_getfield 265 d_X8_order__262 rfl f_8_9 (Nat.le_of_ble_eq_true rfl) (Nat.le_of_ble_eq_true rfl) (q_gf_of m_o rfl)) ?_
                                          refine xv (x_iload 267 d_X8_order__265 rfl rfl) ?_
                                          refine xv (x_ins1 270 (as := [Value.int (zi ((M 1) 4))]) d_X8_order__267 rfl c_8_106 rfl (Nat.le_of_ble_eq_true rfl) (Nat.le_of_ble_eq_true rfl) (Nat.le_of_ble_eq_true rfl) rfl (S_X8_order (E := E) (h := h) (am := am) (M := (uM (uM (uM (uM (uA (uA M2 1 (M 1)) 4 (u1 (u1 (u1 (M 4) 0 a) 1 b) 2 c)) 1 ((320 + 8 * ((M 1) 4)) + 0) d) 1 ((320 + 8 * ((M 1) 4)) + 1) 3) 1 ((320 + 8 * ((M 1) 4)) + 2) 0) 1 ((320 + 8 * ((M 1) 4)) + 3) (-1))))) ?_
                                          show Xv E q_m_X8_order_ 270 [Value.ref am, Value.int (zi d), Value.int (zi a), Value.int (zi b), Value.int (zi c), Value.int (zi 3), Value.int (zi ((M 1) 4))] [Value.int (zi (320 + 8 * ((M 1) 4))), Value.ref (am + 1)] (q_mw h am (uM (uM (uM (uM (uA (uA M2 1 (M 1)) 4 (u1 (u1 (u1 (M 4) 0 a) 1 b) 2 c)) 1 ((320 + 8 * ((M 1) 4)) + 0) d) 1 ((320 + 8 * ((M 1) 4)) + 1) 3) 1 ((320 + 8 * ((M 1) 4)) + 2) 0) 1 ((320 + 8 * ((M 1) 4)) + 3) (-1))) Q
                                          refine xv (x_iconst 271 d_X8_order__270 rfl) ?_
                                          refine xv (x_iadd 272 d_X8_order__271 rfl) ?_
                                          refine xv (x_iconst 273 d_X8_order__272 rfl) ?_
                                          refine xv (x_iastore 274 d_X8_order__273 rfl (m_s1 (by omega) (by omega))) ?_
                                          show Xv E q_m_X8_order_ 274 [Value.ref am, Value.int (zi d), Value.int (zi a), Value.int (zi b), Value.int (zi c), Value.int (zi 3), Value.int (zi ((M 1) 4))] [] (q_mw h am (uM (uM (uM (uM (uM (uA (uA M2 1 (M 1)) 4 (u1 (u1 (u1 (M 4) 0 a) 1 b) 2 c)) 1 ((320 + 8 * ((M 1) 4)) + 0) d) 1 ((320 + 8 * ((M 1) 4)) + 1) 3) 1 ((320 + 8 * ((M 1) 4)) + 2) 0) 1 ((320 + 8 * ((M 1) 4)) + 3) (-1)) 1 ((320 + 8 * ((M 1) 4)) + 4) (-1))) Q
                                          refine xv (x_aload_n 275 d_X8_order__274 rfl rfl) ?_
                                          refine xv (x_getfield 278 d_X8_order__275 rfl f_8_19 (Nat.le_of_ble_eq_true rfl) (Nat.le_of_ble_eq_true rfl) (q_gf_of m_o rfl)) ?_
                                          refine xv (x_iconst 279 d_X8_order__278 rfl) ?_
                                          refine xv (x_aload_n 280 d_X8_order__279 rfl rfl) ?_
                                          refine xv (x_getfield 283 d_X8_order__280 rfl f_8_9 (Nat.le_of_ble_eq_true rfl) (Nat.le_of_ble_eq_true rfl) (q_gf_of m_o rfl)) ?_
                                          refine xv (x_iload 285 d_X8_order__283 rfl rfl) ?_
                                          refine xv (x_ins1 288 (as := [Value.int (zi ((M 1) 4))]) d_X8_order__285 rfl c_8_106 rfl (Nat.le_of_ble_eq_true rfl) (Nat.le_of_ble_eq_true rfl) (Nat.le_of_ble_eq_true rfl) rfl (S_X8_order (E := E) (h := h) (am := am) (M := (uM (uM (uM (uM (uM (uA (uA M2 1 (M 1)) 4 (u1 (u1 (u1 (M 4) 0 a) 1 b) 2 c)) 1 ((320 + 8 * ((M 1) 4)) + 0) d) 1 ((320 + 8 * ((M 1) 4)) + 1) 3) 1 ((320 + 8 * ((M 1) 4)) + 2) 0) 1 ((320 + 8 * ((M 1) 4)) + 3) (-1)) 1 ((320 + 8 * ((M 1) 4)) + 4) (-1))))) ?_
                                          show Xv E q_m_X8_order_ 288 [Value.ref am, Value.int (zi d), Value.int (zi a), Value.int (zi b), Value.int (zi c), Value.int (zi 3), Value.int (zi ((M 1) 4))] [Value.int (zi (320 + 8 * ((M 1) 4))), Value.ref (am + 1), Value.int (zi 0), Value.ref (am + 4)] (q_mw h am (uM (uM (uM (uM (uM (uA (uA M2 1 (M 1)) 4 (u1 (u1 (u1 (M 4) 0 a) 1 b) 2 c)) 1 ((320 + 8 * ((M 1) 4)) + 0) d) 1 ((320 + 8 * ((M 1) 4)) + 1) 3) 1 ((320 + 8 * ((M 1) 4)) + 2) 0) 1 ((320 + 8 * ((M 1) 4)) + 3) (-1)) 1 ((320 + 8 * ((M 1) 4)) + 4) (-1))) Q
                                          refine xv (x_iconst 289 d_X8_order__288 rfl) ?_
                                          refine xv (x_iadd 290 d_X8_order__289 rfl) ?_
                                          refine xv (x_iconst 291 d_X8_order__290 rfl) ?_
                                          refine xv (x_copy 294 d_X8_order__291 rfl rfl rfl (Nat.le_of_ble_eq_true rfl) (Nat.le_of_ble_eq_true rfl) (Nat.le_of_ble_eq_true rfl) (m_cpy 4 1 m_a4 m_a1 m_w1 (by omega) (by omega) (by omega) (by omega) (by omega) (by decide) (by decide))) ?_
                                          show Xv E q_m_X8_order_ 294 [Value.ref am, Value.int (zi d), Value.int (zi a), Value.int (zi b), Value.int (zi c), Value.int (zi 3), Value.int (zi ((M 1) 4))] [] (q_mw h am (uA (uM (uM (uM (uM (uM (uA (uA M2 1 (M 1)) 4 (u1 (u1 (u1 (M 4) 0 a) 1 b) 2 c)) 1 ((320 + 8 * ((M 1) 4)) + 0) d) 1 ((320 + 8 * ((M 1) 4)) + 1) 3) 1 ((320 + 8 * ((M 1) 4)) + 2) 0) 1 ((320 + 8 * ((M 1) 4)) + 3) (-1)) 1 ((320 + 8 * ((M 1) 4)) + 4) (-1)) 1 (cpI (u1 (u1 (u1 (M 4) 0 a) 1 b) 2 c) (u1 (u1 (u1 (u1 (u1 (M 1) ((320 + 8 * ((M 1) 4)) + 0) d) ((320 + 8 * ((M 1) 4)) + 1) 3) ((320 + 8 * ((M 1) 4)) + 2) 0) ((320 + 8 * ((M 1) 4)) + 3) (-1)) ((320 + 8 * ((M 1) 4)) + 4) (-1)) 0 ((320 + 8 * ((M 1) 4)) + 5) 3))) Q
                                          refine xv (x_aload_n 295 d_X8_order__294 rfl rfl) ?_
                                          refine xv (x_getfield 298 d_X8_order__295 rfl f_8_9 (Nat.le_of_ble_eq_true rfl) (Nat.le_of_ble_eq_true rfl) (q_gf_of m_o rfl)) ?_
                                          refine xv (x_iconst 299 d_X8_order__298 rfl) ?_
                                          refine xv (x_dup2 300 d_X8_order__299 rfl rfl rfl) ?_
                                          refine xv (x_iaload 301 d_X8_order__300 rfl ((m_g1 (by omega) (by omega)).trans (rfl : _ = some (Value.int (zi ((cpI (u1 (u1 (u1 (M 4) 0 a) 1 b) 2 c) (u1 (u1 (u1 (u1 (u1 (M 1) ((320 + 8 * ((M 1) 4)) + 0) d) ((320 + 8 * ((M 1) 4)) + 1) 3) ((320 + 8 * ((M 1) 4)) + 2) 0) ((320 + 8 * ((M 1) 4)) + 3) (-1)) ((320 + 8 * ((M 1) 4)) + 4) (-1)) 0 ((320 + 8 * ((M 1) 4)) + 5) 3) 4)))))) ?_
                                          refine xv (x_iconst 302 d_X8_order__301 rfl) ?_
                                          refine xv (x_iadd 303 d_X8_order__302 rfl) ?_
                                          refine xv (x_iastore 304 d_X8_order__303 rfl (m_s1 (by omega) (by omega))) ?_
                                          show Xv E q_m_X8_order_ 304 [Value.ref am, Value.int (zi d), Value.int (zi a), Value.int (zi b), Value.int (zi c), Value.int (zi 3), Value.int (zi ((M 1) 4))] [] (q_mw h am (uM (uA (uM (uM (uM (uM (uM (uA (uA M2 1 (M 1)) 4 (u1 (u1 (u1 (M 4) 0 a) 1 b) 2 c)) 1 ((320 + 8 * ((M 1) 4)) + 0) d) 1 ((320 + 8 * ((M 1) 4)) + 1) 3) 1 ((320 + 8 * ((M 1) 4)) + 2) 0) 1 ((320 + 8 * ((M 1) 4)) + 3) (-1)) 1 ((320 + 8 * ((M 1) 4)) + 4) (-1)) 1 (cpI (u1 (u1 (u1 (M 4) 0 a) 1 b) 2 c) (u1 (u1 (u1 (u1 (u1 (M 1) ((320 + 8 * ((M 1) 4)) + 0) d) ((320 + 8 * ((M 1) 4)) + 1) 3) ((320 + 8 * ((M 1) 4)) + 2) 0) ((320 + 8 * ((M 1) 4)) + 3) (-1)) ((320 + 8 * ((M 1) 4)) + 4) (-1)) 0 ((320 + 8 * ((M 1) 4)) + 5) 3)) 1 4 (((cpI (u1 (u1 (u1 (M 4) 0 a) 1 b) 2 c) (u1 (u1 (u1 (u1 (u1 (M 1) ((320 + 8 * ((M 1) 4)) + 0) d) ((320 + 8 * ((M 1) 4)) + 1) 3) ((320 + 8 * ((M 1) 4)) + 2) 0) ((320 + 8 * ((M 1) 4)) + 3) (-1)) ((320 + 8 * ((M 1) 4)) + 4) (-1)) 0 ((320 + 8 * ((M 1) 4)) + 5) 3) 4) + 1))) Q
                                          refine xv (x_iload 306 d_X8_order__304 rfl rfl) ?_
                                          refine xv_r (x_ireturn d_X8_order__306 rfl rfl) ?_
                                          have er : mOrd (M 1) d a b c = (0, 0) := by first | (exfalso; omega) | (unfold mOrd; repeat (first | rw [if_pos (by omega)] | rw [if_neg (by omega)]))
                                          have ec : cntO b c = 3 := by first | (exfalso; omega) | (unfold cntO; repeat (first | rw [if_pos (by omega)] | rw [if_neg (by omega)]))
                                          refine hQ _ _ ?_
                                          unfold mMu2
                                          rw [er, if_pos rfl, ec]
                                          refine ⟨rfl, ?_⟩
                                          unfold lnO
                                          rw [hM2, ← eM]
                                          simp only [uM_uA, uA_uA, uA_eq]
                                          rfl
                                        · omega
                                      · refine xv (x_aload_n 177 d_X8_order__176 rfl rfl) ?_
                                        refine xv (x_bipush 179 d_X8_order__177 rfl rfl) ?_
                                        refine xv (x_aload_n 180 d_X8_order__179 rfl rfl) ?_
                                        refine xv (x_getfield 183 d_X8_order__180 rfl f_8_19 (Nat.le_of_ble_eq_true rfl) (Nat.le_of_ble_eq_true rfl) (q_gf_of m_o rfl)) ?_
                                        refine xv (x_iload 185 d_X8_order__183 rfl rfl) ?_
                                        refine xv (x_iaload 186 d_X8_order__185 rfl ((m_g4 (by omega) (by omega)).trans (rfl : _ = some (Value.int (zi c))))) ?_
                                        obtain ⟨r186, h186, e186, z186, y186⟩ := S_X8_refuse (E := E) (h := h) (am := am) (M := (uM (uM (uM (uM M 0 5 0) 4 0 a) 4 1 b) 4 2 c)) (y := 12) (z := c) 
                                        subst z186
                                        subst y186
                                        refine xv (x_inv1 189 (as := [Value.int (zi 12), Value.int (zi c)]) d_X8_order__186 rfl c_8_90 rfl (Nat.le_of_ble_eq_true rfl) (Nat.le_of_ble_eq_true rfl) m_o (Nat.le_of_ble_eq_true rfl) (Nat.le_of_ble_eq_true rfl) rfl e186) ?_
                                        show Xv E q_m_X8_order_ 189 [Value.ref am, Value.int (zi d), Value.int (zi a), Value.int (zi b), Value.int (zi c), Value.int (zi 3), Value.int (zi ((0 + 1) + 1))] [Value.int (zi 0)] (q_mw h am (uM (uM (uM (uM (uM (uM (uM M 0 5 0) 4 0 a) 4 1 b) 4 2 c) 0 5 1) 0 6 12) 0 7 c)) Q
                                        refine xv_r (x_ireturn d_X8_order__189 rfl rfl) ?_
                                        have er : mOrd (M 1) d a b c = (12, c) := by first | (exfalso; omega) | (unfold mOrd; repeat (first | rw [if_pos (by omega)] | rw [if_neg (by omega)]))
                                        refine hQ _ _ ?_
                                        unfold mMu2
                                        rw [er]
                                        exact ⟨rfl, rfl⟩
                                  · refine xv (x_aload_n 177 d_X8_order__176 rfl rfl) ?_
                                    refine xv (x_bipush 179 d_X8_order__177 rfl rfl) ?_
                                    refine xv (x_aload_n 180 d_X8_order__179 rfl rfl) ?_
                                    refine xv (x_getfield 183 d_X8_order__180 rfl f_8_19 (Nat.le_of_ble_eq_true rfl) (Nat.le_of_ble_eq_true rfl) (q_gf_of m_o rfl)) ?_
                                    refine xv (x_iload 185 d_X8_order__183 rfl rfl) ?_
                                    refine xv (x_iaload 186 d_X8_order__185 rfl ((m_g4 (by omega) (by omega)).trans (rfl : _ = some (Value.int (zi b))))) ?_
                                    obtain ⟨r186, h186, e186, z186, y186⟩ := S_X8_refuse (E := E) (h := h) (am := am) (M := (uM (uM (uM (uM M 0 5 0) 4 0 a) 4 1 b) 4 2 c)) (y := 12) (z := b) 
                                    subst z186
                                    subst y186
                                    refine xv (x_inv1 189 (as := [Value.int (zi 12), Value.int (zi b)]) d_X8_order__186 rfl c_8_90 rfl (Nat.le_of_ble_eq_true rfl) (Nat.le_of_ble_eq_true rfl) m_o (Nat.le_of_ble_eq_true rfl) (Nat.le_of_ble_eq_true rfl) rfl e186) ?_
                                    show Xv E q_m_X8_order_ 189 [Value.ref am, Value.int (zi d), Value.int (zi a), Value.int (zi b), Value.int (zi c), Value.int (zi 3), Value.int (zi (0 + 1))] [Value.int (zi 0)] (q_mw h am (uM (uM (uM (uM (uM (uM (uM M 0 5 0) 4 0 a) 4 1 b) 4 2 c) 0 5 1) 0 6 12) 0 7 b)) Q
                                    refine xv_r (x_ireturn d_X8_order__189 rfl rfl) ?_
                                    have er : mOrd (M 1) d a b c = (12, b) := by first | (exfalso; omega) | (unfold mOrd; repeat (first | rw [if_pos (by omega)] | rw [if_neg (by omega)]))
                                    refine hQ _ _ ?_
                                    unfold mMu2
                                    rw [er]
                                    exact ⟨rfl, rfl⟩
                              · refine xv (x_aload_n 177 d_X8_order__176 rfl rfl) ?_
                                refine xv (x_bipush 179 d_X8_order__177 rfl rfl) ?_
                                refine xv (x_aload_n 180 d_X8_order__179 rfl rfl) ?_
                                refine xv (x_getfield 183 d_X8_order__180 rfl f_8_19 (Nat.le_of_ble_eq_true rfl) (Nat.le_of_ble_eq_true rfl) (q_gf_of m_o rfl)) ?_
                                refine xv (x_iload 185 d_X8_order__183 rfl rfl) ?_
                                refine xv (x_iaload 186 d_X8_order__185 rfl ((m_g4 (by omega) (by omega)).trans (rfl : _ = some (Value.int (zi a))))) ?_
                                obtain ⟨r186, h186, e186, z186, y186⟩ := S_X8_refuse (E := E) (h := h) (am := am) (M := (uM (uM (uM (uM M 0 5 0) 4 0 a) 4 1 b) 4 2 c)) (y := 12) (z := a) 
                                subst z186
                                subst y186
                                refine xv (x_inv1 189 (as := [Value.int (zi 12), Value.int (zi a)]) d_X8_order__186 rfl c_8_90 rfl (Nat.le_of_ble_eq_true rfl) (Nat.le_of_ble_eq_true rfl) m_o (Nat.le_of_ble_eq_true rfl) (Nat.le_of_ble_eq_true rfl) rfl e186) ?_
                                show Xv E q_m_X8_order_ 189 [Value.ref am, Value.int (zi d), Value.int (zi a), Value.int (zi b), Value.int (zi c), Value.int (zi 3), Value.int (zi 0)] [Value.int (zi 0)] (q_mw h am (uM (uM (uM (uM (uM (uM (uM M 0 5 0) 4 0 a) 4 1 b) 4 2 c) 0 5 1) 0 6 12) 0 7 a)) Q
                                refine xv_r (x_ireturn d_X8_order__189 rfl rfl) ?_
                                have er : mOrd (M 1) d a b c = (12, a) := by first | (exfalso; omega) | (unfold mOrd; repeat (first | rw [if_pos (by omega)] | rw [if_neg (by omega)]))
                                refine hQ _ _ ?_
                                unfold mMu2
                                rw [er]
                                exact ⟨rfl, rfl⟩
                          · refine xv (x_aload_n 142 d_X8_order__141 rfl rfl) ?_
                            refine xv (x_iconst 143 d_X8_order__142 rfl) ?_
                            refine xv (x_iconst 144 d_X8_order__143 rfl) ?_
                            obtain ⟨r144, h144, e144, z144, y144⟩ := S_X8_refuse (E := E) (h := h) (am := am) (M := (uM (uM (uM (uM M 0 5 0) 4 0 a) 4 1 b) 4 2 c)) (y := 3) (z := 0) 
                            subst z144
                            subst y144
                            refine xv (x_inv1 147 (as := [Value.int (zi 3), Value.int (zi 0)]) d_X8_order__144 rfl c_8_90 rfl (Nat.le_of_ble_eq_true rfl) (Nat.le_of_ble_eq_true rfl) m_o (Nat.le_of_ble_eq_true rfl) (Nat.le_of_ble_eq_true rfl) rfl e144) ?_
                            show Xv E q_m_X8_order_ 147 [Value.ref am, Value.int (zi d), Value.int (zi a), Value.int (zi b), Value.int (zi c), Value.int (zi 3), Value.int (zi (((0 + 1) + 1) + 1))] [Value.int (zi 0)] (q_mw h am (uM (uM (uM (uM (uM (uM (uM M 0 5 0) 4 0 a) 4 1 b) 4 2 c) 0 5 1) 0 6 3) 0 7 0)) Q
                            refine xv_r (x_ireturn d_X8_order__147 rfl rfl) ?_
                            have er : mOrd (M 1) d a b c = (3, 0) := by first | (exfalso; omega) | (unfold mOrd; repeat (first | rw [if_pos (by omega)] | rw [if_neg (by omega)]))
                            refine hQ _ _ ?_
                            unfold mMu2
                            rw [er]
                            exact ⟨rfl, rfl⟩
                        · refine xv (x_aload_n 124 d_X8_order__123 rfl rfl) ?_
                          refine xv (x_iconst 125 d_X8_order__124 rfl) ?_
                          refine xv (x_iconst 126 d_X8_order__125 rfl) ?_
                          obtain ⟨r126, h126, e126, z126, y126⟩ := S_X8_refuse (E := E) (h := h) (am := am) (M := (uM (uM (uM (uM M 0 5 0) 4 0 a) 4 1 b) 4 2 c)) (y := 2) (z := 0) 
                          subst z126
                          subst y126
                          refine xv (x_inv1 129 (as := [Value.int (zi 2), Value.int (zi 0)]) d_X8_order__126 rfl c_8_90 rfl (Nat.le_of_ble_eq_true rfl) (Nat.le_of_ble_eq_true rfl) m_o (Nat.le_of_ble_eq_true rfl) (Nat.le_of_ble_eq_true rfl) rfl e126) ?_
                          show Xv E q_m_X8_order_ 129 [Value.ref am, Value.int (zi d), Value.int (zi a), Value.int (zi b), Value.int (zi c), Value.int (zi 3), Value.int (zi (((0 + 1) + 1) + 1))] [Value.int (zi 0)] (q_mw h am (uM (uM (uM (uM (uM (uM (uM M 0 5 0) 4 0 a) 4 1 b) 4 2 c) 0 5 1) 0 6 2) 0 7 0)) Q
                          refine xv_r (x_ireturn d_X8_order__129 rfl rfl) ?_
                          have er : mOrd (M 1) d a b c = (2, 0) := by first | (exfalso; omega) | (unfold mOrd; repeat (first | rw [if_pos (by omega)] | rw [if_neg (by omega)]))
                          refine hQ _ _ ?_
                          unfold mMu2
                          rw [er]
                          exact ⟨rfl, rfl⟩
                  · omega
                · replace k69 := bI_0.mp k69
                  refine xv (x_iload 74 d_X8_order__72 rfl rfl) ?_
                  refine v_if_eq 88 77 d_X8_order__74 rfl rfl (by omega) (by omega) (fun k74 => ?_) (fun k74 => ?_)
                  · omega
                  · refine xv (x_aload_n 78 d_X8_order__77 rfl rfl) ?_
                    refine xv (x_getfield 81 d_X8_order__78 rfl f_8_19 (Nat.le_of_ble_eq_true rfl) (Nat.le_of_ble_eq_true rfl) (q_gf_of m_o rfl)) ?_
                    refine xv (x_iload 83 d_X8_order__81 rfl rfl) ?_
                    refine xv (x_iaload 84 d_X8_order__83 rfl ((m_g4 (by omega) (by omega)).trans (rfl : _ = some (Value.int (zi c))))) ?_
                    refine xv (x_iconst 85 d_X8_order__84 rfl) ?_
                    refine v_icmp_eq 95 88 d_X8_order__85 rfl rfl (by omega) (by omega) (by omega) (by omega) (fun k85 => ?_) (fun k85 => ?_)
                    · refine xv (x_iinc 98 d_X8_order__95 rfl rfl) ?_
                      show Xv E q_m_X8_order_ 98 [Value.ref am, Value.int (zi d), Value.int (zi a), Value.int (zi b), Value.int (zi c), Value.int (zi 3), Value.int (zi (((0 + 1) + 1) + 1))] [] (q_mw h am (uM (uM (uM (uM M 0 5 0) 4 0 a) 4 1 b) 4 2 c)) Q
                      refine xv (x_goto 52 d_X8_order__98 rfl) ?_
                      refine xv (x_iload 54 d_X8_order__52 rfl rfl) ?_
                      refine xv (x_iconst 55 d_X8_order__54 rfl) ?_
                      refine v_icmp_ge 101 58 d_X8_order__55 rfl rfl (by omega) (by omega) (by omega) (by omega) (fun k55 => ?_) (fun k55 => ?_)
                      · refine xv (x_iload_n 102 d_X8_order__101 rfl rfl) ?_
                        refine xv (x_iconst 103 d_X8_order__102 rfl) ?_
                        refine xv (x_sipush 106 d_X8_order__103 rfl rfl) ?_
                        refine xv (x_ins1 109 (as := [Value.int (zi d), Value.int (zi 0), Value.int (zi 999)]) d_X8_order__106 rfl c_8_71 rfl (Nat.le_of_ble_eq_true rfl) (Nat.le_of_ble_eq_true rfl) (Nat.le_of_ble_eq_true rfl) rfl (S_X8_in (E := E) (h := h) (am := am) (M := (uM (uM (uM (uM M 0 5 0) 4 0 a) 4 1 b) 4 2 c)) (by first | omega | (rw [show (uM (uM (uM (uM M 0 5 0) 4 0 a) 4 1 b) 4 2 c) 1 = (M 1) from rfl]; omega)) (by first | omega | (rw [show (uM (uM (uM (uM M 0 5 0) 4 0 a) 4 1 b) 4 2 c) 1 = (M 1) from rfl]; omega)) (by first | omega | (rw [show (uM (uM (uM (uM M 0 5 0) 4 0 a) 4 1 b) 4 2 c) 1 = (M 1) from rfl]; omega)) (by first | omega | (rw [show (uM (uM (uM (uM M 0 5 0) 4 0 a) 4 1 b) 4 2 c) 1 = (M 1) from rfl]; omega)) (by first | omega | (rw [show (uM (uM (uM (uM M 0 5 0) 4 0 a) 4 1 b) 4 2 c) 1 = (M 1) from rfl]; omega)) (by first | omega | (rw [show (uM (uM (uM (uM M 0 5 0) 4 0 a) 4 1 b) 4 2 c) 1 = (M 1) from rfl]; omega)))) ?_
                        show Xv E q_m_X8_order_ 109 [Value.ref am, Value.int (zi d), Value.int (zi a), Value.int (zi b), Value.int (zi c), Value.int (zi 3), Value.int (zi (((0 + 1) + 1) + 1))] [Value.int (zi (bI (inn d 0 999)))] (q_mw h am (uM (uM (uM (uM M 0 5 0) 4 0 a) 4 1 b) 4 2 c)) Q
                        refine v_if_eq 123 112 d_X8_order__109 rfl rfl (by have := bI_r (inn d 0 999); omega) (by have := bI_r (inn d 0 999); omega) (fun k109 => ?_) (fun k109 => ?_)
                        · replace k109 := bI_0.mp k109
                          refine xv (x_aload_n 124 d_X8_order__123 rfl rfl) ?_
                          refine xv (x_iconst 125 d_X8_order__124 rfl) ?_
                          refine xv (x_iconst 126 d_X8_order__125 rfl) ?_
                          obtain ⟨r126, h126, e126, z126, y126⟩ := S_X8_refuse (E := E) (h := h) (am := am) (M := (uM (uM (uM (uM M 0 5 0) 4 0 a) 4 1 b) 4 2 c)) (y := 2) (z := 0) 
                          subst z126
                          subst y126
                          refine xv (x_inv1 129 (as := [Value.int (zi 2), Value.int (zi 0)]) d_X8_order__126 rfl c_8_90 rfl (Nat.le_of_ble_eq_true rfl) (Nat.le_of_ble_eq_true rfl) m_o (Nat.le_of_ble_eq_true rfl) (Nat.le_of_ble_eq_true rfl) rfl e126) ?_
                          show Xv E q_m_X8_order_ 129 [Value.ref am, Value.int (zi d), Value.int (zi a), Value.int (zi b), Value.int (zi c), Value.int (zi 3), Value.int (zi (((0 + 1) + 1) + 1))] [Value.int (zi 0)] (q_mw h am (uM (uM (uM (uM (uM (uM (uM M 0 5 0) 4 0 a) 4 1 b) 4 2 c) 0 5 1) 0 6 2) 0 7 0)) Q
                          refine xv_r (x_ireturn d_X8_order__129 rfl rfl) ?_
                          have er : mOrd (M 1) d a b c = (2, 0) := by first | (exfalso; omega) | (unfold mOrd; repeat (first | rw [if_pos (by omega)] | rw [if_neg (by omega)]))
                          refine hQ _ _ ?_
                          unfold mMu2
                          rw [er]
                          exact ⟨rfl, rfl⟩
                        · replace k109 := bI_n0.mp k109
                          refine xv (x_iload_n 113 d_X8_order__112 rfl rfl) ?_
                          refine xv (x_iconst 114 d_X8_order__113 rfl) ?_
                          refine v_icmp_ne 130 117 d_X8_order__114 rfl rfl (by omega) (by omega) (by omega) (by omega) (fun k114 => ?_) (fun k114 => ?_)
                          · refine xv (x_aload_n 131 d_X8_order__130 rfl rfl) ?_
                            refine xv (x_getfield 134 d_X8_order__131 rfl f_8_9 (Nat.le_of_ble_eq_true rfl) (Nat.le_of_ble_eq_true rfl) (q_gf_of m_o rfl)) ?_
                            refine xv (x_iconst 135 d_X8_order__134 rfl) ?_
                            refine xv (x_iaload 136 d_X8_order__135 rfl ((m_g1 (by omega) (by omega)).trans (rfl : _ = some (Value.int (zi ((M 1) 4)))))) ?_
                            have q_11 : -1000000 ≤ (M 1) 4 ∧ (M 1) 4 ≤ 1000000 := hr _
                            refine xv (x_bipush 138 d_X8_order__136 rfl rfl) ?_
                            refine v_icmp_ne 148 141 d_X8_order__138 rfl rfl (by omega) (by omega) (by omega) (by omega) (fun k138 => ?_) (fun k138 => ?_)
                            · refine xv (x_iconst 149 d_X8_order__148 rfl) ?_
                              refine xv (x_istore 151 d_X8_order__149 rfl (Nat.le_of_ble_eq_true rfl)) ?_
                              show Xv E q_m_X8_order_ 151 [Value.ref am, Value.int (zi d), Value.int (zi a), Value.int (zi b), Value.int (zi c), Value.int (zi 3), Value.int (zi 0)] [] (q_mw h am (uM (uM (uM (uM M 0 5 0) 4 0 a) 4 1 b) 4 2 c)) Q
                              refine xv (x_iload 153 d_X8_order__151 rfl rfl) ?_
                              refine xv (x_iload 155 d_X8_order__153 rfl rfl) ?_
                              refine v_icmp_ge 196 158 d_X8_order__155 rfl rfl (by omega) (by omega) (by omega) (by omega) (fun k155 => ?_) (fun k155 => ?_)
                              · omega
                              · refine xv (x_aload_n 159 d_X8_order__158 rfl rfl) ?_
                                refine xv (x_getfield 162 d_X8_order__159 rfl f_8_9 (Nat.le_of_ble_eq_true rfl) (Nat.le_of_ble_eq_true rfl) (q_gf_of m_o rfl)) ?_
                                refine xv (x_bipush 164 d_X8_order__162 rfl rfl) ?_
                                refine xv (x_aload_n 165 d_X8_order__164 rfl rfl) ?_
                                refine xv (x_getfield 168 d_X8_order__165 rfl f_8_19 (Nat.le_of_ble_eq_true rfl) (Nat.le_of_ble_eq_true rfl) (q_gf_of m_o rfl)) ?_
                                refine xv (x_iload 170 d_X8_order__168 rfl rfl) ?_
                                refine xv (x_iaload 171 d_X8_order__170 rfl ((m_g4 (by omega) (by omega)).trans (rfl : _ = some (Value.int (zi a))))) ?_
                                refine xv (x_iadd 172 d_X8_order__171 rfl) ?_
                                refine xv (x_iaload 173 d_X8_order__172 rfl ((m_g1 (by omega) (by omega)).trans (rfl : _ = some (Value.int (zi ((M 1) (8 + a))))))) ?_
                                have q_12 : -1000000 ≤ (M 1) (8 + a) ∧ (M 1) (8 + a) ≤ 1000000 := hr _
                                refine v_if_eq 190 176 d_X8_order__173 rfl rfl (by omega) (by omega) (fun k173 => ?_) (fun k173 => ?_)
                                · refine xv (x_iinc 193 d_X8_order__190 rfl rfl) ?_
                                  show Xv E q_m_X8_order_ 193 [Value.ref am, Value.int (zi d), Value.int (zi a), Value.int (zi b), Value.int (zi c), Value.int (zi 3), Value.int (zi (0 + 1))] [] (q_mw h am (uM (uM (uM (uM M 0 5 0) 4 0 a) 4 1 b) 4 2 c)) Q
                                  refine xv (x_goto 151 d_X8_order__193 rfl) ?_
                                  refine xv (x_iload 153 d_X8_order__151 rfl rfl) ?_
                                  refine xv (x_iload 155 d_X8_order__153 rfl rfl) ?_
                                  refine v_icmp_ge 196 158 d_X8_order__155 rfl rfl (by omega) (by omega) (by omega) (by omega) (fun k155 => ?_) (fun k155 => ?_)
                                  · omega
                                  · refine xv (x_aload_n 159 d_X8_order__158 rfl rfl) ?_
                                    refine xv (x_getfield 162 d_X8_order__159 rfl f_8_9 (Nat.le_of_ble_eq_true rfl) (Nat.le_of_ble_eq_true rfl) (q_gf_of m_o rfl)) ?_
                                    refine xv (x_bipush 164 d_X8_order__162 rfl rfl) ?_
                                    refine xv (x_aload_n 165 d_X8_order__164 rfl rfl) ?_
                                    refine xv (x_getfield 168 d_X8_order__165 rfl f_8_19 (Nat.le_of_ble_eq_true rfl) (Nat.le_of_ble_eq_true rfl) (q_gf_of m_o rfl)) ?_
                                    refine xv (x_iload 170 d_X8_order__168 rfl rfl) ?_
                                    refine xv (x_iaload 171 d_X8_order__170 rfl ((m_g4 (by omega) (by omega)).trans (rfl : _ = some (Value.int (zi b))))) ?_
                                    refine xv (x_iadd 172 d_X8_order__171 rfl) ?_
                                    refine xv (x_iaload 173 d_X8_order__172 rfl ((m_g1 (by omega) (by omega)).trans (rfl : _ = some (Value.int (zi ((M 1) (8 + b))))))) ?_
                                    have q_13 : -1000000 ≤ (M 1) (8 + b) ∧ (M 1) (8 + b) ≤ 1000000 := hr _
                                    refine v_if_eq 190 176 d_X8_order__173 rfl rfl (by omega) (by omega) (fun k173 => ?_) (fun k173 => ?_)
                                    · refine xv (x_iinc 193 d_X8_order__190 rfl rfl) ?_
                                      show Xv E q_m_X8_order_ 193 [Value.ref am, Value.int (zi d), Value.int (zi a), Value.int (zi b), Value.int (zi c), Value.int (zi 3), Value.int (zi ((0 + 1) + 1))] [] (q_mw h am (uM (uM (uM (uM M 0 5 0) 4 0 a) 4 1 b) 4 2 c)) Q
                                      refine xv (x_goto 151 d_X8_order__193 rfl) ?_
                                      refine xv (x_iload 153 d_X8_order__151 rfl rfl) ?_
                                      refine xv (x_iload 155 d_X8_order__153 rfl rfl) ?_
                                      refine v_icmp_ge 196 158 d_X8_order__155 rfl rfl (by omega) (by omega) (by omega) (by omega) (fun k155 => ?_) (fun k155 => ?_)
                                      · omega
                                      · refine xv (x_aload_n 159 d_X8_order__158 rfl rfl) ?_
                                        refine xv (x_getfield 162 d_X8_order__159 rfl f_8_9 (Nat.le_of_ble_eq_true rfl) (Nat.le_of_ble_eq_true rfl) (q_gf_of m_o rfl)) ?_
                                        refine xv (x_bipush 164 d_X8_order__162 rfl rfl) ?_
                                        refine xv (x_aload_n 165 d_X8_order__164 rfl rfl) ?_
                                        refine xv (x_getfield 168 d_X8_order__165 rfl f_8_19 (Nat.le_of_ble_eq_true rfl) (Nat.le_of_ble_eq_true rfl) (q_gf_of m_o rfl)) ?_
                                        refine xv (x_iload 170 d_X8_order__168 rfl rfl) ?_
                                        refine xv (x_iaload 171 d_X8_order__170 rfl ((m_g4 (by omega) (by omega)).trans (rfl : _ = some (Value.int (zi c))))) ?_
                                        refine xv (x_iadd 172 d_X8_order__171 rfl) ?_
                                        refine xv (x_iaload 173 d_X8_order__172 rfl ((m_g1 (by omega) (by omega)).trans (rfl : _ = some (Value.int (zi ((M 1) (8 + c))))))) ?_
                                        have q_14 : -1000000 ≤ (M 1) (8 + c) ∧ (M 1) (8 + c) ≤ 1000000 := hr _
                                        refine v_if_eq 190 176 d_X8_order__173 rfl rfl (by omega) (by omega) (fun k173 => ?_) (fun k173 => ?_)
                                        · refine xv (x_iinc 193 d_X8_order__190 rfl rfl) ?_
                                          show Xv E q_m_X8_order_ 193 [Value.ref am, Value.int (zi d), Value.int (zi a), Value.int (zi b), Value.int (zi c), Value.int (zi 3), Value.int (zi (((0 + 1) + 1) + 1))] [] (q_mw h am (uM (uM (uM (uM M 0 5 0) 4 0 a) 4 1 b) 4 2 c)) Q
                                          refine xv (x_goto 151 d_X8_order__193 rfl) ?_
                                          refine xv (x_iload 153 d_X8_order__151 rfl rfl) ?_
                                          refine xv (x_iload 155 d_X8_order__153 rfl rfl) ?_
                                          refine v_icmp_ge 196 158 d_X8_order__155 rfl rfl (by omega) (by omega) (by omega) (by omega) (fun k155 => ?_) (fun k155 => ?_)
                                          · refine xv (x_aload_n 197 d_X8_order__196 rfl rfl) ?_
                                            obtain ⟨r197, h197, e197, z197, y197⟩ := S_X8_change (E := E) (h := h) (am := am) (M := (uM (uM (uM (uM M 0 5 0) 4 0 a) 4 1 b) 4 2 c)) hc
                                            subst z197
                                            subst y197
                                            refine xv (x_inv0 200 (as := []) d_X8_order__197 rfl c_8_100 rfl (Nat.le_of_ble_eq_true rfl) (Nat.le_of_ble_eq_true rfl) m_o (Nat.le_of_ble_eq_true rfl) (Nat.le_of_ble_eq_true rfl) rfl e197) ?_
                                            generalize hM2 : mch (uM (uM (uM (uM M 0 5 0) 4 0 a) 4 1 b) 4 2 c) = M2
                                            have e2 : M2 1 = M 1 := by rw [← hM2]; exact mch_1
                                            have e4 : M2 4 = (u1 (u1 (u1 (M 4) 0 a) 1 b) 2 c) := by rw [← hM2]; exact mch_s (by decide) (by decide)
                                            have eM : M2 = uA (uA M2 1 (M 1)) 4 (u1 (u1 (u1 (M 4) 0 a) 1 b) 2 c) := by rw [← e2, uA_self, ← e4, uA_self]
                                            rw [eM]
                                            show Xv E q_m_X8_order_ 200 [Value.ref am, Value.int (zi d), Value.int (zi a), Value.int (zi b), Value.int (zi c), Value.int (zi 3), Value.int (zi (((0 + 1) + 1) + 1))] [] (q_mw h am (uA (uA M2 1 (M 1)) 4 (u1 (u1 (u1 (M 4) 0 a) 1 b) 2 c))) Q
                                            refine xv (x_aload_n 201 d_X8_order__200 rfl rfl) ?_
                                            refine xv (x_getfield 204 d_X8_order__201 rfl f_8_9 (Nat.le_of_ble_eq_true rfl) (Nat.le_of_ble_eq_true rfl) (q_gf_of m_o rfl)) ?_
                                            refine xv (x_iconst 205 d_X8_order__204 rfl) ?_
                                            refine xv (x_iaload 206 d_X8_order__205 rfl ((m_g1 (by omega) (by omega)).trans (rfl : _ = some (Value.int (zi ((M 1) 4)))))) ?_
                                            have q_15 : -1000000 ≤ (M 1) 4 ∧ (M 1) 4 ≤ 1000000 := hr _
                                            refine xv (x_istore 208 d_X8_order__206 rfl (Nat.le_of_ble_eq_true rfl)) ?_
                                            show Xv E q_m_X8_order_ 208 [Value.ref am, Value.int (zi d), Value.int (zi a), Value.int (zi b), Value.int (zi c), Value.int (zi 3), Value.int (zi ((M 1) 4))] [] (q_mw h am (uA (uA M2 1 (M 1)) 4 (u1 (u1 (u1 (M 4) 0 a) 1 b) 2 c))) Q
                                            refine xv (x_aload_n 209 d_X8_order__208 rfl rfl) ?_
                                            refine xv (x_getfield 212 d_X8_order__209 rfl f_8_9 (Nat.le_of_ble_eq_true rfl) (Nat.le_of_ble_eq_true rfl) (q_gf_of m_o rfl)) ?_
                                            refine xv (x_iload 214 d_X8_order__212 rfl rfl) ?_
                                            refine xv (x_ins1 217 (as := [Value.int (zi ((M 1) 4))]) d_X8_order__214 rfl c_8_106 rfl (Nat.le_of_ble_eq_true rfl) (Nat.le_of_ble_eq_true rfl) (Nat.le_of_ble_eq_true rfl) rfl (S_X8_order (E := E) (h := h) (am := am) (M := (uA (uA M2 1 (M 1)) 4 (u1 (u1 (u1 (M 4) 0 a) 1 b) 2 c))))) ?_
                                            show Xv E q_m_X8_order_ 217 [Value.ref am, Value.int (zi d), Value.int (zi a), Value.int (zi b), Value.int (zi c), Value.int (zi 3), Value.int (zi ((M 1) 4))] [Value.int (zi (320 + 8 * ((M 1) 4))), Value.ref (am + 1)] (q_mw h am (uA (uA M2 1 (M 1)) 4 (u1 (u1 (u1 (M 4) 0 a) 1 b) 2 c))) Q
                                            refine xv (x_iconst 218 d_X8_order__217 rfl) ?_
                                            refine xv (x_iadd 219 d_X8_order__218 rfl) ?_
                                            refine xv (x_iload_n 220 d_X8_order__219 rfl rfl) ?_
                                            refine xv (x_iastore 221 d_X8_order__220 rfl (m_s1 (by omega) (by omega))) ?_
                                            show Xv E q_m_X8_order_ 221 [Value.ref am, Value.int (zi d), Value.int (zi a), Value.int (zi b), Value.int (zi c), Value.int (zi 3), Value.int (zi ((M 1) 4))] [] (q_mw h am (uM (uA (uA M2 1 (M 1)) 4 (u1 (u1 (u1 (M 4) 0 a) 1 b) 2 c)) 1 ((320 + 8 * ((M 1) 4)) + 0) d)) Q
                                            refine xv (x_aload_n 222 d_X8_order__221 rfl rfl) ?_
                                            refine xv (x_getfield 225 d_X8_order__222 rfl f_8_9 (Nat.le_of_ble_eq_true rfl) (Nat.le_of_ble_eq_true rfl) (q_gf_of m_o rfl)) ?_
                                            refine xv (x_iload 227 d_X8_order__225 rfl rfl) ?_
                                            refine xv (x_ins1 230 (as := [Value.int (zi ((M 1) 4))]) d_X8_order__227 rfl c_8_106 rfl (Nat.le_of_ble_eq_true rfl) (Nat.le_of_ble_eq_true rfl) (Nat.le_of_ble_eq_true rfl) rfl (S_X8_order (E := E) (h := h) (am := am) (M := (uM (uA (uA M2 1 (M 1)) 4 (u1 (u1 (u1 (M 4) 0 a) 1 b) 2 c)) 1 ((320 + 8 * ((M 1) 4)) + 0) d)))) ?_
                                            show Xv E q_m_X8_order_ 230 [Value.ref am, Value.int (zi d), Value.int (zi a), Value.int (zi b), Value.int (zi c), Value.int (zi 3), Value.int (zi ((M 1) 4))] [Value.int (zi (320 + 8 * ((M 1) 4))), Value.ref (am + 1)] (q_mw h am (uM (uA (uA M2 1 (M 1)) 4 (u1 (u1 (u1 (M 4) 0 a) 1 b) 2 c)) 1 ((320 + 8 * ((M 1) 4)) + 0) d)) Q
                                            refine xv (x_iconst 231 d_X8_order__230 rfl) ?_
                                            refine xv (x_iadd 232 d_X8_order__231 rfl) ?_
                                            refine xv (x_iload 234 d_X8_order__232 rfl rfl) ?_
                                            refine xv (x_iastore 235 d_X8_order__234 rfl (m_s1 (by omega) (by omega))) ?_
                                            show Xv E q_m_X8_order_ 235 [Value.ref am, Value.int (zi d), Value.int (zi a), Value.int (zi b), Value.int (zi c), Value.int (zi 3), Value.int (zi ((M 1) 4))] [] (q_mw h am (uM (uM (uA (uA M2 1 (M 1)) 4 (u1 (u1 (u1 (M 4) 0 a) 1 b) 2 c)) 1 ((320 + 8 * ((M 1) 4)) + 0) d) 1 ((320 + 8 * ((M 1) 4)) + 1) 3)) Q
                                            refine xv (x_aload_n 236 d_X8_order__235 rfl rfl) ?_
                                            refine xv (x_getfield 239 d_X8_order__236 rfl f_8_9 (Nat.le_of_ble_eq_true rfl) (Nat.le_of_ble_eq_true rfl) (q_gf_of m_o rfl)) ?_
                                            refine xv (x_iload 241 d_X8_order__239 rfl rfl) ?_
                                            refine xv (x_ins1 244 (as := [Value.int (zi ((M 1) 4))]) d_X8_order__241 rfl c_8_106 rfl (Nat.le_of_ble_eq_true rfl) (Nat.le_of_ble_eq_true rfl) (Nat.le_of_ble_eq_true rfl) rfl (S_X8_order (E := E) (h := h) (am := am) (M := (uM (uM (uA (uA M2 1 (M 1)) 4 (u1 (u1 (u1 (M 4) 0 a) 1 b) 2 c)) 1 ((320 + 8 * ((M 1) 4)) + 0) d) 1 ((320 + 8 * ((M 1) 4)) + 1) 3)))) ?_
                                            show Xv E q_m_X8_order_ 244 [Value.ref am, Value.int (zi d), Value.int (zi a), Value.int (zi b), Value.int (zi c), Value.int (zi 3), Value.int (zi ((M 1) 4))] [Value.int (zi (320 + 8 * ((M 1) 4))), Value.ref (am + 1)] (q_mw h am (uM (uM (uA (uA M2 1 (M 1)) 4 (u1 (u1 (u1 (M 4) 0 a) 1 b) 2 c)) 1 ((320 + 8 * ((M 1) 4)) + 0) d) 1 ((320 + 8 * ((M 1) 4)) + 1) 3)) Q
                                            refine xv (x_iconst 245 d_X8_order__244 rfl) ?_
                                            refine xv (x_iadd 246 d_X8_order__245 rfl) ?_
                                            refine xv (x_iconst 247 d_X8_order__246 rfl) ?_
                                            refine xv (x_iastore 248 d_X8_order__247 rfl (m_s1 (by omega) (by omega))) ?_
                                            show Xv E q_m_X8_order_ 248 [Value.ref am, Value.int (zi d), Value.int (zi a), Value.int (zi b), Value.int (zi c), Value.int (zi 3), Value.int (zi ((M 1) 4))] [] (q_mw h am (uM (uM (uM (uA (uA M2 1 (M 1)) 4 (u1 (u1 (u1 (M 4) 0 a) 1 b) 2 c)) 1 ((320 + 8 * ((M 1) 4)) + 0) d) 1 ((320 + 8 * ((M 1) 4)) + 1) 3) 1 ((320 + 8 * ((M 1) 4)) + 2) 0)) Q
                                            refine xv (x_aload_n 249 d_X8_order__248 rfl rfl) ?_
                                            refine xv (x_getfield 252 d_X8_order__249 rfl f_8_9 (Nat.le_of_ble_eq_true rfl) (Nat.le_of_ble_eq_true rfl) (q_gf_of m_o rfl)) ?_
                                            refine xv (x_iload 254 d_X8_order__252 rfl rfl) ?_
                                            refine xv (x_ins1 257 (as := [Value.int (zi ((M 1) 4))]) d_X8_order__254 rfl c_8_106 rfl (Nat.le_of_ble_eq_true rfl) (Nat.le_of_ble_eq_true rfl) (Nat.le_of_ble_eq_true rfl) rfl (S_X8_order (E := E) (h := h) (am := am) (M := (uM (uM (uM (uA (uA M2 1 (M 1)) 4 (u1 (u1 (u1 (M 4) 0 a) 1 b) 2 c)) 1 ((320 + 8 * ((M 1) 4)) + 0) d) 1 ((320 + 8 * ((M 1) 4)) + 1) 3) 1 ((320 + 8 * ((M 1) 4)) + 2) 0)))) ?_
                                            show Xv E q_m_X8_order_ 257 [Value.ref am, Value.int (zi d), Value.int (zi a), Value.int (zi b), Value.int (zi c), Value.int (zi 3), Value.int (zi ((M 1) 4))] [Value.int (zi (320 + 8 * ((M 1) 4))), Value.ref (am + 1)] (q_mw h am (uM (uM (uM (uA (uA M2 1 (M 1)) 4 (u1 (u1 (u1 (M 4) 0 a) 1 b) 2 c)) 1 ((320 + 8 * ((M 1) 4)) + 0) d) 1 ((320 + 8 * ((M 1) 4)) + 1) 3) 1 ((320 + 8 * ((M 1) 4)) + 2) 0)) Q
                                            refine xv (x_iconst 258 d_X8_order__257 rfl) ?_
                                            refine xv (x_iadd 259 d_X8_order__258 rfl) ?_
                                            refine xv (x_iconst 260 d_X8_order__259 rfl) ?_
                                            refine xv (x_iastore 261 d_X8_order__260 rfl (m_s1 (by omega) (by omega))) ?_
                                            show Xv E q_m_X8_order_ 261 [Value.ref am, Value.int (zi d), Value.int (zi a), Value.int (zi b), Value.int (zi c), Value.int (zi 3), Value.int (zi ((M 1) 4))] [] (q_mw h am (uM (uM (uM (uM (uA (uA M2 1 (M 1)) 4 (u1 (u1 (u1 (M 4) 0 a) 1 b) 2 c)) 1 ((320 + 8 * ((M 1) 4)) + 0) d) 1 ((320 + 8 * ((M 1) 4)) + 1) 3) 1 ((320 + 8 * ((M 1) 4)) + 2) 0) 1 ((320 + 8 * ((M 1) 4)) + 3) (-1))) Q
                                            refine xv (x_aload_n 262 d_X8_order__261 rfl rfl) ?_
                                            refine xv (x_getfield 265 d_X8_order__262 rfl f_8_9 (Nat.le_of_ble_eq_true rfl) (Nat.le_of_ble_eq_true rfl) (q_gf_of m_o rfl)) ?_
                                            refine xv (x_iload 267 d_X8_order__265 rfl rfl) ?_
                                            refine xv (x_ins1 270 (as := [Value.int (zi ((M 1) 4))]) d_X8_order__267 rfl c_8_106 rfl (Nat.le_of_ble_eq_true rfl) (Nat.le_of_ble_eq_true rfl) (Nat.le_of_ble_eq_true rfl) rfl (S_X8_order (E := E) (h := h) (am := am) (M := (uM (uM (uM (uM (uA (uA M2 1 (M 1)) 4 (u1 (u1 (u1 (M 4) 0 a) 1 b) 2 c)) 1 ((320 + 8 * ((M 1) 4)) + 0) d) 1 ((320 + 8 * ((M 1) 4)) + 1) 3) 1 ((320 + 8 * ((M 1) 4)) + 2) 0) 1 ((320 + 8 * ((M 1) 4)) + 3) (-1))))) ?_
                                            show Xv E q_m_X8_order_ 270 [Value.ref am, Value.int (zi d), Value.int (zi a), Value.int (zi b), Value.int (zi c), Value.int (zi 3), Value.int (zi ((M 1) 4))] [Value.int (zi (320 + 8 * ((M 1) 4))), Value.ref (am + 1)] (q_mw h am (uM (uM (uM (uM (uA (uA M2 1 (M 1)) 4 (u1 (u1 (u1 (M 4) 0 a) 1 b) 2 c)) 1 ((320 + 8 * ((M 1) 4)) + 0) d) 1 ((320 + 8 * ((M 1) 4)) + 1) 3) 1 ((320 + 8 * ((M 1) 4)) + 2) 0) 1 ((320 + 8 * ((M 1) 4)) + 3) (-1))) Q
                                            refine xv (x_iconst 271 d_X8_order__270 rfl) ?_
                                            refine xv (x_iadd 272 d_X8_order__271 rfl) ?_
                                            refine xv (x_iconst 273 d_X8_order__272 rfl) ?_
                                            refine xv (x_iastore 274 d_X8_order__273 rfl (m_s1 (by omega) (by omega))) ?_
                                            show Xv E q_m_X8_order_ 274 [Value.ref am, Value.int (zi d), Value.int (zi a), Value.int (zi b), Value.int (zi c), Value.int (zi 3), Value.int (zi ((M 1) 4))] [] (q_mw h am (uM (uM (uM (uM (uM (uA (uA M2 1 (M 1)) 4 (u1 (u1 (u1 (M 4) 0 a) 1 b) 2 c)) 1 ((320 + 8 * ((M 1) 4)) + 0) d) 1 ((320 + 8 * ((M 1) 4)) + 1) 3) 1 ((320 + 8 * ((M 1) 4)) + 2) 0) 1 ((320 + 8 * ((M 1) 4)) + 3) (-1)) 1 ((320 + 8 * ((M 1) 4)) + 4) (-1))) Q
                                            refine xv (x_aload_n 275 d_X8_order__274 rfl rfl) ?_
                                            refine xv (x_getfield 278 d_X8_order__275 rfl f_8_19 (Nat.le_of_ble_eq_true rfl) (Nat.le_of_ble_eq_true rfl) (q_gf_of m_o rfl)) ?_
                                            refine xv (x_iconst 279 d_X8_order__278 rfl) ?_
                                            refine xv (x_aload_n 280 d_X8_order__279 rfl rfl) ?_
                                            refine xv (x_getfield 283 d_X8_order__280 rfl f_8_9 (Nat.le_of_ble_eq_true rfl) (Nat.le_of_ble_eq_true rfl) (q_gf_of m_o rfl)) ?_
                                            refine xv (x_iload 285 d_X8_order__283 rfl rfl) ?_
                                            refine xv (x_ins1 288 (as := [Value.int (zi ((M 1) 4))]) d_X8_order__285 rfl c_8_106 rfl (Nat.le_of_ble_eq_true rfl) (Nat.le_of_ble_eq_true rfl) (Nat.le_of_ble_eq_true rfl) rfl (S_X8_order (E := E) (h := h) (am := am) (M := (uM (uM (uM (uM (uM (uA (uA M2 1 (M 1)) 4 (u1 (u1 (u1 (M 4) 0 a) 1 b) 2 c)) 1 ((320 + 8 * ((M 1) 4)) + 0) d) 1 ((320 + 8 * ((M 1) 4)) + 1) 3) 1 ((320 + 8 * ((M 1) 4)) + 2) 0) 1 ((320 + 8 * ((M 1) 4)) + 3) (-1)) 1 ((320 + 8 * ((M 1) 4)) + 4) (-1))))) ?_
                                            show Xv E q_m_X8_order_ 288 [Value.ref am, Value.int (zi d), Value.int (zi a), Value.int (zi b), Value.int (zi c), Value.int (zi 3), Value.int (zi ((M 1) 4))] [Value.int (zi (320 + 8 * ((M 1) 4))), Value.ref (am + 1), Value.int (zi 0), Value.ref (am + 4)] (q_mw h am (uM (uM (uM (uM (uM (uA (uA M2 1 (M 1)) 4 (u1 (u1 (u1 (M 4) 0 a) 1 b) 2 c)) 1 ((320 + 8 * ((M 1) 4)) + 0) d) 1 ((320 + 8 * ((M 1) 4)) + 1) 3) 1 ((320 + 8 * ((M 1) 4)) + 2) 0) 1 ((320 + 8 * ((M 1) 4)) + 3) (-1)) 1 ((320 + 8 * ((M 1) 4)) + 4) (-1))) Q
                                            refine xv (x_iconst 289 d_X8_order__288 rfl) ?_
                                            refine xv (x_iadd 290 d_X8_order__289 rfl) ?_
                                            refine xv (x_iconst 291 d_X8_order__290 rfl) ?_
                                            refine xv (x_copy 294 d_X8_order__291 rfl rfl rfl (Nat.le_of_ble_eq_true rfl) (Nat.le_of_ble_eq_true rfl) (Nat.le_of_ble_eq_true rfl) (m_cpy 4 1 m_a4 m_a1 m_w1 (by omega) (by omega) (by omega) (by omega) (by omega) (by decide) (by decide))) ?_
                                            show Xv E q_m_X8_order_ 294 [Value.ref am, Value.int (zi d), Value.int (zi a), Value.int (zi b), Value.int (zi c), Value.int (zi 3), Value.int (zi ((M 1) 4))] [] (q_mw h am (uA (uM (uM (uM (uM (uM (uA (uA M2 1 (M 1)) 4 (u1 (u1 (u1 (M 4) 0 a) 1 b) 2 c)) 1 ((320 + 8 * ((M 1) 4)) + 0) d) 1 ((320 + 8 * ((M 1) 4)) + 1) 3) 1 ((320 + 8 * ((M 1) 4)) + 2) 0) 1 ((320 + 8 * ((M 1) 4)) + 3) (-1)) 1 ((320 + 8 * ((M 1) 4)) + 4) (-1)) 1 (cpI (u1 (u1 (u1 (M 4) 0 a) 1 b) 2 c) (u1 (u1 (u1 (u1 (u1 (M 1) ((320 + 8 * ((M 1) 4)) + 0) d) ((320 + 8 * ((M 1) 4)) + 1) 3) ((320 + 8 * ((M 1) 4)) + 2) 0) ((320 + 8 * ((M 1) 4)) + 3) (-1)) ((320 + 8 * ((M 1) 4)) + 4) (-1)) 0 ((320 + 8 * ((M 1) 4)) + 5) 3))) Q
                                            refine xv (x_aload_n 295 d_X8_order__294 rfl rfl) ?_
                                            refine xv (x_getfield 298 d_X8_order__295 rfl f_8_9 (Nat.le_of_ble_eq_true rfl) (Nat.le_of_ble_eq_true rfl) (q_gf_of m_o rfl)) ?_
                                            refine xv (x_iconst 299 d_X8_order__298 rfl) ?_
                                            refine xv (x_dup2 300 d_X8_order__299 rfl rfl rfl) ?_
                                            refine xv (x_iaload 301 d_X8_order__300 rfl ((m_g1 (by omega) (by omega)).trans (rfl : _ = some (Value.int (zi ((cpI (u1 (u1 (u1 (M 4) 0 a) 1 b) 2 c) (u1 (u1 (u1 (u1 (u1 (M 1) ((320 + 8 * ((M 1) 4)) + 0) d) ((320 + 8 * ((M 1) 4)) + 1) 3) ((320 + 8 * ((M 1) 4)) + 2) 0) ((320 + 8 * ((M 1) 4)) + 3) (-1)) ((320 + 8 * ((M 1) 4)) + 4) (-1)) 0 ((320 + 8 * ((M 1) 4)) + 5) 3) 4)))))) ?_
                                            refine xv (x_iconst 302 d_X8_order__301 rfl) ?_
                                            refine xv (x_iadd 303 d_X8_order__302 rfl) ?_
                                            refine xv (x_iastore 304 d_X8_order__303 rfl (m_s1 (by omega) (by omega))) ?_
                                            show Xv E q_m_X8_order_ 304 [Value.ref am, Value.int (zi d), Value.int (zi a), Value.int (zi b), Value.int (zi c), Value.int (zi 3), Value.int (zi ((M 1) 4))] [] (q_mw h am (uM (uA (uM (uM (uM (uM (uM (uA (uA M2 1 (M 1)) 4 (u1 (u1 (u1 (M 4) 0 a) 1 b) 2 c)) 1 ((320 + 8 * ((M 1) 4)) + 0) d) 1 ((320 + 8 * ((M 1) 4)) + 1) 3) 1 ((320 + 8 * ((M 1) 4)) + 2) 0) 1 ((320 + 8 * ((M 1) 4)) + 3) (-1)) 1 ((320 + 8 * ((M 1) 4)) + 4) (-1)) 1 (cpI (u1 (u1 (u1 (M 4) 0 a) 1 b) 2 c) (u1 (u1 (u1 (u1 (u1 (M 1) ((320 + 8 * ((M 1) 4)) + 0) d) ((320 + 8 * ((M 1) 4)) + 1) 3) ((320 + 8 * ((M 1) 4)) + 2) 0) ((320 + 8 * ((M 1) 4)) + 3) (-1)) ((320 + 8 * ((M 1) 4)) + 4) (-1)) 0 ((320 + 8 * ((M 1) 4)) + 5) 3)) 1 4 (((cpI (u1 (u1 (u1 (M 4) 0 a) 1 b) 2 c) (u1 (u1 (u1 (u1 (u1 (M 1) ((320 + 8 * ((M 1) 4)) + 0) d) ((320 + 8 * ((M 1) 4)) + 1) 3) ((320 + 8 * ((M 1) 4)) + 2) 0) ((320 + 8 * ((M 1) 4)) + 3) (-1)) ((320 + 8 * ((M 1) 4)) + 4) (-1)) 0 ((320 + 8 * ((M 1) 4)) + 5) 3) 4) + 1))) Q
                                            refine xv (x_iload 306 d_X8_order__304 rfl rfl) ?_
                                            refine xv_r (x_ireturn d_X8_order__306 rfl rfl) ?_
                                            have er : mOrd (M 1) d a b c = (0, 0) := by first | (exfalso; omega) | (unfold mOrd; repeat (first | rw [if_pos (by omega)] | rw [if_neg (by omega)]))
                                            have ec : cntO b c = 3 := by first | (exfalso; omega) | (unfold cntO; repeat (first | rw [if_pos (by omega)] | rw [if_neg (by omega)]))
                                            refine hQ _ _ ?_
                                            unfold mMu2
                                            rw [er, if_pos rfl, ec]
                                            refine ⟨rfl, ?_⟩
                                            unfold lnO
                                            rw [hM2, ← eM]
                                            simp only [uM_uA, uA_uA, uA_eq]
                                            rfl
                                          · omega
                                        · refine xv (x_aload_n 177 d_X8_order__176 rfl rfl) ?_
                                          refine xv (x_bipush 179 d_X8_order__177 rfl rfl) ?_
                                          refine xv (x_aload_n 180 d_X8_order__179 rfl rfl) ?_
                                          refine xv (x_getfield 183 d_X8_order__180 rfl f_8_19 (Nat.le_of_ble_eq_true rfl) (Nat.le_of_ble_eq_true rfl) (q_gf_of m_o rfl)) ?_
                                          refine xv (x_iload 185 d_X8_order__183 rfl rfl) ?_
                                          refine xv (x_iaload 186 d_X8_order__185 rfl ((m_g4 (by omega) (by omega)).trans (rfl : _ = some (Value.int (zi c))))) ?_
                                          obtain ⟨r186, h186, e186, z186, y186⟩ := S_X8_refuse (E := E) (h := h) (am := am) (M := (uM (uM (uM (uM M 0 5 0) 4 0 a) 4 1 b) 4 2 c)) (y := 12) (z := c) 
                                          subst z186
                                          subst y186
                                          refine xv (x_inv1 189 (as := [Value.int (zi 12), Value.int (zi c)]) d_X8_order__186 rfl c_8_90 rfl (Nat.le_of_ble_eq_true rfl) (Nat.le_of_ble_eq_true rfl) m_o (Nat.le_of_ble_eq_true rfl) (Nat.le_of_ble_eq_true rfl) rfl e186) ?_
                                          show Xv E q_m_X8_order_ 189 [Value.ref am, Value.int (zi d), Value.int (zi a), Value.int (zi b), Value.int (zi c), Value.int (zi 3), Value.int (zi ((0 + 1) + 1))] [Value.int (zi 0)] (q_mw h am (uM (uM (uM (uM (uM (uM (uM M 0 5 0) 4 0 a) 4 1 b) 4 2 c) 0 5 1) 0 6 12) 0 7 c)) Q
                                          refine xv_r (x_ireturn d_X8_order__189 rfl rfl) ?_
                                          have er : mOrd (M 1) d a b c = (12, c) := by first | (exfalso; omega) | (unfold mOrd; repeat (first | rw [if_pos (by omega)] | rw [if_neg (by omega)]))
                                          refine hQ _ _ ?_
                                          unfold mMu2
                                          rw [er]
                                          exact ⟨rfl, rfl⟩
                                    · refine xv (x_aload_n 177 d_X8_order__176 rfl rfl) ?_
                                      refine xv (x_bipush 179 d_X8_order__177 rfl rfl) ?_
                                      refine xv (x_aload_n 180 d_X8_order__179 rfl rfl) ?_
                                      refine xv (x_getfield 183 d_X8_order__180 rfl f_8_19 (Nat.le_of_ble_eq_true rfl) (Nat.le_of_ble_eq_true rfl) (q_gf_of m_o rfl)) ?_
                                      refine xv (x_iload 185 d_X8_order__183 rfl rfl) ?_
                                      refine xv (x_iaload 186 d_X8_order__185 rfl ((m_g4 (by omega) (by omega)).trans (rfl : _ = some (Value.int (zi b))))) ?_
                                      obtain ⟨r186, h186, e186, z186, y186⟩ := S_X8_refuse (E := E) (h := h) (am := am) (M := (uM (uM (uM (uM M 0 5 0) 4 0 a) 4 1 b) 4 2 c)) (y := 12) (z := b) 
                                      subst z186
                                      subst y186
                                      refine xv (x_inv1 189 (as := [Value.int (zi 12), Value.int (zi b)]) d_X8_order__186 rfl c_8_90 rfl (Nat.le_of_ble_eq_true rfl) (Nat.le_of_ble_eq_true rfl) m_o (Nat.le_of_ble_eq_true rfl) (Nat.le_of_ble_eq_true rfl) rfl e186) ?_
                                      show Xv E q_m_X8_order_ 189 [Value.ref am, Value.int (zi d), Value.int (zi a), Value.int (zi b), Value.int (zi c), Value.int (zi 3), Value.int (zi (0 + 1))] [Value.int (zi 0)] (q_mw h am (uM (uM (uM (uM (uM (uM (uM M 0 5 0) 4 0 a) 4 1 b) 4 2 c) 0 5 1) 0 6 12) 0 7 b)) Q
                                      refine xv_r (x_ireturn d_X8_order__189 rfl rfl) ?_
                                      have er : mOrd (M 1) d a b c = (12, b) := by first | (exfalso; omega) | (unfold mOrd; repeat (first | rw [if_pos (by omega)] | rw [if_neg (by omega)]))
                                      refine hQ _ _ ?_
                                      unfold mMu2
                                      rw [er]
                                      exact ⟨rfl, rfl⟩
                                · refine xv (x_aload_n 177 d_X8_order__176 rfl rfl) ?_
                                  refine xv (x_bipush 179 d_X8_order__177 rfl rfl) ?_
                                  refine xv (x_aload_n 180 d_X8_order__179 rfl rfl) ?_
                                  refine xv (x_getfield 183 d_X8_order__180 rfl f_8_19 (Nat.le_of_ble_eq_true rfl) (Nat.le_of_ble_eq_true rfl) (q_gf_of m_o rfl)) ?_
                                  refine xv (x_iload 185 d_X8_order__183 rfl rfl) ?_
                                  refine xv (x_iaload 186 d_X8_order__185 rfl ((m_g4 (by omega) (by omega)).trans (rfl : _ = some (Value.int (zi a))))) ?_
                                  obtain ⟨r186, h186, e186, z186, y186⟩ := S_X8_refuse (E := E) (h := h) (am := am) (M := (uM (uM (uM (uM M 0 5 0) 4 0 a) 4 1 b) 4 2 c)) (y := 12) (z := a) 
                                  subst z186
                                  subst y186
                                  refine xv (x_inv1 189 (as := [Value.int (zi 12), Value.int (zi a)]) d_X8_order__186 rfl c_8_90 rfl (Nat.le_of_ble_eq_true rfl) (Nat.le_of_ble_eq_true rfl) m_o (Nat.le_of_ble_eq_true rfl) (Nat.le_of_ble_eq_true rfl) rfl e186) ?_
                                  show Xv E q_m_X8_order_ 189 [Value.ref am, Value.int (zi d), Value.int (zi a), Value.int (zi b), Value.int (zi c), Value.int (zi 3), Value.int (zi 0)] [Value.int (zi 0)] (q_mw h am (uM (uM (uM (uM (uM (uM (uM M 0 5 0) 4 0 a) 4 1 b) 4 2 c) 0 5 1) 0 6 12) 0 7 a)) Q
                                  refine xv_r (x_ireturn d_X8_order__189 rfl rfl) ?_
                                  have er : mOrd (M 1) d a b c = (12, a) := by first | (exfalso; omega) | (unfold mOrd; repeat (first | rw [if_pos (by omega)] | rw [if_neg (by omega)]))
                                  refine hQ _ _ ?_
                                  unfold mMu2
                                  rw [er]
                                  exact ⟨rfl, rfl⟩
                            · refine xv (x_aload_n 142 d_X8_order__141 rfl rfl) ?_
                              refine xv (x_iconst 143 d_X8_order__142 rfl) ?_
                              refine xv (x_iconst 144 d_X8_order__143 rfl) ?_
                              obtain ⟨r144, h144, e144, z144, y144⟩ := S_X8_refuse (E := E) (h := h) (am := am) (M := (uM (uM (uM (uM M 0 5 0) 4 0 a) 4 1 b) 4 2 c)) (y := 3) (z := 0) 
                              subst z144
                              subst y144
                              refine xv (x_inv1 147 (as := [Value.int (zi 3), Value.int (zi 0)]) d_X8_order__144 rfl c_8_90 rfl (Nat.le_of_ble_eq_true rfl) (Nat.le_of_ble_eq_true rfl) m_o (Nat.le_of_ble_eq_true rfl) (Nat.le_of_ble_eq_true rfl) rfl e144) ?_
                              show Xv E q_m_X8_order_ 147 [Value.ref am, Value.int (zi d), Value.int (zi a), Value.int (zi b), Value.int (zi c), Value.int (zi 3), Value.int (zi (((0 + 1) + 1) + 1))] [Value.int (zi 0)] (q_mw h am (uM (uM (uM (uM (uM (uM (uM M 0 5 0) 4 0 a) 4 1 b) 4 2 c) 0 5 1) 0 6 3) 0 7 0)) Q
                              refine xv_r (x_ireturn d_X8_order__147 rfl rfl) ?_
                              have er : mOrd (M 1) d a b c = (3, 0) := by first | (exfalso; omega) | (unfold mOrd; repeat (first | rw [if_pos (by omega)] | rw [if_neg (by omega)]))
                              refine hQ _ _ ?_
                              unfold mMu2
                              rw [er]
                              exact ⟨rfl, rfl⟩
                          · refine xv (x_iload 119 d_X8_order__117 rfl rfl) ?_
                            refine xv (x_iconst 120 d_X8_order__119 rfl) ?_
                            refine v_icmp_eq 130 123 d_X8_order__120 rfl rfl (by omega) (by omega) (by omega) (by omega) (fun k120 => ?_) (fun k120 => ?_)
                            · refine xv (x_aload_n 131 d_X8_order__130 rfl rfl) ?_
                              refine xv (x_getfield 134 d_X8_order__131 rfl f_8_9 (Nat.le_of_ble_eq_true rfl) (Nat.le_of_ble_eq_true rfl) (q_gf_of m_o rfl)) ?_
                              refine xv (x_iconst 135 d_X8_order__134 rfl) ?_
                              refine xv (x_iaload 136 d_X8_order__135 rfl ((m_g1 (by omega) (by omega)).trans (rfl : _ = some (Value.int (zi ((M 1) 4)))))) ?_
                              have q_16 : -1000000 ≤ (M 1) 4 ∧ (M 1) 4 ≤ 1000000 := hr _
                              refine xv (x_bipush 138 d_X8_order__136 rfl rfl) ?_
                              refine v_icmp_ne 148 141 d_X8_order__138 rfl rfl (by omega) (by omega) (by omega) (by omega) (fun k138 => ?_) (fun k138 => ?_)
                              · refine xv (x_iconst 149 d_X8_order__148 rfl) ?_
                                refine xv (x_istore 151 d_X8_order__149 rfl (Nat.le_of_ble_eq_true rfl)) ?_
                                show Xv E q_m_X8_order_ 151 [Value.ref am, Value.int (zi d), Value.int (zi a), Value.int (zi b), Value.int (zi c), Value.int (zi 3), Value.int (zi 0)] [] (q_mw h am (uM (uM (uM (uM M 0 5 0) 4 0 a) 4 1 b) 4 2 c)) Q
                                refine xv (x_iload 153 d_X8_order__151 rfl rfl) ?_
                                refine xv (x_iload 155 d_X8_order__153 rfl rfl) ?_
                                refine v_icmp_ge 196 158 d_X8_order__155 rfl rfl (by omega) (by omega) (by omega) (by omega) (fun k155 => ?_) (fun k155 => ?_)
                                · omega
                                · refine xv (x_aload_n 159 d_X8_order__158 rfl rfl) ?_
                                  refine xv (x_getfield 162 d_X8_order__159 rfl f_8_9 (Nat.le_of_ble_eq_true rfl) (Nat.le_of_ble_eq_true rfl) (q_gf_of m_o rfl)) ?_
                                  refine xv (x_bipush 164 d_X8_order__162 rfl rfl) ?_
                                  refine xv (x_aload_n 165 d_X8_order__164 rfl rfl) ?_
                                  refine xv (x_getfield 168 d_X8_order__165 rfl f_8_19 (Nat.le_of_ble_eq_true rfl) (Nat.le_of_ble_eq_true rfl) (q_gf_of m_o rfl)) ?_
                                  refine xv (x_iload 170 d_X8_order__168 rfl rfl) ?_
                                  refine xv (x_iaload 171 d_X8_order__170 rfl ((m_g4 (by omega) (by omega)).trans (rfl : _ = some (Value.int (zi a))))) ?_
                                  refine xv (x_iadd 172 d_X8_order__171 rfl) ?_
                                  refine xv (x_iaload 173 d_X8_order__172 rfl ((m_g1 (by omega) (by omega)).trans (rfl : _ = some (Value.int (zi ((M 1) (8 + a))))))) ?_
                                  have q_17 : -1000000 ≤ (M 1) (8 + a) ∧ (M 1) (8 + a) ≤ 1000000 := hr _
                                  refine v_if_eq 190 176 d_X8_order__173 rfl rfl (by omega) (by omega) (fun k173 => ?_) (fun k173 => ?_)
                                  · refine xv (x_iinc 193 d_X8_order__190 rfl rfl) ?_
                                    show Xv E q_m_X8_order_ 193 [Value.ref am, Value.int (zi d), Value.int (zi a), Value.int (zi b), Value.int (zi c), Value.int (zi 3), Value.int (zi (0 + 1))] [] (q_mw h am (uM (uM (uM (uM M 0 5 0) 4 0 a) 4 1 b) 4 2 c)) Q
                                    refine xv (x_goto 151 d_X8_order__193 rfl) ?_
                                    refine xv (x_iload 153 d_X8_order__151 rfl rfl) ?_
                                    refine xv (x_iload 155 d_X8_order__153 rfl rfl) ?_
                                    refine v_icmp_ge 196 158 d_X8_order__155 rfl rfl (by omega) (by omega) (by omega) (by omega) (fun k155 => ?_) (fun k155 => ?_)
                                    · omega
                                    · refine xv (x_aload_n 159 d_X8_order__158 rfl rfl) ?_
                                      refine xv (x_getfield 162 d_X8_order__159 rfl f_8_9 (Nat.le_of_ble_eq_true rfl) (Nat.le_of_ble_eq_true rfl) (q_gf_of m_o rfl)) ?_
                                      refine xv (x_bipush 164 d_X8_order__162 rfl rfl) ?_
                                      refine xv (x_aload_n 165 d_X8_order__164 rfl rfl) ?_
                                      refine xv (x_getfield 168 d_X8_order__165 rfl f_8_19 (Nat.le_of_ble_eq_true rfl) (Nat.le_of_ble_eq_true rfl) (q_gf_of m_o rfl)) ?_
                                      refine xv (x_iload 170 d_X8_order__168 rfl rfl) ?_
                                      refine xv (x_iaload 171 d_X8_order__170 rfl ((m_g4 (by omega) (by omega)).trans (rfl : _ = some (Value.int (zi b))))) ?_
                                      refine xv (x_iadd 172 d_X8_order__171 rfl) ?_
                                      refine xv (x_iaload 173 d_X8_order__172 rfl ((m_g1 (by omega) (by omega)).trans (rfl : _ = some (Value.int (zi ((M 1) (8 + b))))))) ?_
                                      have q_18 : -1000000 ≤ (M 1) (8 + b) ∧ (M 1) (8 + b) ≤ 1000000 := hr _
                                      refine v_if_eq 190 176 d_X8_order__173 rfl rfl (by omega) (by omega) (fun k173 => ?_) (fun k173 => ?_)
                                      · refine xv (x_iinc 193 d_X8_order__190 rfl rfl) ?_
                                        show Xv E q_m_X8_order_ 193 [Value.ref am, Value.int (zi d), Value.int (zi a), Value.int (zi b), Value.int (zi c), Value.int (zi 3), Value.int (zi ((0 + 1) + 1))] [] (q_mw h am (uM (uM (uM (uM M 0 5 0) 4 0 a) 4 1 b) 4 2 c)) Q
                                        refine xv (x_goto 151 d_X8_order__193 rfl) ?_
                                        refine xv (x_iload 153 d_X8_order__151 rfl rfl) ?_
                                        refine xv (x_iload 155 d_X8_order__153 rfl rfl) ?_
                                        refine v_icmp_ge 196 158 d_X8_order__155 rfl rfl (by omega) (by omega) (by omega) (by omega) (fun k155 => ?_) (fun k155 => ?_)
                                        · omega
                                        · refine xv (x_aload_n 159 d_X8_order__158 rfl rfl) ?_
                                          refine xv (x_getfield 162 d_X8_order__159 rfl f_8_9 (Nat.le_of_ble_eq_true rfl) (Nat.le_of_ble_eq_true rfl) (q_gf_of m_o rfl)) ?_
                                          refine xv (x_bipush 164 d_X8_order__162 rfl rfl) ?_
                                          refine xv (x_aload_n 165 d_X8_order__164 rfl rfl) ?_
                                          refine xv (x_getfield 168 d_X8_order__165 rfl f_8_19 (Nat.le_of_ble_eq_true rfl) (Nat.le_of_ble_eq_true rfl) (q_gf_of m_o rfl)) ?_
                                          refine xv (x_iload 170 d_X8_order__168 rfl rfl) ?_
                                          refine xv (x_iaload 171 d_X8_order__170 rfl ((m_g4 (by omega) (by omega)).trans (rfl : _ = some (Value.int (zi c))))) ?_
                                          refine xv (x_iadd 172 d_X8_order__171 rfl) ?_
                                          refine xv (x_iaload 173 d_X8_order__172 rfl ((m_g1 (by omega) (by omega)).trans (rfl : _ = some (Value.int (zi ((M 1) (8 + c))))))) ?_
                                          have q_19 : -1000000 ≤ (M 1) (8 + c) ∧ (M 1) (8 + c) ≤ 1000000 := hr _
                                          refine v_if_eq 190 176 d_X8_order__173 rfl rfl (by omega) (by omega) (fun k173 => ?_) (fun k173 => ?_)
                                          · refine xv (x_iinc 193 d_X8_order__190 rfl rfl) ?_
                                            show Xv E q_m_X8_order_ 193 [Value.ref am, Value.int (zi d), Value.int (zi a), Value.int (zi b), Value.int (zi c), Value.int (zi 3), Value.int (zi (((0 + 1) + 1) + 1))] [] (q_mw h am (uM (uM (uM (uM M 0 5 0) 4 0 a) 4 1 b) 4 2 c)) Q
                                            refine xv (x_goto 151 d_X8_order__193 rfl) ?_
                                            refine xv (x_iload 153 d_X8_order__151 rfl rfl) ?_
                                            refine xv (x_iload 155 d_X8_order__153 rfl rfl) ?_
                                            refine v_icmp_ge 196 158 d_X8_order__155 rfl rfl (by omega) (by omega) (by omega) (by omega) (fun k155 => ?_) (fun k155 => ?_)
                                            · refine xv (x_aload_n 197 d_X8_order__196 rfl rfl) ?_
                                              obtain ⟨r197, h197, e197, z197, y197⟩ := S_X8_change (E := E) (h := h) (am := am) (M := (uM (uM (uM (uM M 0 5 0) 4 0 a) 4 1 b) 4 2 c)) hc
                                              subst z197
                                              subst y197
                                              refine xv (x_inv0 200 (as := []) d_X8_order__197 rfl c_8_100 rfl (Nat.le_of_ble_eq_true rfl) (Nat.le_of_ble_eq_true rfl) m_o (Nat.le_of_ble_eq_true rfl) (Nat.le_of_ble_eq_true rfl) rfl e197) ?_
                                              generalize hM2 : mch (uM (uM (uM (uM M 0 5 0) 4 0 a) 4 1 b) 4 2 c) = M2
                                              have e2 : M2 1 = M 1 := by rw [← hM2]; exact mch_1
                                              have e4 : M2 4 = (u1 (u1 (u1 (M 4) 0 a) 1 b) 2 c) := by rw [← hM2]; exact mch_s (by decide) (by decide)
                                              have eM : M2 = uA (uA M2 1 (M 1)) 4 (u1 (u1 (u1 (M 4) 0 a) 1 b) 2 c) := by rw [← e2, uA_self, ← e4, uA_self]
                                              rw [eM]
                                              show Xv E q_m_X8_order_ 200 [Value.ref am, Value.int (zi d), Value.int (zi a), Value.int (zi b), Value.int (zi c), Value.int (zi 3), Value.int (zi (((0 + 1) + 1) + 1))] [] (q_mw h am (uA (uA M2 1 (M 1)) 4 (u1 (u1 (u1 (M 4) 0 a) 1 b) 2 c))) Q
                                              refine xv (x_aload_n 201 d_X8_order__200 rfl rfl) ?_
                                              refine xv (x_getfield 204 d_X8_order__201 rfl f_8_9 (Nat.le_of_ble_eq_true rfl) (Nat.le_of_ble_eq_true rfl) (q_gf_of m_o rfl)) ?_
                                              refine xv (x_iconst 205 d_X8_order__204 rfl) ?_
                                              refine xv (x_iaload 206 d_X8_order__205 rfl ((m_g1 (by omega) (by omega)).trans (rfl : _ = some (Value.int (zi ((M 1) 4)))))) ?_
                                              have q_20 : -1000000 ≤ (M 1) 4 ∧ (M 1) 4 ≤ 1000000 := hr _
                                              refine xv (x_istore 208 d_X8_order__206 rfl (Nat.le_of_ble_eq_true rfl)) ?_
                                              show Xv E q_m_X8_order_ 208 [Value.ref am, Value.int (zi d), Value.int (zi a), Value.int (zi b), Value.int (zi c), Value.int (zi 3), Value.int (zi ((M 1) 4))] [] (q_mw h am (uA (uA M2 1 (M 1)) 4 (u1 (u1 (u1 (M 4) 0 a) 1 b) 2 c))) Q
                                              refine xv (x_aload_n 209 d_X8_order__208 rfl rfl) ?_
                                              refine xv (x_getfield 212 d_X8_order__209 rfl f_8_9 (Nat.le_of_ble_eq_true rfl) (Nat.le_of_ble_eq_true rfl) (q_gf_of m_o rfl)) ?_
                                              refine xv (x_iload 214 d_X8_order__212 rfl rfl) ?_
                                              refine xv (x_ins1 217 (as := [Value.int (zi ((M 1) 4))]) d_X8_order__214 rfl c_8_106 rfl (Nat.le_of_ble_eq_true rfl) (Nat.le_of_ble_eq_true rfl) (Nat.le_of_ble_eq_true rfl) rfl (S_X8_order (E := E) (h := h) (am := am) (M := (uA (uA M2 1 (M 1)) 4 (u1 (u1 (u1 (M 4) 0 a) 1 b) 2 c))))) ?_
                                              show Xv E q_m_X8_order_ 217 [Value.ref am, Value.int (zi d), Value.int (zi a), Value.int (zi b), Value.int (zi c), Value.int (zi 3), Value.int (zi ((M 1) 4))] [Value.int (zi (320 + 8 * ((M 1) 4))), Value.ref (am + 1)] (q_mw h am (uA (uA M2 1 (M 1)) 4 (u1 (u1 (u1 (M 4) 0 a) 1 b) 2 c))) Q
                                              refine xv (x_iconst 218 d_X8_order__217 rfl) ?_
                                              refine xv (x_iadd 219 d_X8_order__218 rfl) ?_
                                              refine xv (x_iload_n 220 d_X8_order__219 rfl rfl) ?_
                                              refine xv (x_iastore 221 d_X8_order__220 rfl (m_s1 (by omega) (by omega))) ?_
                                              show Xv E q_m_X8_order_ 221 [Value.ref am, Value.int (zi d), Value.int (zi a), Value.int (zi b), Value.int (zi c), Value.int (zi 3), Value.int (zi ((M 1) 4))] [] (q_mw h am (uM (uA (uA M2 1 (M 1)) 4 (u1 (u1 (u1 (M 4) 0 a) 1 b) 2 c)) 1 ((320 + 8 * ((M 1) 4)) + 0) d)) Q
                                              refine xv (x_aload_n 222 d_X8_order__221 rfl rfl) ?_
                                              refine xv (x_getfield 225 d_X8_order__222 rfl f_8_9 (Nat.le_of_ble_eq_true rfl) (Nat.le_of_ble_eq_true rfl) (q_gf_of m_o rfl)) ?_
                                              refine xv (x_iload 227 d_X8_order__225 rfl rfl) ?_
                                              refine xv (x_ins1 230 (as := [Value.int (zi ((M 1) 4))]) d_X8_order__227 rfl c_8_106 rfl (Nat.le_of_ble_eq_true rfl) (Nat.le_of_ble_eq_true rfl) (Nat.le_of_ble_eq_true rfl) rfl (S_X8_order (E := E) (h := h) (am := am) (M := (uM (uA (uA M2 1 (M 1)) 4 (u1 (u1 (u1 (M 4) 0 a) 1 b) 2 c)) 1 ((320 + 8 * ((M 1) 4)) + 0) d)))) ?_
                                              show Xv E q_m_X8_order_ 230 [Value.ref am, Value.int (zi d), Value.int (zi a), Value.int (zi b), Value.int (zi c), Value.int (zi 3), Value.int (zi ((M 1) 4))] [Value.int (zi (320 + 8 * ((M 1) 4))), Value.ref (am + 1)] (q_mw h am (uM (uA (uA M2 1 (M 1)) 4 (u1 (u1 (u1 (M 4) 0 a) 1 b) 2 c)) 1 ((320 + 8 * ((M 1) 4)) + 0) d)) Q
                                              refine xv (x_iconst 231 d_X8_order__230 rfl) ?_
                                              refine xv (x_iadd 232 d_X8_order__231 rfl) ?_
                                              refine xv (x_iload 234 d_X8_order__232 rfl rfl) ?_
                                              refine xv (x_iastore 235 d_X8_order__234 rfl (m_s1 (by omega) (by omega))) ?_
                                              show Xv E q_m_X8_order_ 235 [Value.ref am, Value.int (zi d), Value.int (zi a), Value.int (zi b), Value.int (zi c), Value.int (zi 3), Value.int (zi ((M 1) 4))] [] (q_mw h am (uM (uM (uA (uA M2 1 (M 1)) 4 (u1 (u1 (u1 (M 4) 0 a) 1 b) 2 c)) 1 ((320 + 8 * ((M 1) 4)) + 0) d) 1 ((320 + 8 * ((M 1) 4)) + 1) 3)) Q
                                              refine xv (x_aload_n 236 d_X8_order__235 rfl rfl) ?_
                                              refine xv (x_getfield 239 d_X8_order__236 rfl f_8_9 (Nat.le_of_ble_eq_true rfl) (Nat.le_of_ble_eq_true rfl) (q_gf_of m_o rfl)) ?_
                                              refine xv (x_iload 241 d_X8_order__239 rfl rfl) ?_
                                              refine xv (x_ins1 244 (as := [Value.int (zi ((M 1) 4))]) d_X8_order__241 rfl c_8_106 rfl (Nat.le_of_ble_eq_true rfl) (Nat.le_of_ble_eq_true rfl) (Nat.le_of_ble_eq_true rfl) rfl (S_X8_order (E := E) (h := h) (am := am) (M := (uM (uM (uA (uA M2 1 (M 1)) 4 (u1 (u1 (u1 (M 4) 0 a) 1 b) 2 c)) 1 ((320 + 8 * ((M 1) 4)) + 0) d) 1 ((320 + 8 * ((M 1) 4)) + 1) 3)))) ?_
                                              show Xv E q_m_X8_order_ 244 [Value.ref am, Value.int (zi d), Value.int (zi a), Value.int (zi b), Value.int (zi c), Value.int (zi 3), Value.int (zi ((M 1) 4))] [Value.int (zi (320 + 8 * ((M 1) 4))), Value.ref (am + 1)] (q_mw h am (uM (uM (uA (uA M2 1 (M 1)) 4 (u1 (u1 (u1 (M 4) 0 a) 1 b) 2 c)) 1 ((320 + 8 * ((M 1) 4)) + 0) d) 1 ((320 + 8 * ((M 1) 4)) + 1) 3)) Q
                                              refine xv (x_iconst 245 d_X8_order__244 rfl) ?_
                                              refine xv (x_iadd 246 d_X8_order__245 rfl) ?_
                                              refine xv (x_iconst 247 d_X8_order__246 rfl) ?_
                                              refine xv (x_iastore 248 d_X8_order__247 rfl (m_s1 (by omega) (by omega))) ?_
                                              show Xv E q_m_X8_order_ 248 [Value.ref am, Value.int (zi d), Value.int (zi a), Value.int (zi b), Value.int (zi c), Value.int (zi 3), Value.int (zi ((M 1) 4))] [] (q_mw h am (uM (uM (uM (uA (uA M2 1 (M 1)) 4 (u1 (u1 (u1 (M 4) 0 a) 1 b) 2 c)) 1 ((320 + 8 * ((M 1) 4)) + 0) d) 1 ((320 + 8 * ((M 1) 4)) + 1) 3) 1 ((320 + 8 * ((M 1) 4)) + 2) 0)) Q
                                              refine xv (x_aload_n 249 d_X8_order__248 rfl rfl) ?_
                                              refine xv (x_getfield 252 d_X8_order__249 rfl f_8_9 (Nat.le_of_ble_eq_true rfl) (Nat.le_of_ble_eq_true rfl) (q_gf_of m_o rfl)) ?_
                                              refine xv (x_iload 254 d_X8_order__252 rfl rfl) ?_
                                              refine xv (x_ins1 257 (as := [Value.int (zi ((M 1) 4))]) d_X8_order__254 rfl c_8_106 rfl (Nat.le_of_ble_eq_true rfl) (Nat.le_of_ble_eq_true rfl) (Nat.le_of_ble_eq_true rfl) rfl (S_X8_order (E := E) (h := h) (am := am) (M := (uM (uM (uM (uA (uA M2 1 (M 1)) 4 (u1 (u1 (u1 (M 4) 0 a) 1 b) 2 c)) 1 ((320 + 8 * ((M 1) 4)) + 0) d) 1 ((320 + 8 * ((M 1) 4)) + 1) 3) 1 ((320 + 8 * ((M 1) 4)) + 2) 0)))) ?_
                                              show Xv E q_m_X8_order_ 257 [Value.ref am, Value.int (zi d), Value.int (zi a), Value.int (zi b), Value.int (zi c), Value.int (zi 3), Value.int (zi ((M 1) 4))] [Value.int (zi (320 + 8 * ((M 1) 4))), Value.ref (am + 1)] (q_mw h am (uM (uM (uM (uA (uA M2 1 (M 1)) 4 (u1 (u1 (u1 (M 4) 0 a) 1 b) 2 c)) 1 ((320 + 8 * ((M 1) 4)) + 0) d) 1 ((320 + 8 * ((M 1) 4)) + 1) 3) 1 ((320 + 8 * ((M 1) 4)) + 2) 0)) Q
                                              refine xv (x_iconst 258 d_X8_order__257 rfl) ?_
                                              refine xv (x_iadd 259 d_X8_order__258 rfl) ?_
                                              refine xv (x_iconst 260 d_X8_order__259 rfl) ?_
                                              refine xv (x_iastore 261 d_X8_order__260 rfl (m_s1 (by omega) (by omega))) ?_
                                              show Xv E q_m_X8_order_ 261 [Value.ref am, Value.int (zi d), Value.int (zi a), Value.int (zi b), Value.int (zi c), Value.int (zi 3), Value.int (zi ((M 1) 4))] [] (q_mw h am (uM (uM (uM (uM (uA (uA M2 1 (M 1)) 4 (u1 (u1 (u1 (M 4) 0 a) 1 b) 2 c)) 1 ((320 + 8 * ((M 1) 4)) + 0) d) 1 ((320 + 8 * ((M 1) 4)) + 1) 3) 1 ((320 + 8 * ((M 1) 4)) + 2) 0) 1 ((320 + 8 * ((M 1) 4)) + 3) (-1))) Q
                                              refine xv (x_aload_n 262 d_X8_order__261 rfl rfl) ?_
                                              refine xv (x_getfield 265 d_X8_order__262 rfl f_8_9 (Nat.le_of_ble_eq_true rfl) (Nat.le_of_ble_eq_true rfl) (q_gf_of m_o rfl)) ?_
                                              refine xv (x_iload 267 d_X8_order__265 rfl rfl) ?_
                                              refine xv (x_ins1 270 (as := [Value.int (zi ((M 1) 4))]) d_X8_order__267 rfl c_8_106 rfl (Nat.le_of_ble_eq_true rfl) (Nat.le_of_ble_eq_true rfl) (Nat.le_of_ble_eq_true rfl) rfl (S_X8_order (E := E) (h := h) (am := am) (M := (uM (uM (uM (uM (uA (uA M2 1 (M 1)) 4 (u1 (u1 (u1 (M 4) 0 a) 1 b) 2 c)) 1 ((320 + 8 * ((M 1) 4)) + 0) d) 1 ((320 + 8 * ((M 1) 4)) + 1) 3) 1 ((320 + 8 * ((M 1) 4)) + 2) 0) 1 ((320 + 8 * ((M 1) 4)) + 3) (-1))))) ?_
                                              show Xv E q_m_X8_order_ 270 [Value.ref am, Value.int (zi d), Value.int (zi a), Value.int (zi b), Value.int (zi c), Value.int (zi 3), Value.int (zi ((M 1) 4))] [Value.int (zi (320 + 8 * ((M 1) 4))), Value.ref (am + 1)] (q_mw h am (uM (uM (uM (uM (uA (uA M2 1 (M 1)) 4 (u1 (u1 (u1 (M 4) 0 a) 1 b) 2 c)) 1 ((320 + 8 * ((M 1) 4)) + 0) d) 1 ((320 + 8 * ((M 1) 4)) + 1) 3) 1 ((320 + 8 * ((M 1) 4)) + 2) 0) 1 ((320 + 8 * ((M 1) 4)) + 3) (-1))) Q
                                              refine xv (x_iconst 271 d_X8_order__270 rfl) ?_
                                              refine xv (x_iadd 272 d_X8_order__271 rfl) ?_
                                              refine xv (x_iconst 273 d_X8_order__272 rfl) ?_
                                              refine xv (x_iastore 274 d_X8_order__273 rfl (m_s1 (by omega) (by omega))) ?_
                                              show Xv E q_m_X8_order_ 274 [Value.ref am, Value.int (zi d), Value.int (zi a), Value.int (zi b), Value.int (zi c), Value.int (zi 3), Value.int (zi ((M 1) 4))] [] (q_mw h am (uM (uM (uM (uM (uM (uA (uA M2 1 (M 1)) 4 (u1 (u1 (u1 (M 4) 0 a) 1 b) 2 c)) 1 ((320 + 8 * ((M 1) 4)) + 0) d) 1 ((320 + 8 * ((M 1) 4)) + 1) 3) 1 ((320 + 8 * ((M 1) 4)) + 2) 0) 1 ((320 + 8 * ((M 1) 4)) + 3) (-1)) 1 ((320 + 8 * ((M 1) 4)) + 4) (-1))) Q
                                              refine xv (x_aload_n 275 d_X8_order__274 rfl rfl) ?_
                                              refine xv (x_getfield 278 d_X8_order__275 rfl f_8_19 (Nat.le_of_ble_eq_true rfl) (Nat.le_of_ble_eq_true rfl) (q_gf_of m_o rfl)) ?_
                                              refine xv (x_iconst 279 d_X8_order__278 rfl) ?_
                                              refine xv (x_aload_n 280 d_X8_order__279 rfl rfl) ?_
                                              refine xv (x_getfield 283 d_X8_order__280 rfl f_8_9 (Nat.le_of_ble_eq_true rfl) (Nat.le_of_ble_eq_true rfl) (q_gf_of m_o rfl)) ?_
                                              refine xv (x_iload 285 d_X8_order__283 rfl rfl) ?_
                                              refine xv (x_ins1 288 (as := [Value.int (zi ((M 1) 4))]) d_X8_order__285 rfl c_8_106 rfl (Nat.le_of_ble_eq_true rfl) (Nat.le_of_ble_eq_true rfl) (Nat.le_of_ble_eq_true rfl) rfl (S_X8_order (E := E) (h := h) (am := am) (M := (uM (uM (uM (uM (uM (uA (uA M2 1 (M 1)) 4 (u1 (u1 (u1 (M 4) 0 a) 1 b) 2 c)) 1 ((320 + 8 * ((M 1) 4)) + 0) d) 1 ((320 + 8 * ((M 1) 4)) + 1) 3) 1 ((320 + 8 * ((M 1) 4)) + 2) 0) 1 ((320 + 8 * ((M 1) 4)) + 3) (-1)) 1 ((320 + 8 * ((M 1) 4)) + 4) (-1))))) ?_
                                              show Xv E q_m_X8_order_ 288 [Value.ref am, Value.int (zi d), Value.int (zi a), Value.int (zi b), Value.int (zi c), Value.int (zi 3), Value.int (zi ((M 1) 4))] [Value.int (zi (320 + 8 * ((M 1) 4))), Value.ref (am + 1), Value.int (zi 0), Value.ref (am + 4)] (q_mw h am (uM (uM (uM (uM (uM (uA (uA M2 1 (M 1)) 4 (u1 (u1 (u1 (M 4) 0 a) 1 b) 2 c)) 1 ((320 + 8 * ((M 1) 4)) + 0) d) 1 ((320 + 8 * ((M 1) 4)) + 1) 3) 1 ((320 + 8 * ((M 1) 4)) + 2) 0) 1 ((320 + 8 * ((M 1) 4)) + 3) (-1)) 1 ((320 + 8 * ((M 1) 4)) + 4) (-1))) Q
                                              refine xv (x_iconst 289 d_X8_order__288 rfl) ?_
                                              refine xv (x_iadd 290 d_X8_order__289 rfl) ?_
                                              refine xv (x_iconst 291 d_X8_order__290 rfl) ?_
                                              refine xv (x_copy 294 d_X8_order__291 rfl rfl rfl (Nat.le_of_ble_eq_true rfl) (Nat.le_of_ble_eq_true rfl) (Nat.le_of_ble_eq_true rfl) (m_cpy 4 1 m_a4 m_a1 m_w1 (by omega) (by omega) (by omega) (by omega) (by omega) (by decide) (by decide))) ?_
                                              show Xv E q_m_X8_order_ 294 [Value.ref am, Value.int (zi d), Value.int (zi a), Value.int (zi b), Value.int (zi c), Value.int (zi 3), Value.int (zi ((M 1) 4))] [] (q_mw h am (uA (uM (uM (uM (uM (uM (uA (uA M2 1 (M 1)) 4 (u1 (u1 (u1 (M 4) 0 a) 1 b) 2 c)) 1 ((320 + 8 * ((M 1) 4)) + 0) d) 1 ((320 + 8 * ((M 1) 4)) + 1) 3) 1 ((320 + 8 * ((M 1) 4)) + 2) 0) 1 ((320 + 8 * ((M 1) 4)) + 3) (-1)) 1 ((320 + 8 * ((M 1) 4)) + 4) (-1)) 1 (cpI (u1 (u1 (u1 (M 4) 0 a) 1 b) 2 c) (u1 (u1 (u1 (u1 (u1 (M 1) ((320 + 8 * ((M 1) 4)) + 0) d) ((320 + 8 * ((M 1) 4)) + 1) 3) ((320 + 8 * ((M 1) 4)) + 2) 0) ((320 + 8 * ((M 1) 4)) + 3) (-1)) ((320 + 8 * ((M 1) 4)) + 4) (-1)) 0 ((320 + 8 * ((M 1) 4)) + 5) 3))) Q
                                              refine xv (x_aload_n 295 d_X8_order__294 rfl rfl) ?_
                                              refine xv (x_getfield 298 d_X8_order__295 rfl f_8_9 (Nat.le_of_ble_eq_true rfl) (Nat.le_of_ble_eq_true rfl) (q_gf_of m_o rfl)) ?_
                                              refine xv (x_iconst 299 d_X8_order__298 rfl) ?_
                                              refine xv (x_dup2 300 d_X8_order__299 rfl rfl rfl) ?_
                                              refine xv (x_iaload 301 d_X8_order__300 rfl ((m_g1 (by omega) (by omega)).trans (rfl : _ = some (Value.int (zi ((cpI (u1 (u1 (u1 (M 4) 0 a) 1 b) 2 c) (u1 (u1 (u1 (u1 (u1 (M 1) ((320 + 8 * ((M 1) 4)) + 0) d) ((320 + 8 * ((M 1) 4)) + 1) 3) ((320 + 8 * ((M 1) 4)) + 2) 0) ((320 + 8 * ((M 1) 4)) + 3) (-1)) ((320 + 8 * ((M 1) 4)) + 4) (-1)) 0 ((320 + 8 * ((M 1) 4)) + 5) 3) 4)))))) ?_
                                              refine xv (x_iconst 302 d_X8_order__301 rfl) ?_
                                              refine xv (x_iadd 303 d_X8_order__302 rfl) ?_
                                              refine xv (x_iastore 304 d_X8_order__303 rfl (m_s1 (by omega) (by omega))) ?_
                                              show Xv E q_m_X8_order_ 304 [Value.ref am, Value.int (zi d), Value.int (zi a), Value.int (zi b), Value.int (zi c), Value.int (zi 3), Value.int (zi ((M 1) 4))] [] (q_mw h am (uM (uA (uM (uM (uM (uM (uM (uA (uA M2 1 (M 1)) 4 (u1 (u1 (u1 (M 4) 0 a) 1 b) 2 c)) 1 ((320 + 8 * ((M 1) 4)) + 0) d) 1 ((320 + 8 * ((M 1) 4)) + 1) 3) 1 ((320 + 8 * ((M 1) 4)) + 2) 0) 1 ((320 + 8 * ((M 1) 4)) + 3) (-1)) 1 ((320 + 8 * ((M 1) 4)) + 4) (-1)) 1 (cpI (u1 (u1 (u1 (M 4) 0 a) 1 b) 2 c) (u1 (u1 (u1 (u1 (u1 (M 1) ((320 + 8 * ((M 1) 4)) + 0) d) ((320 + 8 * ((M 1) 4)) + 1) 3) ((320 + 8 * ((M 1) 4)) + 2) 0) ((320 + 8 * ((M 1) 4)) + 3) (-1)) ((320 + 8 * ((M 1) 4)) + 4) (-1)) 0 ((320 + 8 * ((M 1) 4)) + 5) 3)) 1 4 (((cpI (u1 (u1 (u1 (M 4) 0 a) 1 b) 2 c) (u1 (u1 (u1 (u1 (u1 (M 1) ((320 + 8 * ((M 1) 4)) + 0) d) ((320 + 8 * ((M 1) 4)) + 1) 3) ((320 + 8 * ((M 1) 4)) + 2) 0) ((320 + 8 * ((M 1) 4)) + 3) (-1)) ((320 + 8 * ((M 1) 4)) + 4) (-1)) 0 ((320 + 8 * ((M 1) 4)) + 5) 3) 4) + 1))) Q
                                              refine xv (x_iload 306 d_X8_order__304 rfl rfl) ?_
                                              refine xv_r (x_ireturn d_X8_order__306 rfl rfl) ?_
                                              have er : mOrd (M 1) d a b c = (0, 0) := by first | (exfalso; omega) | (unfold mOrd; repeat (first | rw [if_pos (by omega)] | rw [if_neg (by omega)]))
                                              have ec : cntO b c = 3 := by first | (exfalso; omega) | (unfold cntO; repeat (first | rw [if_pos (by omega)] | rw [if_neg (by omega)]))
                                              refine hQ _ _ ?_
                                              unfold mMu2
                                              rw [er, if_pos rfl, ec]
                                              refine ⟨rfl, ?_⟩
                                              unfold lnO
                                              rw [hM2, ← eM]
                                              simp only [uM_uA, uA_uA, uA_eq]
                                              rfl
                                            · omega
                                          · refine xv (x_aload_n 177 d_X8_order__176 rfl rfl) ?_
                                            refine xv (x_bipush 179 d_X8_order__177 rfl rfl) ?_
                                            refine xv (x_aload_n 180 d_X8_order__179 rfl rfl) ?_
                                            refine xv (x_getfield 183 d_X8_order__180 rfl f_8_19 (Nat.le_of_ble_eq_true rfl) (Nat.le_of_ble_eq_true rfl) (q_gf_of m_o rfl)) ?_
                                            refine xv (x_iload 185 d_X8_order__183 rfl rfl) ?_
                                            refine xv (x_iaload 186 d_X8_order__185 rfl ((m_g4 (by omega) (by omega)).trans (rfl : _ = some (Value.int (zi c))))) ?_
                                            obtain ⟨r186, h186, e186, z186, y186⟩ := S_X8_refuse (E := E) (h := h) (am := am) (M := (uM (uM (uM (uM M 0 5 0) 4 0 a) 4 1 b) 4 2 c)) (y := 12) (z := c) 
                                            subst z186
                                            subst y186
                                            refine xv (x_inv1 189 (as := [Value.int (zi 12), Value.int (zi c)]) d_X8_order__186 rfl c_8_90 rfl (Nat.le_of_ble_eq_true rfl) (Nat.le_of_ble_eq_true rfl) m_o (Nat.le_of_ble_eq_true rfl) (Nat.le_of_ble_eq_true rfl) rfl e186) ?_
                                            show Xv E q_m_X8_order_ 189 [Value.ref am, Value.int (zi d), Value.int (zi a), Value.int (zi b), Value.int (zi c), Value.int (zi 3), Value.int (zi ((0 + 1) + 1))] [Value.int (zi 0)] (q_mw h am (uM (uM (uM (uM (uM (uM (uM M 0 5 0) 4 0 a) 4 1 b) 4 2 c) 0 5 1) 0 6 12) 0 7 c)) Q
                                            refine xv_r (x_ireturn d_X8_order__189 rfl rfl) ?_
                                            have er : mOrd (M 1) d a b c = (12, c) := by first | (exfalso; omega) | (unfold mOrd; repeat (first | rw [if_pos (by omega)] | rw [if_neg (by omega)]))
                                            refine hQ _ _ ?_
                                            unfold mMu2
                                            rw [er]
                                            exact ⟨rfl, rfl⟩
                                      · refine xv (x_aload_n 177 d_X8_order__176 rfl rfl) ?_
                                        refine xv (x_bipush 179 d_X8_order__177 rfl rfl) ?_
                                        refine xv (x_aload_n 180 d_X8_order__179 rfl rfl) ?_
                                        refine xv (x_getfield 183 d_X8_order__180 rfl f_8_19 (Nat.le_of_ble_eq_true rfl) (Nat.le_of_ble_eq_true rfl) (q_gf_of m_o rfl)) ?_
                                        refine xv (x_iload 185 d_X8_order__183 rfl rfl) ?_
                                        refine xv (x_iaload 186 d_X8_order__185 rfl ((m_g4 (by omega) (by omega)).trans (rfl : _ = some (Value.int (zi b))))) ?_
                                        obtain ⟨r186, h186, e186, z186, y186⟩ := S_X8_refuse (E := E) (h := h) (am := am) (M := (uM (uM (uM (uM M 0 5 0) 4 0 a) 4 1 b) 4 2 c)) (y := 12) (z := b) 
                                        subst z186
                                        subst y186
                                        refine xv (x_inv1 189 (as := [Value.int (zi 12), Value.int (zi b)]) d_X8_order__186 rfl c_8_90 rfl (Nat.le_of_ble_eq_true rfl) (Nat.le_of_ble_eq_true rfl) m_o (Nat.le_of_ble_eq_true rfl) (Nat.le_of_ble_eq_true rfl) rfl e186) ?_
                                        show Xv E q_m_X8_order_ 189 [Value.ref am, Value.int (zi d), Value.int (zi a), Value.int (zi b), Value.int (zi c), Value.int (zi 3), Value.int (zi (0 + 1))] [Value.int (zi 0)] (q_mw h am (uM (uM (uM (uM (uM (uM (uM M 0 5 0) 4 0 a) 4 1 b) 4 2 c) 0 5 1) 0 6 12) 0 7 b)) Q
                                        refine xv_r (x_ireturn d_X8_order__189 rfl rfl) ?_
                                        have er : mOrd (M 1) d a b c = (12, b) := by first | (exfalso; omega) | (unfold mOrd; repeat (first | rw [if_pos (by omega)] | rw [if_neg (by omega)]))
                                        refine hQ _ _ ?_
                                        unfold mMu2
                                        rw [er]
                                        exact ⟨rfl, rfl⟩
                                  · refine xv (x_aload_n 177 d_X8_order__176 rfl rfl) ?_
                                    refine xv (x_bipush 179 d_X8_order__177 rfl rfl) ?_
                                    refine xv (x_aload_n 180 d_X8_order__179 rfl rfl) ?_
                                    refine xv (x_getfield 183 d_X8_order__180 rfl f_8_19 (Nat.le_of_ble_eq_true rfl) (Nat.le_of_ble_eq_true rfl) (q_gf_of m_o rfl)) ?_
                                    refine xv (x_iload 185 d_X8_order__183 rfl rfl) ?_
                                    refine xv (x_iaload 186 d_X8_order__185 rfl ((m_g4 (by omega) (by omega)).trans (rfl : _ = some (Value.int (zi a))))) ?_
                                    obtain ⟨r186, h186, e186, z186, y186⟩ := S_X8_refuse (E := E) (h := h) (am := am) (M := (uM (uM (uM (uM M 0 5 0) 4 0 a) 4 1 b) 4 2 c)) (y := 12) (z := a) 
                                    subst z186
                                    subst y186
                                    refine xv (x_inv1 189 (as := [Value.int (zi 12), Value.int (zi a)]) d_X8_order__186 rfl c_8_90 rfl (Nat.le_of_ble_eq_true rfl) (Nat.le_of_ble_eq_true rfl) m_o (Nat.le_of_ble_eq_true rfl) (Nat.le_of_ble_eq_true rfl) rfl e186) ?_
                                    show Xv E q_m_X8_order_ 189 [Value.ref am, Value.int (zi d), Value.int (zi a), Value.int (zi b), Value.int (zi c), Value.int (zi 3), Value.int (zi 0)] [Value.int (zi 0)] (q_mw h am (uM (uM (uM (uM (uM (uM (uM M 0 5 0) 4 0 a) 4 1 b) 4 2 c) 0 5 1) 0 6 12) 0 7 a)) Q
                                    refine xv_r (x_ireturn d_X8_order__189 rfl rfl) ?_
                                    have er : mOrd (M 1) d a b c = (12, a) := by first | (exfalso; omega) | (unfold mOrd; repeat (first | rw [if_pos (by omega)] | rw [if_neg (by omega)]))
                                    refine hQ _ _ ?_
                                    unfold mMu2
                                    rw [er]
                                    exact ⟨rfl, rfl⟩
                              · refine xv (x_aload_n 142 d_X8_order__141 rfl rfl) ?_
                                refine xv (x_iconst 143 d_X8_order__142 rfl) ?_
                                refine xv (x_iconst 144 d_X8_order__143 rfl) ?_
                                obtain ⟨r144, h144, e144, z144, y144⟩ := S_X8_refuse (E := E) (h := h) (am := am) (M := (uM (uM (uM (uM M 0 5 0) 4 0 a) 4 1 b) 4 2 c)) (y := 3) (z := 0) 
                                subst z144
                                subst y144
                                refine xv (x_inv1 147 (as := [Value.int (zi 3), Value.int (zi 0)]) d_X8_order__144 rfl c_8_90 rfl (Nat.le_of_ble_eq_true rfl) (Nat.le_of_ble_eq_true rfl) m_o (Nat.le_of_ble_eq_true rfl) (Nat.le_of_ble_eq_true rfl) rfl e144) ?_
                                show Xv E q_m_X8_order_ 147 [Value.ref am, Value.int (zi d), Value.int (zi a), Value.int (zi b), Value.int (zi c), Value.int (zi 3), Value.int (zi (((0 + 1) + 1) + 1))] [Value.int (zi 0)] (q_mw h am (uM (uM (uM (uM (uM (uM (uM M 0 5 0) 4 0 a) 4 1 b) 4 2 c) 0 5 1) 0 6 3) 0 7 0)) Q
                                refine xv_r (x_ireturn d_X8_order__147 rfl rfl) ?_
                                have er : mOrd (M 1) d a b c = (3, 0) := by first | (exfalso; omega) | (unfold mOrd; repeat (first | rw [if_pos (by omega)] | rw [if_neg (by omega)]))
                                refine hQ _ _ ?_
                                unfold mMu2
                                rw [er]
                                exact ⟨rfl, rfl⟩
                            · refine xv (x_aload_n 124 d_X8_order__123 rfl rfl) ?_
                              refine xv (x_iconst 125 d_X8_order__124 rfl) ?_
                              refine xv (x_iconst 126 d_X8_order__125 rfl) ?_
                              obtain ⟨r126, h126, e126, z126, y126⟩ := S_X8_refuse (E := E) (h := h) (am := am) (M := (uM (uM (uM (uM M 0 5 0) 4 0 a) 4 1 b) 4 2 c)) (y := 2) (z := 0) 
                              subst z126
                              subst y126
                              refine xv (x_inv1 129 (as := [Value.int (zi 2), Value.int (zi 0)]) d_X8_order__126 rfl c_8_90 rfl (Nat.le_of_ble_eq_true rfl) (Nat.le_of_ble_eq_true rfl) m_o (Nat.le_of_ble_eq_true rfl) (Nat.le_of_ble_eq_true rfl) rfl e126) ?_
                              show Xv E q_m_X8_order_ 129 [Value.ref am, Value.int (zi d), Value.int (zi a), Value.int (zi b), Value.int (zi c), Value.int (zi 3), Value.int (zi (((0 + 1) + 1) + 1))] [Value.int (zi 0)] (q_mw h am (uM (uM (uM (uM (uM (uM (uM M 0 5 0) 4 0 a) 4 1 b) 4 2 c) 0 5 1) 0 6 2) 0 7 0)) Q
                              refine xv_r (x_ireturn d_X8_order__129 rfl rfl) ?_
                              have er : mOrd (M 1) d a b c = (2, 0) := by first | (exfalso; omega) | (unfold mOrd; repeat (first | rw [if_pos (by omega)] | rw [if_neg (by omega)]))
                              refine hQ _ _ ?_
                              unfold mMu2
                              rw [er]
                              exact ⟨rfl, rfl⟩
                      · omega
                    · refine xv (x_aload_n 89 d_X8_order__88 rfl rfl) ?_
                      refine xv (x_iconst 90 d_X8_order__89 rfl) ?_
                      refine xv (x_iconst 91 d_X8_order__90 rfl) ?_
                      obtain ⟨r91, h91, e91, z91, y91⟩ := S_X8_refuse (E := E) (h := h) (am := am) (M := (uM (uM (uM (uM M 0 5 0) 4 0 a) 4 1 b) 4 2 c)) (y := 1) (z := 0) 
                      subst z91
                      subst y91
                      refine xv (x_inv1 94 (as := [Value.int (zi 1), Value.int (zi 0)]) d_X8_order__91 rfl c_8_90 rfl (Nat.le_of_ble_eq_true rfl) (Nat.le_of_ble_eq_true rfl) m_o (Nat.le_of_ble_eq_true rfl) (Nat.le_of_ble_eq_true rfl) rfl e91) ?_
                      show Xv E q_m_X8_order_ 94 [Value.ref am, Value.int (zi d), Value.int (zi a), Value.int (zi b), Value.int (zi c), Value.int (zi 3), Value.int (zi ((0 + 1) + 1))] [Value.int (zi 0)] (q_mw h am (uM (uM (uM (uM (uM (uM (uM M 0 5 0) 4 0 a) 4 1 b) 4 2 c) 0 5 1) 0 6 1) 0 7 0)) Q
                      refine xv_r (x_ireturn d_X8_order__94 rfl rfl) ?_
                      have er : mOrd (M 1) d a b c = (1, 0) := by first | (exfalso; omega) | (unfold mOrd; repeat (first | rw [if_pos (by omega)] | rw [if_neg (by omega)]))
                      refine hQ _ _ ?_
                      unfold mMu2
                      rw [er]
                      exact ⟨rfl, rfl⟩
            · replace k69 := bI_0.mp k69
              refine xv (x_iload 74 d_X8_order__72 rfl rfl) ?_
              refine v_if_eq 88 77 d_X8_order__74 rfl rfl (by omega) (by omega) (fun k74 => ?_) (fun k74 => ?_)
              · omega
              · refine xv (x_aload_n 78 d_X8_order__77 rfl rfl) ?_
                refine xv (x_getfield 81 d_X8_order__78 rfl f_8_19 (Nat.le_of_ble_eq_true rfl) (Nat.le_of_ble_eq_true rfl) (q_gf_of m_o rfl)) ?_
                refine xv (x_iload 83 d_X8_order__81 rfl rfl) ?_
                refine xv (x_iaload 84 d_X8_order__83 rfl ((m_g4 (by omega) (by omega)).trans (rfl : _ = some (Value.int (zi b))))) ?_
                refine xv (x_iconst 85 d_X8_order__84 rfl) ?_
                refine v_icmp_eq 95 88 d_X8_order__85 rfl rfl (by omega) (by omega) (by omega) (by omega) (fun k85 => ?_) (fun k85 => ?_)
                · refine xv (x_iinc 98 d_X8_order__95 rfl rfl) ?_
                  show Xv E q_m_X8_order_ 98 [Value.ref am, Value.int (zi d), Value.int (zi a), Value.int (zi b), Value.int (zi c), Value.int (zi 3), Value.int (zi ((0 + 1) + 1))] [] (q_mw h am (uM (uM (uM (uM M 0 5 0) 4 0 a) 4 1 b) 4 2 c)) Q
                  refine xv (x_goto 52 d_X8_order__98 rfl) ?_
                  refine xv (x_iload 54 d_X8_order__52 rfl rfl) ?_
                  refine xv (x_iconst 55 d_X8_order__54 rfl) ?_
                  refine v_icmp_ge 101 58 d_X8_order__55 rfl rfl (by omega) (by omega) (by omega) (by omega) (fun k55 => ?_) (fun k55 => ?_)
                  · omega
                  · refine xv (x_aload_n 59 d_X8_order__58 rfl rfl) ?_
                    refine xv (x_aload_n 60 d_X8_order__59 rfl rfl) ?_
                    refine xv (x_getfield 63 d_X8_order__60 rfl f_8_19 (Nat.le_of_ble_eq_true rfl) (Nat.le_of_ble_eq_true rfl) (q_gf_of m_o rfl)) ?_
                    refine xv (x_iload 65 d_X8_order__63 rfl rfl) ?_
                    refine xv (x_iaload 66 d_X8_order__65 rfl ((m_g4 (by omega) (by omega)).trans (rfl : _ = some (Value.int (zi c))))) ?_
                    refine xv (x_inv1 69 (as := [Value.int (zi c)]) d_X8_order__66 rfl c_8_86 rfl (Nat.le_of_ble_eq_true rfl) (Nat.le_of_ble_eq_true rfl) m_o (Nat.le_of_ble_eq_true rfl) (Nat.le_of_ble_eq_true rfl) rfl (S_X8_isCell (E := E) (h := h) (am := am) (M := (uM (uM (uM (uM M 0 5 0) 4 0 a) 4 1 b) 4 2 c)) hR (by first | omega | (rw [show (uM (uM (uM (uM M 0 5 0) 4 0 a) 4 1 b) 4 2 c) 1 = (M 1) from rfl]; omega)) (by first | omega | (rw [show (uM (uM (uM (uM M 0 5 0) 4 0 a) 4 1 b) 4 2 c) 1 = (M 1) from rfl]; omega)))) ?_
                    show Xv E q_m_X8_order_ 69 [Value.ref am, Value.int (zi d), Value.int (zi a), Value.int (zi b), Value.int (zi c), Value.int (zi 3), Value.int (zi ((0 + 1) + 1))] [Value.int (zi (bI (isC (M 1) c)))] (q_mw h am (uM (uM (uM (uM M 0 5 0) 4 0 a) 4 1 b) 4 2 c)) Q
                    refine v_if_ne 95 72 d_X8_order__69 rfl rfl (by have := bI_r (isC (M 1) c); omega) (by have := bI_r (isC (M 1) c); omega) (fun k69 => ?_) (fun k69 => ?_)
                    · replace k69 := bI_n0.mp k69
                      refine xv (x_iinc 98 d_X8_order__95 rfl rfl) ?_
                      show Xv E q_m_X8_order_ 98 [Value.ref am, Value.int (zi d), Value.int (zi a), Value.int (zi b), Value.int (zi c), Value.int (zi 3), Value.int (zi (((0 + 1) + 1) + 1))] [] (q_mw h am (uM (uM (uM (uM M 0 5 0) 4 0 a) 4 1 b) 4 2 c)) Q
                      refine xv (x_goto 52 d_X8_order__98 rfl) ?_
                      refine xv (x_iload 54 d_X8_order__52 rfl rfl) ?_
                      refine xv (x_iconst 55 d_X8_order__54 rfl) ?_
                      refine v_icmp_ge 101 58 d_X8_order__55 rfl rfl (by omega) (by omega) (by omega) (by omega) (fun k55 => ?_) (fun k55 => ?_)
                      · refine xv (x_iload_n 102 d_X8_order__101 rfl rfl) ?_
                        refine xv (x_iconst 103 d_X8_order__102 rfl) ?_
                        refine xv (x_sipush 106 d_X8_order__103 rfl rfl) ?_
                        refine xv (x_ins1 109 (as := [Value.int (zi d), Value.int (zi 0), Value.int (zi 999)]) d_X8_order__106 rfl c_8_71 rfl (Nat.le_of_ble_eq_true rfl) (Nat.le_of_ble_eq_true rfl) (Nat.le_of_ble_eq_true rfl) rfl (S_X8_in (E := E) (h := h) (am := am) (M := (uM (uM (uM (uM M 0 5 0) 4 0 a) 4 1 b) 4 2 c)) (by first | omega | (rw [show (uM (uM (uM (uM M 0 5 0) 4 0 a) 4 1 b) 4 2 c) 1 = (M 1) from rfl]; omega)) (by first | omega | (rw [show (uM (uM (uM (uM M 0 5 0) 4 0 a) 4 1 b) 4 2 c) 1 = (M 1) from rfl]; omega)) (by first | omega | (rw [show (uM (uM (uM (uM M 0 5 0) 4 0 a) 4 1 b) 4 2 c) 1 = (M 1) from rfl]; omega)) (by first | omega | (rw [show (uM (uM (uM (uM M 0 5 0) 4 0 a) 4 1 b) 4 2 c) 1 = (M 1) from rfl]; omega)) (by first | omega | (rw [show (uM (uM (uM (uM M 0 5 0) 4 0 a) 4 1 b) 4 2 c) 1 = (M 1) from rfl]; omega)) (by first | omega | (rw [show (uM (uM (uM (uM M 0 5 0) 4 0 a) 4 1 b) 4 2 c) 1 = (M 1) from rfl]; omega)))) ?_
                        show Xv E q_m_X8_order_ 109 [Value.ref am, Value.int (zi d), Value.int (zi a), Value.int (zi b), Value.int (zi c), Value.int (zi 3), Value.int (zi (((0 + 1) + 1) + 1))] [Value.int (zi (bI (inn d 0 999)))] (q_mw h am (uM (uM (uM (uM M 0 5 0) 4 0 a) 4 1 b) 4 2 c)) Q
                        refine v_if_eq 123 112 d_X8_order__109 rfl rfl (by have := bI_r (inn d 0 999); omega) (by have := bI_r (inn d 0 999); omega) (fun k109 => ?_) (fun k109 => ?_)
                        · replace k109 := bI_0.mp k109
                          refine xv (x_aload_n 124 d_X8_order__123 rfl rfl) ?_
                          refine xv (x_iconst 125 d_X8_order__124 rfl) ?_
                          refine xv (x_iconst 126 d_X8_order__125 rfl) ?_
                          obtain ⟨r126, h126, e126, z126, y126⟩ := S_X8_refuse (E := E) (h := h) (am := am) (M := (uM (uM (uM (uM M 0 5 0) 4 0 a) 4 1 b) 4 2 c)) (y := 2) (z := 0) 
                          subst z126
                          subst y126
                          refine xv (x_inv1 129 (as := [Value.int (zi 2), Value.int (zi 0)]) d_X8_order__126 rfl c_8_90 rfl (Nat.le_of_ble_eq_true rfl) (Nat.le_of_ble_eq_true rfl) m_o (Nat.le_of_ble_eq_true rfl) (Nat.le_of_ble_eq_true rfl) rfl e126) ?_
                          show Xv E q_m_X8_order_ 129 [Value.ref am, Value.int (zi d), Value.int (zi a), Value.int (zi b), Value.int (zi c), Value.int (zi 3), Value.int (zi (((0 + 1) + 1) + 1))] [Value.int (zi 0)] (q_mw h am (uM (uM (uM (uM (uM (uM (uM M 0 5 0) 4 0 a) 4 1 b) 4 2 c) 0 5 1) 0 6 2) 0 7 0)) Q
                          refine xv_r (x_ireturn d_X8_order__129 rfl rfl) ?_
                          have er : mOrd (M 1) d a b c = (2, 0) := by first | (exfalso; omega) | (unfold mOrd; repeat (first | rw [if_pos (by omega)] | rw [if_neg (by omega)]))
                          refine hQ _ _ ?_
                          unfold mMu2
                          rw [er]
                          exact ⟨rfl, rfl⟩
                        · replace k109 := bI_n0.mp k109
                          refine xv (x_iload_n 113 d_X8_order__112 rfl rfl) ?_
                          refine xv (x_iconst 114 d_X8_order__113 rfl) ?_
                          refine v_icmp_ne 130 117 d_X8_order__114 rfl rfl (by omega) (by omega) (by omega) (by omega) (fun k114 => ?_) (fun k114 => ?_)
                          · refine xv (x_aload_n 131 d_X8_order__130 rfl rfl) ?_
                            refine xv (x_getfield 134 d_X8_order__131 rfl f_8_9 (Nat.le_of_ble_eq_true rfl) (Nat.le_of_ble_eq_true rfl) (q_gf_of m_o rfl)) ?_
                            refine xv (x_iconst 135 d_X8_order__134 rfl) ?_
                            refine xv (x_iaload 136 d_X8_order__135 rfl ((m_g1 (by omega) (by omega)).trans (rfl : _ = some (Value.int (zi ((M 1) 4)))))) ?_
                            have q_21 : -1000000 ≤ (M 1) 4 ∧ (M 1) 4 ≤ 1000000 := hr _
                            refine xv (x_bipush 138 d_X8_order__136 rfl rfl) ?_
                            refine v_icmp_ne 148 141 d_X8_order__138 rfl rfl (by omega) (by omega) (by omega) (by omega) (fun k138 => ?_) (fun k138 => ?_)
                            · refine xv (x_iconst 149 d_X8_order__148 rfl) ?_
                              refine xv (x_istore 151 d_X8_order__149 rfl (Nat.le_of_ble_eq_true rfl)) ?_
                              show Xv E q_m_X8_order_ 151 [Value.ref am, Value.int (zi d), Value.int (zi a), Value.int (zi b), Value.int (zi c), Value.int (zi 3), Value.int (zi 0)] [] (q_mw h am (uM (uM (uM (uM M 0 5 0) 4 0 a) 4 1 b) 4 2 c)) Q
                              refine xv (x_iload 153 d_X8_order__151 rfl rfl) ?_
                              refine xv (x_iload 155 d_X8_order__153 rfl rfl) ?_
                              refine v_icmp_ge 196 158 d_X8_order__155 rfl rfl (by omega) (by omega) (by omega) (by omega) (fun k155 => ?_) (fun k155 => ?_)
                              · omega
                              · refine xv (x_aload_n 159 d_X8_order__158 rfl rfl) ?_
                                refine xv (x_getfield 162 d_X8_order__159 rfl f_8_9 (Nat.le_of_ble_eq_true rfl) (Nat.le_of_ble_eq_true rfl) (q_gf_of m_o rfl)) ?_
                                refine xv (x_bipush 164 d_X8_order__162 rfl rfl) ?_
                                refine xv (x_aload_n 165 d_X8_order__164 rfl rfl) ?_
                                refine xv (x_getfield 168 d_X8_order__165 rfl f_8_19 (Nat.le_of_ble_eq_true rfl) (Nat.le_of_ble_eq_true rfl) (q_gf_of m_o rfl)) ?_
                                refine xv (x_iload 170 d_X8_order__168 rfl rfl) ?_
                                refine xv (x_iaload 171 d_X8_order__170 rfl ((m_g4 (by omega) (by omega)).trans (rfl : _ = some (Value.int (zi a))))) ?_
                                refine xv (x_iadd 172 d_X8_order__171 rfl) ?_
                                refine xv (x_iaload 173 d_X8_order__172 rfl ((m_g1 (by omega) (by omega)).trans (rfl : _ = some (Value.int (zi ((M 1) (8 + a))))))) ?_
                                have q_22 : -1000000 ≤ (M 1) (8 + a) ∧ (M 1) (8 + a) ≤ 1000000 := hr _
                                refine v_if_eq 190 176 d_X8_order__173 rfl rfl (by omega) (by omega) (fun k173 => ?_) (fun k173 => ?_)
                                · refine xv (x_iinc 193 d_X8_order__190 rfl rfl) ?_
                                  show Xv E q_m_X8_order_ 193 [Value.ref am, Value.int (zi d), Value.int (zi a), Value.int (zi b), Value.int (zi c), Value.int (zi 3), Value.int (zi (0 + 1))] [] (q_mw h am (uM (uM (uM (uM M 0 5 0) 4 0 a) 4 1 b) 4 2 c)) Q
                                  refine xv (x_goto 151 d_X8_order__193 rfl) ?_
                                  refine xv (x_iload 153 d_X8_order__151 rfl rfl) ?_
                                  refine xv (x_iload 155 d_X8_order__153 rfl rfl) ?_
                                  refine v_icmp_ge 196 158 d_X8_order__155 rfl rfl (by omega) (by omega) (by omega) (by omega) (fun k155 => ?_) (fun k155 => ?_)
                                  · omega
                                  · refine xv (x_aload_n 159 d_X8_order__158 rfl rfl) ?_
                                    refine xv (x_getfield 162 d_X8_order__159 rfl f_8_9 (Nat.le_of_ble_eq_true rfl) (Nat.le_of_ble_eq_true rfl) (q_gf_of m_o rfl)) ?_
                                    refine xv (x_bipush 164 d_X8_order__162 rfl rfl) ?_
                                    refine xv (x_aload_n 165 d_X8_order__164 rfl rfl) ?_
                                    refine xv (x_getfield 168 d_X8_order__165 rfl f_8_19 (Nat.le_of_ble_eq_true rfl) (Nat.le_of_ble_eq_true rfl) (q_gf_of m_o rfl)) ?_
                                    refine xv (x_iload 170 d_X8_order__168 rfl rfl) ?_
                                    refine xv (x_iaload 171 d_X8_order__170 rfl ((m_g4 (by omega) (by omega)).trans (rfl : _ = some (Value.int (zi b))))) ?_
                                    refine xv (x_iadd 172 d_X8_order__171 rfl) ?_
                                    refine xv (x_iaload 173 d_X8_order__172 rfl ((m_g1 (by omega) (by omega)).trans (rfl : _ = some (Value.int (zi ((M 1) (8 + b))))))) ?_
                                    have q_23 : -1000000 ≤ (M 1) (8 + b) ∧ (M 1) (8 + b) ≤ 1000000 := hr _
                                    refine v_if_eq 190 176 d_X8_order__173 rfl rfl (by omega) (by omega) (fun k173 => ?_) (fun k173 => ?_)
                                    · refine xv (x_iinc 193 d_X8_order__190 rfl rfl) ?_
                                      show Xv E q_m_X8_order_ 193 [Value.ref am, Value.int (zi d), Value.int (zi a), Value.int (zi b), Value.int (zi c), Value.int (zi 3), Value.int (zi ((0 + 1) + 1))] [] (q_mw h am (uM (uM (uM (uM M 0 5 0) 4 0 a) 4 1 b) 4 2 c)) Q
                                      refine xv (x_goto 151 d_X8_order__193 rfl) ?_
                                      refine xv (x_iload 153 d_X8_order__151 rfl rfl) ?_
                                      refine xv (x_iload 155 d_X8_order__153 rfl rfl) ?_
                                      refine v_icmp_ge 196 158 d_X8_order__155 rfl rfl (by omega) (by omega) (by omega) (by omega) (fun k155 => ?_) (fun k155 => ?_)
                                      · omega
                                      · refine xv (x_aload_n 159 d_X8_order__158 rfl rfl) ?_
                                        refine xv (x_getfield 162 d_X8_order__159 rfl f_8_9 (Nat.le_of_ble_eq_true rfl) (Nat.le_of_ble_eq_true rfl) (q_gf_of m_o rfl)) ?_
                                        refine xv (x_bipush 164 d_X8_order__162 rfl rfl) ?_
                                        refine xv (x_aload_n 165 d_X8_order__164 rfl rfl) ?_
                                        refine xv (x_getfield 168 d_X8_order__165 rfl f_8_19 (Nat.le_of_ble_eq_true rfl) (Nat.le_of_ble_eq_true rfl) (q_gf_of m_o rfl)) ?_
                                        refine xv (x_iload 170 d_X8_order__168 rfl rfl) ?_
                                        refine xv (x_iaload 171 d_X8_order__170 rfl ((m_g4 (by omega) (by omega)).trans (rfl : _ = some (Value.int (zi c))))) ?_
                                        refine xv (x_iadd 172 d_X8_order__171 rfl) ?_
                                        refine xv (x_iaload 173 d_X8_order__172 rfl ((m_g1 (by omega) (by omega)).trans (rfl : _ = some (Value.int (zi ((M 1) (8 + c))))))) ?_
                                        have q_24 : -1000000 ≤ (M 1) (8 + c) ∧ (M 1) (8 + c) ≤ 1000000 := hr _
                                        refine v_if_eq 190 176 d_X8_order__173 rfl rfl (by omega) (by omega) (fun k173 => ?_) (fun k173 => ?_)
                                        · refine xv (x_iinc 193 d_X8_order__190 rfl rfl) ?_
                                          show Xv E q_m_X8_order_ 193 [Value.ref am, Value.int (zi d), Value.int (zi a), Value.int (zi b), Value.int (zi c), Value.int (zi 3), Value.int (zi (((0 + 1) + 1) + 1))] [] (q_mw h am (uM (uM (uM (uM M 0 5 0) 4 0 a) 4 1 b) 4 2 c)) Q
                                          refine xv (x_goto 151 d_X8_order__193 rfl) ?_
                                          refine xv (x_iload 153 d_X8_order__151 rfl rfl) ?_
                                          refine xv (x_iload 155 d_X8_order__153 rfl rfl) ?_
                                          refine v_icmp_ge 196 158 d_X8_order__155 rfl rfl (by omega) (by omega) (by omega) (by omega) (fun k155 => ?_) (fun k155 => ?_)
                                          · refine xv (x_aload_n 197 d_X8_order__196 rfl rfl) ?_
                                            obtain ⟨r197, h197, e197, z197, y197⟩ := S_X8_change (E := E) (h := h) (am := am) (M := (uM (uM (uM (uM M 0 5 0) 4 0 a) 4 1 b) 4 2 c)) hc
                                            subst z197
                                            subst y197
                                            refine xv (x_inv0 200 (as := []) d_X8_order__197 rfl c_8_100 rfl (Nat.le_of_ble_eq_true rfl) (Nat.le_of_ble_eq_true rfl) m_o (Nat.le_of_ble_eq_true rfl) (Nat.le_of_ble_eq_true rfl) rfl e197) ?_
                                            generalize hM2 : mch (uM (uM (uM (uM M 0 5 0) 4 0 a) 4 1 b) 4 2 c) = M2
                                            have e2 : M2 1 = M 1 := by rw [← hM2]; exact mch_1
                                            have e4 : M2 4 = (u1 (u1 (u1 (M 4) 0 a) 1 b) 2 c) := by rw [← hM2]; exact mch_s (by decide) (by decide)
                                            have eM : M2 = uA (uA M2 1 (M 1)) 4 (u1 (u1 (u1 (M 4) 0 a) 1 b) 2 c) := by rw [← e2, uA_self, ← e4, uA_self]
                                            rw [eM]
                                            show Xv E q_m_X8_order_ 200 [Value.ref am, Value.int (zi d), Value.int (zi a), Value.int (zi b), Value.int (zi c), Value.int (zi 3), Value.int (zi (((0 + 1) + 1) + 1))] [] (q_mw h am (uA (uA M2 1 (M 1)) 4 (u1 (u1 (u1 (M 4) 0 a) 1 b) 2 c))) Q
                                            refine xv (x_aload_n 201 d_X8_order__200 rfl rfl) ?_
                                            refine xv (x_getfield 204 d_X8_order__201 rfl f_8_9 (Nat.le_of_ble_eq_true rfl) (Nat.le_of_ble_eq_true rfl) (q_gf_of m_o rfl)) ?_
                                            refine xv (x_iconst 205 d_X8_order__204 rfl) ?_
                                            refine xv (x_iaload 206 d_X8_order__205 rfl ((m_g1 (by omega) (by omega)).trans (rfl : _ = some (Value.int (zi ((M 1) 4)))))) ?_
                                            have q_25 : -1000000 ≤ (M 1) 4 ∧ (M 1) 4 ≤ 1000000 := hr _
                                            refine xv (x_istore 208 d_X8_order__206 rfl (Nat.le_of_ble_eq_true rfl)) ?_
                                            show Xv E q_m_X8_order_ 208 [Value.ref am, Value.int (zi d), Value.int (zi a), Value.int (zi b), Value.int (zi c), Value.int (zi 3), Value.int (zi ((M 1) 4))] [] (q_mw h am (uA (uA M2 1 (M 1)) 4 (u1 (u1 (u1 (M 4) 0 a) 1 b) 2 c))) Q
                                            refine xv (x_aload_n 209 d_X8_order__208 rfl rfl) ?_
                                            refine xv (x_getfield 212 d_X8_order__209 rfl f_8_9 (Nat.le_of_ble_eq_true rfl) (Nat.le_of_ble_eq_true rfl) (q_gf_of m_o rfl)) ?_
                                            refine xv (x_iload 214 d_X8_order__212 rfl rfl) ?_
                                            refine xv (x_ins1 217 (as := [Value.int (zi ((M 1) 4))]) d_X8_order__214 rfl c_8_106 rfl (Nat.le_of_ble_eq_true rfl) (Nat.le_of_ble_eq_true rfl) (Nat.le_of_ble_eq_true rfl) rfl (S_X8_order (E := E) (h := h) (am := am) (M := (uA (uA M2 1 (M 1)) 4 (u1 (u1 (u1 (M 4) 0 a) 1 b) 2 c))))) ?_
                                            show Xv E q_m_X8_order_ 217 [Value.ref am, Value.int (zi d), Value.int (zi a), Value.int (zi b), Value.int (zi c), Value.int (zi 3), Value.int (zi ((M 1) 4))] [Value.int (zi (320 + 8 * ((M 1) 4))), Value.ref (am + 1)] (q_mw h am (uA (uA M2 1 (M 1)) 4 (u1 (u1 (u1 (M 4) 0 a) 1 b) 2 c))) Q
                                            refine xv (x_iconst 218 d_X8_order__217 rfl) ?_
                                            refine xv (x_iadd 219 d_X8_order__218 rfl) ?_
                                            refine xv (x_iload_n 220 d_X8_order__219 rfl rfl) ?_
                                            refine xv (x_iastore 221 d_X8_order__220 rfl (m_s1 (by omega) (by omega))) ?_
                                            show Xv E q_m_X8_order_ 221 [Value.ref am, Value.int (zi d), Value.int (zi a), Value.int (zi b), Value.int (zi c), Value.int (zi 3), Value.int (zi ((M 1) 4))] [] (q_mw h am (uM (uA (uA M2 1 (M 1)) 4 (u1 (u1 (u1 (M 4) 0 a) 1 b) 2 c)) 1 ((320 + 8 * ((M 1) 4)) + 0) d)) Q
                                            refine xv (x_aload_n 222 d_X8_order__221 rfl rfl) ?_
                                            refine xv (x_getfield 225 d_X8_order__222 rfl f_8_9 (Nat.le_of_ble_eq_true rfl) (Nat.le_of_ble_eq_true rfl) (q_gf_of m_o rfl)) ?_
                                            refine xv (x_iload 227 d_X8_order__225 rfl rfl) ?_
                                            refine xv (x_ins1 230 (as := [Value.int (zi ((M 1) 4))]) d_X8_order__227 rfl c_8_106 rfl (Nat.le_of_ble_eq_true rfl) (Nat.le_of_ble_eq_true rfl) (Nat.le_of_ble_eq_true rfl) rfl (S_X8_order (E := E) (h := h) (am := am) (M := (uM (uA (uA M2 1 (M 1)) 4 (u1 (u1 (u1 (M 4) 0 a) 1 b) 2 c)) 1 ((320 + 8 * ((M 1) 4)) + 0) d)))) ?_
                                            show Xv E q_m_X8_order_ 230 [Value.ref am, Value.int (zi d), Value.int (zi a), Value.int (zi b), Value.int (zi c), Value.int (zi 3), Value.int (zi ((M 1) 4))] [Value.int (zi (320 + 8 * ((M 1) 4))), Value.ref (am + 1)] (q_mw h am (uM (uA (uA M2 1 (M 1)) 4 (u1 (u1 (u1 (M 4) 0 a) 1 b) 2 c)) 1 ((320 + 8 * ((M 1) 4)) + 0) d)) Q
                                            refine xv (x_iconst 231 d_X8_order__230 rfl) ?_
                                            refine xv (x_iadd 232 d_X8_order__231 rfl) ?_
                                            refine xv (x_iload 234 d_X8_order__232 rfl rfl) ?_
                                            refine xv (x_iastore 235 d_X8_order__234 rfl (m_s1 (by omega) (by omega))) ?_
                                            show Xv E q_m_X8_order_ 235 [Value.ref am, Value.int (zi d), Value.int (zi a), Value.int (zi b), Value.int (zi c), Value.int (zi 3), Value.int (zi ((M 1) 4))] [] (q_mw h am (uM (uM (uA (uA M2 1 (M 1)) 4 (u1 (u1 (u1 (M 4) 0 a) 1 b) 2 c)) 1 ((320 + 8 * ((M 1) 4)) + 0) d) 1 ((320 + 8 * ((M 1) 4)) + 1) 3)) Q
                                            refine xv (x_aload_n 236 d_X8_order__235 rfl rfl) ?_
                                            refine xv (x_getfield 239 d_X8_order__236 rfl f_8_9 (Nat.le_of_ble_eq_true rfl) (Nat.le_of_ble_eq_true rfl) (q_gf_of m_o rfl)) ?_
                                            refine xv (x_iload 241 d_X8_order__239 rfl rfl) ?_
                                            refine xv (x_ins1 244 (as := [Value.int (zi ((M 1) 4))]) d_X8_order__241 rfl c_8_106 rfl (Nat.le_of_ble_eq_true rfl) (Nat.le_of_ble_eq_true rfl) (Nat.le_of_ble_eq_true rfl) rfl (S_X8_order (E := E) (h := h) (am := am) (M := (uM (uM (uA (uA M2 1 (M 1)) 4 (u1 (u1 (u1 (M 4) 0 a) 1 b) 2 c)) 1 ((320 + 8 * ((M 1) 4)) + 0) d) 1 ((320 + 8 * ((M 1) 4)) + 1) 3)))) ?_
                                            show Xv E q_m_X8_order_ 244 [Value.ref am, Value.int (zi d), Value.int (zi a), Value.int (zi b), Value.int (zi c), Value.int (zi 3), Value.int (zi ((M 1) 4))] [Value.int (zi (320 + 8 * ((M 1) 4))), Value.ref (am + 1)] (q_mw h am (uM (uM (uA (uA M2 1 (M 1)) 4 (u1 (u1 (u1 (M 4) 0 a) 1 b) 2 c)) 1 ((320 + 8 * ((M 1) 4)) + 0) d) 1 ((320 + 8 * ((M 1) 4)) + 1) 3)) Q
                                            refine xv (x_iconst 245 d_X8_order__244 rfl) ?_
                                            refine xv (x_iadd 246 d_X8_order__245 rfl) ?_
                                            refine xv (x_iconst 247 d_X8_order__246 rfl) ?_
                                            refine xv (x_iastore 248 d_X8_order__247 rfl (m_s1 (by omega) (by omega))) ?_
                                            show Xv E q_m_X8_order_ 248 [Value.ref am, Value.int (zi d), Value.int (zi a), Value.int (zi b), Value.int (zi c), Value.int (zi 3), Value.int (zi ((M 1) 4))] [] (q_mw h am (uM (uM (uM (uA (uA M2 1 (M 1)) 4 (u1 (u1 (u1 (M 4) 0 a) 1 b) 2 c)) 1 ((320 + 8 * ((M 1) 4)) + 0) d) 1 ((320 + 8 * ((M 1) 4)) + 1) 3) 1 ((320 + 8 * ((M 1) 4)) + 2) 0)) Q
                                            refine xv (x_aload_n 249 d_X8_order__248 rfl rfl) ?_
                                            refine xv (x_getfield 252 d_X8_order__249 rfl f_8_9 (Nat.le_of_ble_eq_true rfl) (Nat.le_of_ble_eq_true rfl) (q_gf_of m_o rfl)) ?_
                                            refine xv (x_iload 254 d_X8_order__252 rfl rfl) ?_
                                            refine xv (x_ins1 257 (as := [Value.int (zi ((M 1) 4))]) d_X8_order__254 rfl c_8_106 rfl (Nat.le_of_ble_eq_true rfl) (Nat.le_of_ble_eq_true rfl) (Nat.le_of_ble_eq_true rfl) rfl (S_X8_order (E := E) (h := h) (am := am) (M := (uM (uM (uM (uA (uA M2 1 (M 1)) 4 (u1 (u1 (u1 (M 4) 0 a) 1 b) 2 c)) 1 ((320 + 8 * ((M 1) 4)) + 0) d) 1 ((320 + 8 * ((M 1) 4)) + 1) 3) 1 ((320 + 8 * ((M 1) 4)) + 2) 0)))) ?_
                                            show Xv E q_m_X8_order_ 257 [Value.ref am, Value.int (zi d), Value.int (zi a), Value.int (zi b), Value.int (zi c), Value.int (zi 3), Value.int (zi ((M 1) 4))] [Value.int (zi (320 + 8 * ((M 1) 4))), Value.ref (am + 1)] (q_mw h am (uM (uM (uM (uA (uA M2 1 (M 1)) 4 (u1 (u1 (u1 (M 4) 0 a) 1 b) 2 c)) 1 ((320 + 8 * ((M 1) 4)) + 0) d) 1 ((320 + 8 * ((M 1) 4)) + 1) 3) 1 ((320 + 8 * ((M 1) 4)) + 2) 0)) Q
                                            refine xv (x_iconst 258 d_X8_order__257 rfl) ?_
                                            refine xv (x_iadd 259 d_X8_order__258 rfl) ?_
                                            refine xv (x_iconst 260 d_X8_order__259 rfl) ?_
                                            refine xv (x_iastore 261 d_X8_order__260 rfl (m_s1 (by omega) (by omega))) ?_
                                            show Xv E q_m_X8_order_ 261 [Value.ref am, Value.int (zi d), Value.int (zi a), Value.int (zi b), Value.int (zi c), Value.int (zi 3), Value.int (zi ((M 1) 4))] [] (q_mw h am (uM (uM (uM (uM (uA (uA M2 1 (M 1)) 4 (u1 (u1 (u1 (M 4) 0 a) 1 b) 2 c)) 1 ((320 + 8 * ((M 1) 4)) + 0) d) 1 ((320 + 8 * ((M 1) 4)) + 1) 3) 1 ((320 + 8 * ((M 1) 4)) + 2) 0) 1 ((320 + 8 * ((M 1) 4)) + 3) (-1))) Q
                                            refine xv (x_aload_n 262 d_X8_order__261 rfl rfl) ?_
                                            refine xv (x_getfield 265 d_X8_order__262 rfl f_8_9 (Nat.le_of_ble_eq_true rfl) (Nat.le_of_ble_eq_true rfl) (q_gf_of m_o rfl)) ?_
                                            refine xv (x_iload 267 d_X8_order__265 rfl rfl) ?_
                                            refine xv (x_ins1 270 (as := [Value.int (zi ((M 1) 4))]) d_X8_order__267 rfl c_8_106 rfl (Nat.le_of_ble_eq_true rfl) (Nat.le_of_ble_eq_true rfl) (Nat.le_of_ble_eq_true rfl) rfl (S_X8_order (E := E) (h := h) (am := am) (M := (uM (uM (uM (uM (uA (uA M2 1 (M 1)) 4 (u1 (u1 (u1 (M 4) 0 a) 1 b) 2 c)) 1 ((320 + 8 * ((M 1) 4)) + 0) d) 1 ((320 + 8 * ((M 1) 4)) + 1) 3) 1 ((320 + 8 * ((M 1) 4)) + 2) 0) 1 ((320 + 8 * ((M 1) 4)) + 3) (-1))))) ?_
                                            show Xv E q_m_X8_order_ 270 [Value.ref am, Value.int (zi d), Value.int (zi a), Value.int (zi b), Value.int (zi c), Value.int (zi 3), Value.int (zi ((M 1) 4))] [Value.int (zi (320 + 8 * ((M 1) 4))), Value.ref (am + 1)] (q_mw h am (uM (uM (uM (uM (uA (uA M2 1 (M 1)) 4 (u1 (u1 (u1 (M 4) 0 a) 1 b) 2 c)) 1 ((320 + 8 * ((M 1) 4)) + 0) d) 1 ((320 + 8 * ((M 1) 4)) + 1) 3) 1 ((320 + 8 * ((M 1) 4)) + 2) 0) 1 ((320 + 8 * ((M 1) 4)) + 3) (-1))) Q
                                            refine xv (x_iconst 271 d_X8_order__270 rfl) ?_
                                            refine xv (x_iadd 272 d_X8_order__271 rfl) ?_
                                            refine xv (x_iconst 273 d_X8_order__272 rfl) ?_
                                            refine xv (x_iastore 274 d_X8_order__273 rfl (m_s1 (by omega) (by omega))) ?_
                                            show Xv E q_m_X8_order_ 274 [Value.ref am, Value.int (zi d), Value.int (zi a), Value.int (zi b), Value.int (zi c), Value.int (zi 3), Value.int (zi ((M 1) 4))] [] (q_mw h am (uM (uM (uM (uM (uM (uA (uA M2 1 (M 1)) 4 (u1 (u1 (u1 (M 4) 0 a) 1 b) 2 c)) 1 ((320 + 8 * ((M 1) 4)) + 0) d) 1 ((320 + 8 * ((M 1) 4)) + 1) 3) 1 ((320 + 8 * ((M 1) 4)) + 2) 0) 1 ((320 + 8 * ((M 1) 4)) + 3) (-1)) 1 ((320 + 8 * ((M 1) 4)) + 4) (-1))) Q
                                            refine xv (x_aload_n 275 d_X8_order__274 rfl rfl) ?_
                                            refine xv (x_getfield 278 d_X8_order__275 rfl f_8_19 (Nat.le_of_ble_eq_true rfl) (Nat.le_of_ble_eq_true rfl) (q_gf_of m_o rfl)) ?_
                                            refine xv (x_iconst 279 d_X8_order__278 rfl) ?_
                                            refine xv (x_aload_n 280 d_X8_order__279 rfl rfl) ?_
                                            refine xv (x_getfield 283 d_X8_order__280 rfl f_8_9 (Nat.le_of_ble_eq_true rfl) (Nat.le_of_ble_eq_true rfl) (q_gf_of m_o rfl)) ?_
                                            refine xv (x_iload 285 d_X8_order__283 rfl rfl) ?_
                                            refine xv (x_ins1 288 (as := [Value.int (zi ((M 1) 4))]) d_X8_order__285 rfl c_8_106 rfl (Nat.le_of_ble_eq_true rfl) (Nat.le_of_ble_eq_true rfl) (Nat.le_of_ble_eq_true rfl) rfl (S_X8_order (E := E) (h := h) (am := am) (M := (uM (uM (uM (uM (uM (uA (uA M2 1 (M 1)) 4 (u1 (u1 (u1 (M 4) 0 a) 1 b) 2 c)) 1 ((320 + 8 * ((M 1) 4)) + 0) d) 1 ((320 + 8 * ((M 1) 4)) + 1) 3) 1 ((320 + 8 * ((M 1) 4)) + 2) 0) 1 ((320 + 8 * ((M 1) 4)) + 3) (-1)) 1 ((320 + 8 * ((M 1) 4)) + 4) (-1))))) ?_
                                            show Xv E q_m_X8_order_ 288 [Value.ref am, Value.int (zi d), Value.int (zi a), Value.int (zi b), Value.int (zi c), Value.int (zi 3), Value.int (zi ((M 1) 4))] [Value.int (zi (320 + 8 * ((M 1) 4))), Value.ref (am + 1), Value.int (zi 0), Value.ref (am + 4)] (q_mw h am (uM (uM (uM (uM (uM (uA (uA M2 1 (M 1)) 4 (u1 (u1 (u1 (M 4) 0 a) 1 b) 2 c)) 1 ((320 + 8 * ((M 1) 4)) + 0) d) 1 ((320 + 8 * ((M 1) 4)) + 1) 3) 1 ((320 + 8 * ((M 1) 4)) + 2) 0) 1 ((320 + 8 * ((M 1) 4)) + 3) (-1)) 1 ((320 + 8 * ((M 1) 4)) + 4) (-1))) Q
                                            refine xv (x_iconst 289 d_X8_order__288 rfl) ?_
                                            refine xv (x_iadd 290 d_X8_order__289 rfl) ?_
                                            refine xv (x_iconst 291 d_X8_order__290 rfl) ?_
                                            refine xv (x_copy 294 d_X8_order__291 rfl rfl rfl (Nat.le_of_ble_eq_true rfl) (Nat.le_of_ble_eq_true rfl) (Nat.le_of_ble_eq_true rfl) (m_cpy 4 1 m_a4 m_a1 m_w1 (by omega) (by omega) (by omega) (by omega) (by omega) (by decide) (by decide))) ?_
                                            show Xv E q_m_X8_order_ 294 [Value.ref am, Value.int (zi d), Value.int (zi a), Value.int (zi b), Value.int (zi c), Value.int (zi 3), Value.int (zi ((M 1) 4))] [] (q_mw h am (uA (uM (uM (uM (uM (uM (uA (uA M2 1 (M 1)) 4 (u1 (u1 (u1 (M 4) 0 a) 1 b) 2 c)) 1 ((320 + 8 * ((M 1) 4)) + 0) d) 1 ((320 + 8 * ((M 1) 4)) + 1) 3) 1 ((320 + 8 * ((M 1) 4)) + 2) 0) 1 ((320 + 8 * ((M 1) 4)) + 3) (-1)) 1 ((320 + 8 * ((M 1) 4)) + 4) (-1)) 1 (cpI (u1 (u1 (u1 (M 4) 0 a) 1 b) 2 c) (u1 (u1 (u1 (u1 (u1 (M 1) ((320 + 8 * ((M 1) 4)) + 0) d) ((320 + 8 * ((M 1) 4)) + 1) 3) ((320 + 8 * ((M 1) 4)) + 2) 0) ((320 + 8 * ((M 1) 4)) + 3) (-1)) ((320 + 8 * ((M 1) 4)) + 4) (-1)) 0 ((320 + 8 * ((M 1) 4)) + 5) 3))) Q
                                            refine xv (x_aload_n 295 d_X8_order__294 rfl rfl) ?_
                                            refine xv (x_getfield 298 d_X8_order__295 rfl f_8_9 (Nat.le_of_ble_eq_true rfl) (Nat.le_of_ble_eq_true rfl) (q_gf_of m_o rfl)) ?_
                                            refine xv (x_iconst 299 d_X8_order__298 rfl) ?_
                                            refine xv (x_dup2 300 d_X8_order__299 rfl rfl rfl) ?_
                                            refine xv (x_iaload 301 d_X8_order__300 rfl ((m_g1 (by omega) (by omega)).trans (rfl : _ = some (Value.int (zi ((cpI (u1 (u1 (u1 (M 4) 0 a) 1 b) 2 c) (u1 (u1 (u1 (u1 (u1 (M 1) ((320 + 8 * ((M 1) 4)) + 0) d) ((320 + 8 * ((M 1) 4)) + 1) 3) ((320 + 8 * ((M 1) 4)) + 2) 0) ((320 + 8 * ((M 1) 4)) + 3) (-1)) ((320 + 8 * ((M 1) 4)) + 4) (-1)) 0 ((320 + 8 * ((M 1) 4)) + 5) 3) 4)))))) ?_
                                            refine xv (x_iconst 302 d_X8_order__301 rfl) ?_
                                            refine xv (x_iadd 303 d_X8_order__302 rfl) ?_
                                            refine xv (x_iastore 304 d_X8_order__303 rfl (m_s1 (by omega) (by omega))) ?_
                                            show Xv E q_m_X8_order_ 304 [Value.ref am, Value.int (zi d), Value.int (zi a), Value.int (zi b), Value.int (zi c), Value.int (zi 3), Value.int (zi ((M 1) 4))] [] (q_mw h am (uM (uA (uM (uM (uM (uM (uM (uA (uA M2 1 (M 1)) 4 (u1 (u1 (u1 (M 4) 0 a) 1 b) 2 c)) 1 ((320 + 8 * ((M 1) 4)) + 0) d) 1 ((320 + 8 * ((M 1) 4)) + 1) 3) 1 ((320 + 8 * ((M 1) 4)) + 2) 0) 1 ((320 + 8 * ((M 1) 4)) + 3) (-1)) 1 ((320 + 8 * ((M 1) 4)) + 4) (-1)) 1 (cpI (u1 (u1 (u1 (M 4) 0 a) 1 b) 2 c) (u1 (u1 (u1 (u1 (u1 (M 1) ((320 + 8 * ((M 1) 4)) + 0) d) ((320 + 8 * ((M 1) 4)) + 1) 3) ((320 + 8 * ((M 1) 4)) + 2) 0) ((320 + 8 * ((M 1) 4)) + 3) (-1)) ((320 + 8 * ((M 1) 4)) + 4) (-1)) 0 ((320 + 8 * ((M 1) 4)) + 5) 3)) 1 4 (((cpI (u1 (u1 (u1 (M 4) 0 a) 1 b) 2 c) (u1 (u1 (u1 (u1 (u1 (M 1) ((320 + 8 * ((M 1) 4)) + 0) d) ((320 + 8 * ((M 1) 4)) + 1) 3) ((320 + 8 * ((M 1) 4)) + 2) 0) ((320 + 8 * ((M 1) 4)) + 3) (-1)) ((320 + 8 * ((M 1) 4)) + 4) (-1)) 0 ((320 + 8 * ((M 1) 4)) + 5) 3) 4) + 1))) Q
                                            refine xv (x_iload 306 d_X8_order__304 rfl rfl) ?_
                                            refine xv_r (x_ireturn d_X8_order__306 rfl rfl) ?_
                                            have er : mOrd (M 1) d a b c = (0, 0) := by first | (exfalso; omega) | (unfold mOrd; repeat (first | rw [if_pos (by omega)] | rw [if_neg (by omega)]))
                                            have ec : cntO b c = 3 := by first | (exfalso; omega) | (unfold cntO; repeat (first | rw [if_pos (by omega)] | rw [if_neg (by omega)]))
                                            refine hQ _ _ ?_
                                            unfold mMu2
                                            rw [er, if_pos rfl, ec]
                                            refine ⟨rfl, ?_⟩
                                            unfold lnO
                                            rw [hM2, ← eM]
                                            simp only [uM_uA, uA_uA, uA_eq]
                                            rfl
                                          · omega
                                        · refine xv (x_aload_n 177 d_X8_order__176 rfl rfl) ?_
                                          refine xv (x_bipush 179 d_X8_order__177 rfl rfl) ?_
                                          refine xv (x_aload_n 180 d_X8_order__179 rfl rfl) ?_
                                          refine xv (x_getfield 183 d_X8_order__180 rfl f_8_19 (Nat.le_of_ble_eq_true rfl) (Nat.le_of_ble_eq_true rfl) (q_gf_of m_o rfl)) ?_
                                          refine xv (x_iload 185 d_X8_order__183 rfl rfl) ?_
                                          refine xv (x_iaload 186 d_X8_order__185 rfl ((m_g4 (by omega) (by omega)).trans (rfl : _ = some (Value.int (zi c))))) ?_
                                          obtain ⟨r186, h186, e186, z186, y186⟩ := S_X8_refuse (E := E) (h := h) (am := am) (M := (uM (uM (uM (uM M 0 5 0) 4 0 a) 4 1 b) 4 2 c)) (y := 12) (z := c) 
                                          subst z186
                                          subst y186
                                          refine xv (x_inv1 189 (as := [Value.int (zi 12), Value.int (zi c)]) d_X8_order__186 rfl c_8_90 rfl (Nat.le_of_ble_eq_true rfl) (Nat.le_of_ble_eq_true rfl) m_o (Nat.le_of_ble_eq_true rfl) (Nat.le_of_ble_eq_true rfl) rfl e186) ?_
                                          show Xv E q_m_X8_order_ 189 [Value.ref am, Value.int (zi d), Value.int (zi a), Value.int (zi b), Value.int (zi c), Value.int (zi 3), Value.int (zi ((0 + 1) + 1))] [Value.int (zi 0)] (q_mw h am (uM (uM (uM (uM (uM (uM (uM M 0 5 0) 4 0 a) 4 1 b) 4 2 c) 0 5 1) 0 6 12) 0 7 c)) Q
                                          refine xv_r (x_ireturn d_X8_order__189 rfl rfl) ?_
                                          have er : mOrd (M 1) d a b c = (12, c) := by first | (exfalso; omega) | (unfold mOrd; repeat (first | rw [if_pos (by omega)] | rw [if_neg (by omega)]))
                                          refine hQ _ _ ?_
                                          unfold mMu2
                                          rw [er]
                                          exact ⟨rfl, rfl⟩
                                    · refine xv (x_aload_n 177 d_X8_order__176 rfl rfl) ?_
                                      refine xv (x_bipush 179 d_X8_order__177 rfl rfl) ?_
                                      refine xv (x_aload_n 180 d_X8_order__179 rfl rfl) ?_
                                      refine xv (x_getfield 183 d_X8_order__180 rfl f_8_19 (Nat.le_of_ble_eq_true rfl) (Nat.le_of_ble_eq_true rfl) (q_gf_of m_o rfl)) ?_
                                      refine xv (x_iload 185 d_X8_order__183 rfl rfl) ?_
                                      refine xv (x_iaload 186 d_X8_order__185 rfl ((m_g4 (by omega) (by omega)).trans (rfl : _ = some (Value.int (zi b))))) ?_
                                      obtain ⟨r186, h186, e186, z186, y186⟩ := S_X8_refuse (E := E) (h := h) (am := am) (M := (uM (uM (uM (uM M 0 5 0) 4 0 a) 4 1 b) 4 2 c)) (y := 12) (z := b) 
                                      subst z186
                                      subst y186
                                      refine xv (x_inv1 189 (as := [Value.int (zi 12), Value.int (zi b)]) d_X8_order__186 rfl c_8_90 rfl (Nat.le_of_ble_eq_true rfl) (Nat.le_of_ble_eq_true rfl) m_o (Nat.le_of_ble_eq_true rfl) (Nat.le_of_ble_eq_true rfl) rfl e186) ?_
                                      show Xv E q_m_X8_order_ 189 [Value.ref am, Value.int (zi d), Value.int (zi a), Value.int (zi b), Value.int (zi c), Value.int (zi 3), Value.int (zi (0 + 1))] [Value.int (zi 0)] (q_mw h am (uM (uM (uM (uM (uM (uM (uM M 0 5 0) 4 0 a) 4 1 b) 4 2 c) 0 5 1) 0 6 12) 0 7 b)) Q
                                      refine xv_r (x_ireturn d_X8_order__189 rfl rfl) ?_
                                      have er : mOrd (M 1) d a b c = (12, b) := by first | (exfalso; omega) | (unfold mOrd; repeat (first | rw [if_pos (by omega)] | rw [if_neg (by omega)]))
                                      refine hQ _ _ ?_
                                      unfold mMu2
                                      rw [er]
                                      exact ⟨rfl, rfl⟩
                                · refine xv (x_aload_n 177 d_X8_order__176 rfl rfl) ?_
                                  refine xv (x_bipush 179 d_X8_order__177 rfl rfl) ?_
                                  refine xv (x_aload_n 180 d_X8_order__179 rfl rfl) ?_
                                  refine xv (x_getfield 183 d_X8_order__180 rfl f_8_19 (Nat.le_of_ble_eq_true rfl) (Nat.le_of_ble_eq_true rfl) (q_gf_of m_o rfl)) ?_
                                  refine xv (x_iload 185 d_X8_order__183 rfl rfl) ?_
                                  refine xv (x_iaload 186 d_X8_order__185 rfl ((m_g4 (by omega) (by omega)).trans (rfl : _ = some (Value.int (zi a))))) ?_
                                  obtain ⟨r186, h186, e186, z186, y186⟩ := S_X8_refuse (E := E) (h := h) (am := am) (M := (uM (uM (uM (uM M 0 5 0) 4 0 a) 4 1 b) 4 2 c)) (y := 12) (z := a) 
                                  subst z186
                                  subst y186
                                  refine xv (x_inv1 189 (as := [Value.int (zi 12), Value.int (zi a)]) d_X8_order__186 rfl c_8_90 rfl (Nat.le_of_ble_eq_true rfl) (Nat.le_of_ble_eq_true rfl) m_o (Nat.le_of_ble_eq_true rfl) (Nat.le_of_ble_eq_true rfl) rfl e186) ?_
                                  show Xv E q_m_X8_order_ 189 [Value.ref am, Value.int (zi d), Value.int (zi a), Value.int (zi b), Value.int (zi c), Value.int (zi 3), Value.int (zi 0)] [Value.int (zi 0)] (q_mw h am (uM (uM (uM (uM (uM (uM (uM M 0 5 0) 4 0 a) 4 1 b) 4 2 c) 0 5 1) 0 6 12) 0 7 a)) Q
                                  refine xv_r (x_ireturn d_X8_order__189 rfl rfl) ?_
                                  have er : mOrd (M 1) d a b c = (12, a) := by first | (exfalso; omega) | (unfold mOrd; repeat (first | rw [if_pos (by omega)] | rw [if_neg (by omega)]))
                                  refine hQ _ _ ?_
                                  unfold mMu2
                                  rw [er]
                                  exact ⟨rfl, rfl⟩
                            · refine xv (x_aload_n 142 d_X8_order__141 rfl rfl) ?_
                              refine xv (x_iconst 143 d_X8_order__142 rfl) ?_
                              refine xv (x_iconst 144 d_X8_order__143 rfl) ?_
                              obtain ⟨r144, h144, e144, z144, y144⟩ := S_X8_refuse (E := E) (h := h) (am := am) (M := (uM (uM (uM (uM M 0 5 0) 4 0 a) 4 1 b) 4 2 c)) (y := 3) (z := 0) 
                              subst z144
                              subst y144
                              refine xv (x_inv1 147 (as := [Value.int (zi 3), Value.int (zi 0)]) d_X8_order__144 rfl c_8_90 rfl (Nat.le_of_ble_eq_true rfl) (Nat.le_of_ble_eq_true rfl) m_o (Nat.le_of_ble_eq_true rfl) (Nat.le_of_ble_eq_true rfl) rfl e144) ?_
                              show Xv E q_m_X8_order_ 147 [Value.ref am, Value.int (zi d), Value.int (zi a), Value.int (zi b), Value.int (zi c), Value.int (zi 3), Value.int (zi (((0 + 1) + 1) + 1))] [Value.int (zi 0)] (q_mw h am (uM (uM (uM (uM (uM (uM (uM M 0 5 0) 4 0 a) 4 1 b) 4 2 c) 0 5 1) 0 6 3) 0 7 0)) Q
                              refine xv_r (x_ireturn d_X8_order__147 rfl rfl) ?_
                              have er : mOrd (M 1) d a b c = (3, 0) := by first | (exfalso; omega) | (unfold mOrd; repeat (first | rw [if_pos (by omega)] | rw [if_neg (by omega)]))
                              refine hQ _ _ ?_
                              unfold mMu2
                              rw [er]
                              exact ⟨rfl, rfl⟩
                          · refine xv (x_iload 119 d_X8_order__117 rfl rfl) ?_
                            refine xv (x_iconst 120 d_X8_order__119 rfl) ?_
                            refine v_icmp_eq 130 123 d_X8_order__120 rfl rfl (by omega) (by omega) (by omega) (by omega) (fun k120 => ?_) (fun k120 => ?_)
                            · refine xv (x_aload_n 131 d_X8_order__130 rfl rfl) ?_
                              refine xv (x_getfield 134 d_X8_order__131 rfl f_8_9 (Nat.le_of_ble_eq_true rfl) (Nat.le_of_ble_eq_true rfl) (q_gf_of m_o rfl)) ?_
                              refine xv (x_iconst 135 d_X8_order__134 rfl) ?_
                              refine xv (x_iaload 136 d_X8_order__135 rfl ((m_g1 (by omega) (by omega)).trans (rfl : _ = some (Value.int (zi ((M 1) 4)))))) ?_
                              have q_26 : -1000000 ≤ (M 1) 4 ∧ (M 1) 4 ≤ 1000000 := hr _
                              refine xv (x_bipush 138 d_X8_order__136 rfl rfl) ?_
                              refine v_icmp_ne 148 141 d_X8_order__138 rfl rfl (by omega) (by omega) (by omega) (by omega) (fun k138 => ?_) (fun k138 => ?_)
                              · refine xv (x_iconst 149 d_X8_order__148 rfl) ?_
                                refine xv (x_istore 151 d_X8_order__149 rfl (Nat.le_of_ble_eq_true rfl)) ?_
                                show Xv E q_m_X8_order_ 151 [Value.ref am, Value.int (zi d), Value.int (zi a), Value.int (zi b), Value.int (zi c), Value.int (zi 3), Value.int (zi 0)] [] (q_mw h am (uM (uM (uM (uM M 0 5 0) 4 0 a) 4 1 b) 4 2 c)) Q
                                refine xv (x_iload 153 d_X8_order__151 rfl rfl) ?_
                                refine xv (x_iload 155 d_X8_order__153 rfl rfl) ?_
                                refine v_icmp_ge 196 158 d_X8_order__155 rfl rfl (by omega) (by omega) (by omega) (by omega) (fun k155 => ?_) (fun k155 => ?_)
                                · omega
                                · refine xv (x_aload_n 159 d_X8_order__158 rfl rfl) ?_
                                  refine xv (x_getfield 162 d_X8_order__159 rfl f_8_9 (Nat.le_of_ble_eq_true rfl) (Nat.le_of_ble_eq_true rfl) (q_gf_of m_o rfl)) ?_
                                  refine xv (x_bipush 164 d_X8_order__162 rfl rfl) ?_
                                  refine xv (x_aload_n 165 d_X8_order__164 rfl rfl) ?_
                                  refine xv (x_getfield 168 d_X8_order__165 rfl f_8_19 (Nat.le_of_ble_eq_true rfl) (Nat.le_of_ble_eq_true rfl) (q_gf_of m_o rfl)) ?_
                                  refine xv (x_iload 170 d_X8_order__168 rfl rfl) ?_
                                  refine xv (x_iaload 171 d_X8_order__170 rfl ((m_g4 (by omega) (by omega)).trans (rfl : _ = some (Value.int (zi a))))) ?_
                                  refine xv (x_iadd 172 d_X8_order__171 rfl) ?_
                                  refine xv (x_iaload 173 d_X8_order__172 rfl ((m_g1 (by omega) (by omega)).trans (rfl : _ = some (Value.int (zi ((M 1) (8 + a))))))) ?_
                                  have q_27 : -1000000 ≤ (M 1) (8 + a) ∧ (M 1) (8 + a) ≤ 1000000 := hr _
                                  refine v_if_eq 190 176 d_X8_order__173 rfl rfl (by omega) (by omega) (fun k173 => ?_) (fun k173 => ?_)
                                  · refine xv (x_iinc 193 d_X8_order__190 rfl rfl) ?_
                                    show Xv E q_m_X8_order_ 193 [Value.ref am, Value.int (zi d), Value.int (zi a), Value.int (zi b), Value.int (zi c), Value.int (zi 3), Value.int (zi (0 + 1))] [] (q_mw h am (uM (uM (uM (uM M 0 5 0) 4 0 a) 4 1 b) 4 2 c)) Q
                                    refine xv (x_goto 151 d_X8_order__193 rfl) ?_
                                    refine xv (x_iload 153 d_X8_order__151 rfl rfl) ?_
                                    refine xv (x_iload 155 d_X8_order__153 rfl rfl) ?_
                                    refine v_icmp_ge 196 158 d_X8_order__155 rfl rfl (by omega) (by omega) (by omega) (by omega) (fun k155 => ?_) (fun k155 => ?_)
                                    · omega
                                    · refine xv (x_aload_n 159 d_X8_order__158 rfl rfl) ?_
                                      refine xv (x_getfield 162 d_X8_order__159 rfl f_8_9 (Nat.le_of_ble_eq_true rfl) (Nat.le_of_ble_eq_true rfl) (q_gf_of m_o rfl)) ?_
                                      refine xv (x_bipush 164 d_X8_order__162 rfl rfl) ?_
                                      refine xv (x_aload_n 165 d_X8_order__164 rfl rfl) ?_
                                      refine xv (x_getfield 168 d_X8_order__165 rfl f_8_19 (Nat.le_of_ble_eq_true rfl) (Nat.le_of_ble_eq_true rfl) (q_gf_of m_o rfl)) ?_
                                      refine xv (x_iload 170 d_X8_order__168 rfl rfl) ?_
                                      refine xv (x_iaload 171 d_X8_order__170 rfl ((m_g4 (by omega) (by omega)).trans (rfl : _ = some (Value.int (zi b))))) ?_
                                      refine xv (x_iadd 172 d_X8_order__171 rfl) ?_
                                      refine xv (x_iaload 173 d_X8_order__172 rfl ((m_g1 (by omega) (by omega)).trans (rfl : _ = some (Value.int (zi ((M 1) (8 + b))))))) ?_
                                      have q_28 : -1000000 ≤ (M 1) (8 + b) ∧ (M 1) (8 + b) ≤ 1000000 := hr _
                                      refine v_if_eq 190 176 d_X8_order__173 rfl rfl (by omega) (by omega) (fun k173 => ?_) (fun k173 => ?_)
                                      · refine xv (x_iinc 193 d_X8_order__190 rfl rfl) ?_
                                        show Xv E q_m_X8_order_ 193 [Value.ref am, Value.int (zi d), Value.int (zi a), Value.int (zi b), Value.int (zi c), Value.int (zi 3), Value.int (zi ((0 + 1) + 1))] [] (q_mw h am (uM (uM (uM (uM M 0 5 0) 4 0 a) 4 1 b) 4 2 c)) Q
                                        refine xv (x_goto 151 d_X8_order__193 rfl) ?_
                                        refine xv (x_iload 153 d_X8_order__151 rfl rfl) ?_
                                        refine xv (x_iload 155 d_X8_order__153 rfl rfl) ?_
                                        refine v_icmp_ge 196 158 d_X8_order__155 rfl rfl (by omega) (by omega) (by omega) (by omega) (fun k155 => ?_) (fun k155 => ?_)
                                        · omega
                                        · refine xv (x_aload_n 159 d_X8_order__158 rfl rfl) ?_
                                          refine xv (x_getfield 162 d_X8_order__159 rfl f_8_9 (Nat.le_of_ble_eq_true rfl) (Nat.le_of_ble_eq_true rfl) (q_gf_of m_o rfl)) ?_
                                          refine xv (x_bipush 164 d_X8_order__162 rfl rfl) ?_
                                          refine xv (x_aload_n 165 d_X8_order__164 rfl rfl) ?_
                                          refine xv (x_getfield 168 d_X8_order__165 rfl f_8_19 (Nat.le_of_ble_eq_true rfl) (Nat.le_of_ble_eq_true rfl) (q_gf_of m_o rfl)) ?_
                                          refine xv (x_iload 170 d_X8_order__168 rfl rfl) ?_
                                          refine xv (x_iaload 171 d_X8_order__170 rfl ((m_g4 (by omega) (by omega)).trans (rfl : _ = some (Value.int (zi c))))) ?_
                                          refine xv (x_iadd 172 d_X8_order__171 rfl) ?_
                                          refine xv (x_iaload 173 d_X8_order__172 rfl ((m_g1 (by omega) (by omega)).trans (rfl : _ = some (Value.int (zi ((M 1) (8 + c))))))) ?_
                                          have q_29 : -1000000 ≤ (M 1) (8 + c) ∧ (M 1) (8 + c) ≤ 1000000 := hr _
                                          refine v_if_eq 190 176 d_X8_order__173 rfl rfl (by omega) (by omega) (fun k173 => ?_) (fun k173 => ?_)
                                          · refine xv (x_iinc 193 d_X8_order__190 rfl rfl) ?_
                                            show Xv E q_m_X8_order_ 193 [Value.ref am, Value.int (zi d), Value.int (zi a), Value.int (zi b), Value.int (zi c), Value.int (zi 3), Value.int (zi (((0 + 1) + 1) + 1))] [] (q_mw h am (uM (uM (uM (uM M 0 5 0) 4 0 a) 4 1 b) 4 2 c)) Q
                                            refine xv (x_goto 151 d_X8_order__193 rfl) ?_
                                            refine xv (x_iload 153 d_X8_order__151 rfl rfl) ?_
                                            refine xv (x_iload 155 d_X8_order__153 rfl rfl) ?_
                                            refine v_icmp_ge 196 158 d_X8_order__155 rfl rfl (by omega) (by omega) (by omega) (by omega) (fun k155 => ?_) (fun k155 => ?_)
                                            · refine xv (x_aload_n 197 d_X8_order__196 rfl rfl) ?_
                                              obtain ⟨r197, h197, e197, z197, y197⟩ := S_X8_change (E := E) (h := h) (am := am) (M := (uM (uM (uM (uM M 0 5 0) 4 0 a) 4 1 b) 4 2 c)) hc
                                              subst z197
                                              subst y197
                                              refine xv (x_inv0 200 (as := []) d_X8_order__197 rfl c_8_100 rfl (Nat.le_of_ble_eq_true rfl) (Nat.le_of_ble_eq_true rfl) m_o (Nat.le_of_ble_eq_true rfl) (Nat.le_of_ble_eq_true rfl) rfl e197) ?_
                                              generalize hM2 : mch (uM (uM (uM (uM M 0 5 0) 4 0 a) 4 1 b) 4 2 c) = M2
                                              have e2 : M2 1 = M 1 := by rw [← hM2]; exact mch_1
                                              have e4 : M2 4 = (u1 (u1 (u1 (M 4) 0 a) 1 b) 2 c) := by rw [← hM2]; exact mch_s (by decide) (by decide)
                                              have eM : M2 = uA (uA M2 1 (M 1)) 4 (u1 (u1 (u1 (M 4) 0 a) 1 b) 2 c) := by rw [← e2, uA_self, ← e4, uA_self]
                                              rw [eM]
                                              show Xv E q_m_X8_order_ 200 [Value.ref am, Value.int (zi d), Value.int (zi a), Value.int (zi b), Value.int (zi c), Value.int (zi 3), Value.int (zi (((0 + 1) + 1) + 1))] [] (q_mw h am (uA (uA M2 1 (M 1)) 4 (u1 (u1 (u1 (M 4) 0 a) 1 b) 2 c))) Q
                                              refine xv (x_aload_n 201 d_X8_order__200 rfl rfl) ?_
                                              refine xv (x_getfield 204 d_X8_order__201 rfl f_8_9 (Nat.le_of_ble_eq_true rfl) (Nat.le_of_ble_eq_true rfl) (q_gf_of m_o rfl)) ?_
                                              refine xv (x_iconst 205 d_X8_order__204 rfl) ?_
                                              refine xv (x_iaload 206 d_X8_order__205 rfl ((m_g1 (by omega) (by omega)).trans (rfl : _ = some (Value.int (zi ((M 1) 4)))))) ?_
                                              have q_30 : -1000000 ≤ (M 1) 4 ∧ (M 1) 4 ≤ 1000000 := hr _
                                              refine xv (x_istore 208 d_X8_order__206 rfl (Nat.le_of_ble_eq_true rfl)) ?_
                                              show Xv E q_m_X8_order_ 208 [Value.ref am, Value.int (zi d), Value.int (zi a), Value.int (zi b), Value.int (zi c), Value.int (zi 3), Value.int (zi ((M 1) 4))] [] (q_mw h am (uA (uA M2 1 (M 1)) 4 (u1 (u1 (u1 (M 4) 0 a) 1 b) 2 c))) Q
                                              refine xv (x_aload_n 209 d_X8_order__208 rfl rfl) ?_
                                              refine xv (x_getfield 212 d_X8_order__209 rfl f_8_9 (Nat.le_of_ble_eq_true rfl) (Nat.le_of_ble_eq_true rfl) (q_gf_of m_o rfl)) ?_
                                              refine xv (x_iload 214 d_X8_order__212 rfl rfl) ?_
                                              refine xv (x_ins1 217 (as := [Value.int (zi ((M 1) 4))]) d_X8_order__214 rfl c_8_106 rfl (Nat.le_of_ble_eq_true rfl) (Nat.le_of_ble_eq_true rfl) (Nat.le_of_ble_eq_true rfl) rfl (S_X8_order (E := E) (h := h) (am := am) (M := (uA (uA M2 1 (M 1)) 4 (u1 (u1 (u1 (M 4) 0 a) 1 b) 2 c))))) ?_
                                              show Xv E q_m_X8_order_ 217 [Value.ref am, Value.int (zi d), Value.int (zi a), Value.int (zi b), Value.int (zi c), Value.int (zi 3), Value.int (zi ((M 1) 4))] [Value.int (zi (320 + 8 * ((M 1) 4))), Value.ref (am + 1)] (q_mw h am (uA (uA M2 1 (M 1)) 4 (u1 (u1 (u1 (M 4) 0 a) 1 b) 2 c))) Q
                                              refine xv (x_iconst 218 d_X8_order__217 rfl) ?_
                                              refine xv (x_iadd 219 d_X8_order__218 rfl) ?_
                                              refine xv (x_iload_n 220 d_X8_order__219 rfl rfl) ?_
                                              refine xv (x_iastore 221 d_X8_order__220 rfl (m_s1 (by omega) (by omega))) ?_
                                              show Xv E q_m_X8_order_ 221 [Value.ref am, Value.int (zi d), Value.int (zi a), Value.int (zi b), Value.int (zi c), Value.int (zi 3), Value.int (zi ((M 1) 4))] [] (q_mw h am (uM (uA (uA M2 1 (M 1)) 4 (u1 (u1 (u1 (M 4) 0 a) 1 b) 2 c)) 1 ((320 + 8 * ((M 1) 4)) + 0) d)) Q
                                              refine xv (x_aload_n 222 d_X8_order__221 rfl rfl) ?_
                                              refine xv (x_getfield 225 d_X8_order__222 rfl f_8_9 (Nat.le_of_ble_eq_true rfl) (Nat.le_of_ble_eq_true rfl) (q_gf_of m_o rfl)) ?_
                                              refine xv (x_iload 227 d_X8_order__225 rfl rfl) ?_
                                              refine xv (x_ins1 230 (as := [Value.int (zi ((M 1) 4))]) d_X8_order__227 rfl c_8_106 rfl (Nat.le_of_ble_eq_true rfl) (Nat.le_of_ble_eq_true rfl) (Nat.le_of_ble_eq_true rfl) rfl (S_X8_order (E := E) (h := h) (am := am) (M := (uM (uA (uA M2 1 (M 1)) 4 (u1 (u1 (u1 (M 4) 0 a) 1 b) 2 c)) 1 ((320 + 8 * ((M 1) 4)) + 0) d)))) ?_
                                              show Xv E q_m_X8_order_ 230 [Value.ref am, Value.int (zi d), Value.int (zi a), Value.int (zi b), Value.int (zi c), Value.int (zi 3), Value.int (zi ((M 1) 4))] [Value.int (zi (320 + 8 * ((M 1) 4))), Value.ref (am + 1)] (q_mw h am (uM (uA (uA M2 1 (M 1)) 4 (u1 (u1 (u1 (M 4) 0 a) 1 b) 2 c)) 1 ((320 + 8 * ((M 1) 4)) + 0) d)) Q
                                              refine xv (x_iconst 231 d_X8_order__230 rfl) ?_
                                              refine xv (x_iadd 232 d_X8_order__231 rfl) ?_
                                              refine xv (x_iload 234 d_X8_order__232 rfl rfl) ?_
                                              refine xv (x_iastore 235 d_X8_order__234 rfl (m_s1 (by omega) (by omega))) ?_
                                              show Xv E q_m_X8_order_ 235 [Value.ref am, Value.int (zi d), Value.int (zi a), Value.int (zi b), Value.int (zi c), Value.int (zi 3), Value.int (zi ((M 1) 4))] [] (q_mw h am (uM (uM (uA (uA M2 1 (M 1)) 4 (u1 (u1 (u1 (M 4) 0 a) 1 b) 2 c)) 1 ((320 + 8 * ((M 1) 4)) + 0) d) 1 ((320 + 8 * ((M 1) 4)) + 1) 3)) Q
                                              refine xv (x_aload_n 236 d_X8_order__235 rfl rfl) ?_
                                              refine xv (x_getfield 239 d_X8_order__236 rfl f_8_9 (Nat.le_of_ble_eq_true rfl) (Nat.le_of_ble_eq_true rfl) (q_gf_of m_o rfl)) ?_
                                              refine xv (x_iload 241 d_X8_order__239 rfl rfl) ?_
                                              refine xv (x_ins1 244 (as := [Value.int (zi ((M 1) 4))]) d_X8_order__241 rfl c_8_106 rfl (Nat.le_of_ble_eq_true rfl) (Nat.le_of_ble_eq_true rfl) (Nat.le_of_ble_eq_true rfl) rfl (S_X8_order (E := E) (h := h) (am := am) (M := (uM (uM (uA (uA M2 1 (M 1)) 4 (u1 (u1 (u1 (M 4) 0 a) 1 b) 2 c)) 1 ((320 + 8 * ((M 1) 4)) + 0) d) 1 ((320 + 8 * ((M 1) 4)) + 1) 3)))) ?_
                                              show Xv E q_m_X8_order_ 244 [Value.ref am, Value.int (zi d), Value.int (zi a), Value.int (zi b), Value.int (zi c), Value.int (zi 3), Value.int (zi ((M 1) 4))] [Value.int (zi (320 + 8 * ((M 1) 4))), Value.ref (am + 1)] (q_mw h am (uM (uM (uA (uA M2 1 (M 1)) 4 (u1 (u1 (u1 (M 4) 0 a) 1 b) 2 c)) 1 ((320 + 8 * ((M 1) 4)) + 0) d) 1 ((320 + 8 * ((M 1) 4)) + 1) 3)) Q
                                              refine xv (x_iconst 245 d_X8_order__244 rfl) ?_
                                              refine xv (x_iadd 246 d_X8_order__245 rfl) ?_
                                              refine xv (x_iconst 247 d_X8_order__246 rfl) ?_
                                              refine xv (x_iastore 248 d_X8_order__247 rfl (m_s1 (by omega) (by omega))) ?_
                                              show Xv E q_m_X8_order_ 248 [Value.ref am, Value.int (zi d), Value.int (zi a), Value.int (zi b), Value.int (zi c), Value.int (zi 3), Value.int (zi ((M 1) 4))] [] (q_mw h am (uM (uM (uM (uA (uA M2 1 (M 1)) 4 (u1 (u1 (u1 (M 4) 0 a) 1 b) 2 c)) 1 ((320 + 8 * ((M 1) 4)) + 0) d) 1 ((320 + 8 * ((M 1) 4)) + 1) 3) 1 ((320 + 8 * ((M 1) 4)) + 2) 0)) Q
                                              refine xv (x_aload_n 249 d_X8_order__248 rfl rfl) ?_
                                              refine xv (x_getfield 252 d_X8_order__249 rfl f_8_9 (Nat.le_of_ble_eq_true rfl) (Nat.le_of_ble_eq_true rfl) (q_gf_of m_o rfl)) ?_
                                              refine xv (x_iload 254 d_X8_order__252 rfl rfl) ?_
                                              refine xv (x_ins1 257 (as := [Value.int (zi ((M 1) 4))]) d_X8_order__254 rfl c_8_106 rfl (Nat.le_of_ble_eq_true rfl) (Nat.le_of_ble_eq_true rfl) (Nat.le_of_ble_eq_true rfl) rfl (S_X8_order (E := E) (h := h) (am := am) (M := (uM (uM (uM (uA (uA M2 1 (M 1)) 4 (u1 (u1 (u1 (M 4) 0 a) 1 b) 2 c)) 1 ((320 + 8 * ((M 1) 4)) + 0) d) 1 ((320 + 8 * ((M 1) 4)) + 1) 3) 1 ((320 + 8 * ((M 1) 4)) + 2) 0)))) ?_
                                              show Xv E q_m_X8_order_ 257 [Value.ref am, Value.int (zi d), Value.int (zi a), Value.int (zi b), Value.int (zi c), Value.int (zi 3), Value.int (zi ((M 1) 4))] [Value.int (zi (320 + 8 * ((M 1) 4))), Value.ref (am + 1)] (q_mw h am (uM (uM (uM (uA (uA M2 1 (M 1)) 4 (u1 (u1 (u1 (M 4) 0 a) 1 b) 2 c)) 1 ((320 + 8 * ((M 1) 4)) + 0) d) 1 ((320 + 8 * ((M 1) 4)) + 1) 3) 1 ((320 + 8 * ((M 1) 4)) + 2) 0)) Q
                                              refine xv (x_iconst 258 d_X8_order__257 rfl) ?_
                                              refine xv (x_iadd 259 d_X8_order__258 rfl) ?_
                                              refine xv (x_iconst 260 d_X8_order__259 rfl) ?_
                                              refine xv (x_iastore 261 d_X8_order__260 rfl (m_s1 (by omega) (by omega))) ?_
                                              show Xv E q_m_X8_order_ 261 [Value.ref am, Value.int (zi d), Value.int (zi a), Value.int (zi b), Value.int (zi c), Value.int (zi 3), Value.int (zi ((M 1) 4))] [] (q_mw h am (uM (uM (uM (uM (uA (uA M2 1 (M 1)) 4 (u1 (u1 (u1 (M 4) 0 a) 1 b) 2 c)) 1 ((320 + 8 * ((M 1) 4)) + 0) d) 1 ((320 + 8 * ((M 1) 4)) + 1) 3) 1 ((320 + 8 * ((M 1) 4)) + 2) 0) 1 ((320 + 8 * ((M 1) 4)) + 3) (-1))) Q
                                              refine xv (x_aload_n 262 d_X8_order__261 rfl rfl) ?_
                                              refine xv (x_getfield 265 d_X8_order__262 rfl f_8_9 (Nat.le_of_ble_eq_true rfl) (Nat.le_of_ble_eq_true rfl) (q_gf_of m_o rfl)) ?_
                                              refine xv (x_iload 267 d_X8_order__265 rfl rfl) ?_
                                              refine xv (x_ins1 270 (as := [Value.int (zi ((M 1) 4))]) d_X8_order__267 rfl c_8_106 rfl (Nat.le_of_ble_eq_true rfl) (Nat.le_of_ble_eq_true rfl) (Nat.le_of_ble_eq_true rfl) rfl (S_X8_order (E := E) (h := h) (am := am) (M := (uM (uM (uM (uM (uA (uA M2 1 (M 1)) 4 (u1 (u1 (u1 (M 4) 0 a) 1 b) 2 c)) 1 ((320 + 8 * ((M 1) 4)) + 0) d) 1 ((320 + 8 * ((M 1) 4)) + 1) 3) 1 ((320 + 8 * ((M 1) 4)) + 2) 0) 1 ((320 + 8 * ((M 1) 4)) + 3) (-1))))) ?_
                                              show Xv E q_m_X8_order_ 270 [Value.ref am, Value.int (zi d), Value.int (zi a), Value.int (zi b), Value.int (zi c), Value.int (zi 3), Value.int (zi ((M 1) 4))] [Value.int (zi (320 + 8 * ((M 1) 4))), Value.ref (am + 1)] (q_mw h am (uM (uM (uM (uM (uA (uA M2 1 (M 1)) 4 (u1 (u1 (u1 (M 4) 0 a) 1 b) 2 c)) 1 ((320 + 8 * ((M 1) 4)) + 0) d) 1 ((320 + 8 * ((M 1) 4)) + 1) 3) 1 ((320 + 8 * ((M 1) 4)) + 2) 0) 1 ((320 + 8 * ((M 1) 4)) + 3) (-1))) Q
                                              refine xv (x_iconst 271 d_X8_order__270 rfl) ?_
                                              refine xv (x_iadd 272 d_X8_order__271 rfl) ?_
                                              refine xv (x_iconst 273 d_X8_order__272 rfl) ?_
                                              refine xv (x_iastore 274 d_X8_order__273 rfl (m_s1 (by omega) (by omega))) ?_
                                              show Xv E q_m_X8_order_ 274 [Value.ref am, Value.int (zi d), Value.int (zi a), Value.int (zi b), Value.int (zi c), Value.int (zi 3), Value.int (zi ((M 1) 4))] [] (q_mw h am (uM (uM (uM (uM (uM (uA (uA M2 1 (M 1)) 4 (u1 (u1 (u1 (M 4) 0 a) 1 b) 2 c)) 1 ((320 + 8 * ((M 1) 4)) + 0) d) 1 ((320 + 8 * ((M 1) 4)) + 1) 3) 1 ((320 + 8 * ((M 1) 4)) + 2) 0) 1 ((320 + 8 * ((M 1) 4)) + 3) (-1)) 1 ((320 + 8 * ((M 1) 4)) + 4) (-1))) Q
                                              refine xv (x_aload_n 275 d_X8_order__274 rfl rfl) ?_
                                              refine xv (x_getfield 278 d_X8_order__275 rfl f_8_19 (Nat.le_of_ble_eq_true rfl) (Nat.le_of_ble_eq_true rfl) (q_gf_of m_o rfl)) ?_
                                              refine xv (x_iconst 279 d_X8_order__278 rfl) ?_
                                              refine xv (x_aload_n 280 d_X8_order__279 rfl rfl) ?_
                                              refine xv (x_getfield 283 d_X8_order__280 rfl f_8_9 (Nat.le_of_ble_eq_true rfl) (Nat.le_of_ble_eq_true rfl) (q_gf_of m_o rfl)) ?_
                                              refine xv (x_iload 285 d_X8_order__283 rfl rfl) ?_
                                              refine xv (x_ins1 288 (as := [Value.int (zi ((M 1) 4))]) d_X8_order__285 rfl c_8_106 rfl (Nat.le_of_ble_eq_true rfl) (Nat.le_of_ble_eq_true rfl) (Nat.le_of_ble_eq_true rfl) rfl (S_X8_order (E := E) (h := h) (am := am) (M := (uM (uM (uM (uM (uM (uA (uA M2 1 (M 1)) 4 (u1 (u1 (u1 (M 4) 0 a) 1 b) 2 c)) 1 ((320 + 8 * ((M 1) 4)) + 0) d) 1 ((320 + 8 * ((M 1) 4)) + 1) 3) 1 ((320 + 8 * ((M 1) 4)) + 2) 0) 1 ((320 + 8 * ((M 1) 4)) + 3) (-1)) 1 ((320 + 8 * ((M 1) 4)) + 4) (-1))))) ?_
                                              show Xv E q_m_X8_order_ 288 [Value.ref am, Value.int (zi d), Value.int (zi a), Value.int (zi b), Value.int (zi c), Value.int (zi 3), Value.int (zi ((M 1) 4))] [Value.int (zi (320 + 8 * ((M 1) 4))), Value.ref (am + 1), Value.int (zi 0), Value.ref (am + 4)] (q_mw h am (uM (uM (uM (uM (uM (uA (uA M2 1 (M 1)) 4 (u1 (u1 (u1 (M 4) 0 a) 1 b) 2 c)) 1 ((320 + 8 * ((M 1) 4)) + 0) d) 1 ((320 + 8 * ((M 1) 4)) + 1) 3) 1 ((320 + 8 * ((M 1) 4)) + 2) 0) 1 ((320 + 8 * ((M 1) 4)) + 3) (-1)) 1 ((320 + 8 * ((M 1) 4)) + 4) (-1))) Q
                                              refine xv (x_iconst 289 d_X8_order__288 rfl) ?_
                                              refine xv (x_iadd 290 d_X8_order__289 rfl) ?_
                                              refine xv (x_iconst 291 d_X8_order__290 rfl) ?_
                                              refine xv (x_copy 294 d_X8_order__291 rfl rfl rfl (Nat.le_of_ble_eq_true rfl) (Nat.le_of_ble_eq_true rfl) (Nat.le_of_ble_eq_true rfl) (m_cpy 4 1 m_a4 m_a1 m_w1 (by omega) (by omega) (by omega) (by omega) (by omega) (by decide) (by decide))) ?_
                                              show Xv E q_m_X8_order_ 294 [Value.ref am, Value.int (zi d), Value.int (zi a), Value.int (zi b), Value.int (zi c), Value.int (zi 3), Value.int (zi ((M 1) 4))] [] (q_mw h am (uA (uM (uM (uM (uM (uM (uA (uA M2 1 (M 1)) 4 (u1 (u1 (u1 (M 4) 0 a) 1 b) 2 c)) 1 ((320 + 8 * ((M 1) 4)) + 0) d) 1 ((320 + 8 * ((M 1) 4)) + 1) 3) 1 ((320 + 8 * ((M 1) 4)) + 2) 0) 1 ((320 + 8 * ((M 1) 4)) + 3) (-1)) 1 ((320 + 8 * ((M 1) 4)) + 4) (-1)) 1 (cpI (u1 (u1 (u1 (M 4) 0 a) 1 b) 2 c) (u1 (u1 (u1 (u1 (u1 (M 1) ((320 + 8 * ((M 1) 4)) + 0) d) ((320 + 8 * ((M 1) 4)) + 1) 3) ((320 + 8 * ((M 1) 4)) + 2) 0) ((320 + 8 * ((M 1) 4)) + 3) (-1)) ((320 + 8 * ((M 1) 4)) + 4) (-1)) 0 ((320 + 8 * ((M 1) 4)) + 5) 3))) Q
                                              refine xv (x_aload_n 295 d_X8_order__294 rfl rfl) ?_
                                              refine xv (x_getfield 298 d_X8_order__295 rfl f_8_9 (Nat.le_of_ble_eq_true rfl) (Nat.le_of_ble_eq_true rfl) (q_gf_of m_o rfl)) ?_
                                              refine xv (x_iconst 299 d_X8_order__298 rfl) ?_
                                              refine xv (x_dup2 300 d_X8_order__299 rfl rfl rfl) ?_
                                              refine xv (x_iaload 301 d_X8_order__300 rfl ((m_g1 (by omega) (by omega)).trans (rfl : _ = some (Value.int (zi ((cpI (u1 (u1 (u1 (M 4) 0 a) 1 b) 2 c) (u1 (u1 (u1 (u1 (u1 (M 1) ((320 + 8 * ((M 1) 4)) + 0) d) ((320 + 8 * ((M 1) 4)) + 1) 3) ((320 + 8 * ((M 1) 4)) + 2) 0) ((320 + 8 * ((M 1) 4)) + 3) (-1)) ((320 + 8 * ((M 1) 4)) + 4) (-1)) 0 ((320 + 8 * ((M 1) 4)) + 5) 3) 4)))))) ?_
                                              refine xv (x_iconst 302 d_X8_order__301 rfl) ?_
                                              refine xv (x_iadd 303 d_X8_order__302 rfl) ?_
                                              refine xv (x_iastore 304 d_X8_order__303 rfl (m_s1 (by omega) (by omega))) ?_
                                              show Xv E q_m_X8_order_ 304 [Value.ref am, Value.int (zi d), Value.int (zi a), Value.int (zi b), Value.int (zi c), Value.int (zi 3), Value.int (zi ((M 1) 4))] [] (q_mw h am (uM (uA (uM (uM (uM (uM (uM (uA (uA M2 1 (M 1)) 4 (u1 (u1 (u1 (M 4) 0 a) 1 b) 2 c)) 1 ((320 + 8 * ((M 1) 4)) + 0) d) 1 ((320 + 8 * ((M 1) 4)) + 1) 3) 1 ((320 + 8 * ((M 1) 4)) + 2) 0) 1 ((320 + 8 * ((M 1) 4)) + 3) (-1)) 1 ((320 + 8 * ((M 1) 4)) + 4) (-1)) 1 (cpI (u1 (u1 (u1 (M 4) 0 a) 1 b) 2 c) (u1 (u1 (u1 (u1 (u1 (M 1) ((320 + 8 * ((M 1) 4)) + 0) d) ((320 + 8 * ((M 1) 4)) + 1) 3) ((320 + 8 * ((M 1) 4)) + 2) 0) ((320 + 8 * ((M 1) 4)) + 3) (-1)) ((320 + 8 * ((M 1) 4)) + 4) (-1)) 0 ((320 + 8 * ((M 1) 4)) + 5) 3)) 1 4 (((cpI (u1 (u1 (u1 (M 4) 0 a) 1 b) 2 c) (u1 (u1 (u1 (u1 (u1 (M 1) ((320 + 8 * ((M 1) 4)) + 0) d) ((320 + 8 * ((M 1) 4)) + 1) 3) ((320 + 8 * ((M 1) 4)) + 2) 0) ((320 + 8 * ((M 1) 4)) + 3) (-1)) ((320 + 8 * ((M 1) 4)) + 4) (-1)) 0 ((320 + 8 * ((M 1) 4)) + 5) 3) 4) + 1))) Q
                                              refine xv (x_iload 306 d_X8_order__304 rfl rfl) ?_
                                              refine xv_r (x_ireturn d_X8_order__306 rfl rfl) ?_
                                              have er : mOrd (M 1) d a b c = (0, 0) := by first | (exfalso; omega) | (unfold mOrd; repeat (first | rw [if_pos (by omega)] | rw [if_neg (by omega)]))
                                              have ec : cntO b c = 3 := by first | (exfalso; omega) | (unfold cntO; repeat (first | rw [if_pos (by omega)] | rw [if_neg (by omega)]))
                                              refine hQ _ _ ?_
                                              unfold mMu2
                                              rw [er, if_pos rfl, ec]
                                              refine ⟨rfl, ?_⟩
                                              unfold lnO
                                              rw [hM2, ← eM]
                                              simp only [uM_uA, uA_uA, uA_eq]
                                              rfl
                                            · omega
                                          · refine xv (x_aload_n 177 d_X8_order__176 rfl rfl) ?_
                                            refine xv (x_bipush 179 d_X8_order__177 rfl rfl) ?_
                                            refine xv (x_aload_n 180 d_X8_order__179 rfl rfl) ?_
                                            refine xv (x_getfield 183 d_X8_order__180 rfl f_8_19 (Nat.le_of_ble_eq_true rfl) (Nat.le_of_ble_eq_true rfl) (q_gf_of m_o rfl)) ?_
                                            refine xv (x_iload 185 d_X8_order__183 rfl rfl) ?_
                                            refine xv (x_iaload 186 d_X8_order__185 rfl ((m_g4 (by omega) (by omega)).trans (rfl : _ = some (Value.int (zi c))))) ?_
                                            obtain ⟨r186, h186, e186, z186, y186⟩ := S_X8_refuse (E := E) (h := h) (am := am) (M := (uM (uM (uM (uM M 0 5 0) 4 0 a) 4 1 b) 4 2 c)) (y := 12) (z := c) 
                                            subst z186
                                            subst y186
                                            refine xv (x_inv1 189 (as := [Value.int (zi 12), Value.int (zi c)]) d_X8_order__186 rfl c_8_90 rfl (Nat.le_of_ble_eq_true rfl) (Nat.le_of_ble_eq_true rfl) m_o (Nat.le_of_ble_eq_true rfl) (Nat.le_of_ble_eq_true rfl) rfl e186) ?_
                                            show Xv E q_m_X8_order_ 189 [Value.ref am, Value.int (zi d), Value.int (zi a), Value.int (zi b), Value.int (zi c), Value.int (zi 3), Value.int (zi ((0 + 1) + 1))] [Value.int (zi 0)] (q_mw h am (uM (uM (uM (uM (uM (uM (uM M 0 5 0) 4 0 a) 4 1 b) 4 2 c) 0 5 1) 0 6 12) 0 7 c)) Q
                                            refine xv_r (x_ireturn d_X8_order__189 rfl rfl) ?_
                                            have er : mOrd (M 1) d a b c = (12, c) := by first | (exfalso; omega) | (unfold mOrd; repeat (first | rw [if_pos (by omega)] | rw [if_neg (by omega)]))
                                            refine hQ _ _ ?_
                                            unfold mMu2
                                            rw [er]
                                            exact ⟨rfl, rfl⟩
                                      · refine xv (x_aload_n 177 d_X8_order__176 rfl rfl) ?_
                                        refine xv (x_bipush 179 d_X8_order__177 rfl rfl) ?_
                                        refine xv (x_aload_n 180 d_X8_order__179 rfl rfl) ?_
                                        refine xv (x_getfield 183 d_X8_order__180 rfl f_8_19 (Nat.le_of_ble_eq_true rfl) (Nat.le_of_ble_eq_true rfl) (q_gf_of m_o rfl)) ?_
                                        refine xv (x_iload 185 d_X8_order__183 rfl rfl) ?_
                                        refine xv (x_iaload 186 d_X8_order__185 rfl ((m_g4 (by omega) (by omega)).trans (rfl : _ = some (Value.int (zi b))))) ?_
                                        obtain ⟨r186, h186, e186, z186, y186⟩ := S_X8_refuse (E := E) (h := h) (am := am) (M := (uM (uM (uM (uM M 0 5 0) 4 0 a) 4 1 b) 4 2 c)) (y := 12) (z := b) 
                                        subst z186
                                        subst y186
                                        refine xv (x_inv1 189 (as := [Value.int (zi 12), Value.int (zi b)]) d_X8_order__186 rfl c_8_90 rfl (Nat.le_of_ble_eq_true rfl) (Nat.le_of_ble_eq_true rfl) m_o (Nat.le_of_ble_eq_true rfl) (Nat.le_of_ble_eq_true rfl) rfl e186) ?_
                                        show Xv E q_m_X8_order_ 189 [Value.ref am, Value.int (zi d), Value.int (zi a), Value.int (zi b), Value.int (zi c), Value.int (zi 3), Value.int (zi (0 + 1))] [Value.int (zi 0)] (q_mw h am (uM (uM (uM (uM (uM (uM (uM M 0 5 0) 4 0 a) 4 1 b) 4 2 c) 0 5 1) 0 6 12) 0 7 b)) Q
                                        refine xv_r (x_ireturn d_X8_order__189 rfl rfl) ?_
                                        have er : mOrd (M 1) d a b c = (12, b) := by first | (exfalso; omega) | (unfold mOrd; repeat (first | rw [if_pos (by omega)] | rw [if_neg (by omega)]))
                                        refine hQ _ _ ?_
                                        unfold mMu2
                                        rw [er]
                                        exact ⟨rfl, rfl⟩
                                  · refine xv (x_aload_n 177 d_X8_order__176 rfl rfl) ?_
                                    refine xv (x_bipush 179 d_X8_order__177 rfl rfl) ?_
                                    refine xv (x_aload_n 180 d_X8_order__179 rfl rfl) ?_
                                    refine xv (x_getfield 183 d_X8_order__180 rfl f_8_19 (Nat.le_of_ble_eq_true rfl) (Nat.le_of_ble_eq_true rfl) (q_gf_of m_o rfl)) ?_
                                    refine xv (x_iload 185 d_X8_order__183 rfl rfl) ?_
                                    refine xv (x_iaload 186 d_X8_order__185 rfl ((m_g4 (by omega) (by omega)).trans (rfl : _ = some (Value.int (zi a))))) ?_
                                    obtain ⟨r186, h186, e186, z186, y186⟩ := S_X8_refuse (E := E) (h := h) (am := am) (M := (uM (uM (uM (uM M 0 5 0) 4 0 a) 4 1 b) 4 2 c)) (y := 12) (z := a) 
                                    subst z186
                                    subst y186
                                    refine xv (x_inv1 189 (as := [Value.int (zi 12), Value.int (zi a)]) d_X8_order__186 rfl c_8_90 rfl (Nat.le_of_ble_eq_true rfl) (Nat.le_of_ble_eq_true rfl) m_o (Nat.le_of_ble_eq_true rfl) (Nat.le_of_ble_eq_true rfl) rfl e186) ?_
                                    show Xv E q_m_X8_order_ 189 [Value.ref am, Value.int (zi d), Value.int (zi a), Value.int (zi b), Value.int (zi c), Value.int (zi 3), Value.int (zi 0)] [Value.int (zi 0)] (q_mw h am (uM (uM (uM (uM (uM (uM (uM M 0 5 0) 4 0 a) 4 1 b) 4 2 c) 0 5 1) 0 6 12) 0 7 a)) Q
                                    refine xv_r (x_ireturn d_X8_order__189 rfl rfl) ?_
                                    have er : mOrd (M 1) d a b c = (12, a) := by first | (exfalso; omega) | (unfold mOrd; repeat (first | rw [if_pos (by omega)] | rw [if_neg (by omega)]))
                                    refine hQ _ _ ?_
                                    unfold mMu2
                                    rw [er]
                                    exact ⟨rfl, rfl⟩
                              · refine xv (x_aload_n 142 d_X8_order__141 rfl rfl) ?_
                                refine xv (x_iconst 143 d_X8_order__142 rfl) ?_
                                refine xv (x_iconst 144 d_X8_order__143 rfl) ?_
                                obtain ⟨r144, h144, e144, z144, y144⟩ := S_X8_refuse (E := E) (h := h) (am := am) (M := (uM (uM (uM (uM M 0 5 0) 4 0 a) 4 1 b) 4 2 c)) (y := 3) (z := 0) 
                                subst z144
                                subst y144
                                refine xv (x_inv1 147 (as := [Value.int (zi 3), Value.int (zi 0)]) d_X8_order__144 rfl c_8_90 rfl (Nat.le_of_ble_eq_true rfl) (Nat.le_of_ble_eq_true rfl) m_o (Nat.le_of_ble_eq_true rfl) (Nat.le_of_ble_eq_true rfl) rfl e144) ?_
                                show Xv E q_m_X8_order_ 147 [Value.ref am, Value.int (zi d), Value.int (zi a), Value.int (zi b), Value.int (zi c), Value.int (zi 3), Value.int (zi (((0 + 1) + 1) + 1))] [Value.int (zi 0)] (q_mw h am (uM (uM (uM (uM (uM (uM (uM M 0 5 0) 4 0 a) 4 1 b) 4 2 c) 0 5 1) 0 6 3) 0 7 0)) Q
                                refine xv_r (x_ireturn d_X8_order__147 rfl rfl) ?_
                                have er : mOrd (M 1) d a b c = (3, 0) := by first | (exfalso; omega) | (unfold mOrd; repeat (first | rw [if_pos (by omega)] | rw [if_neg (by omega)]))
                                refine hQ _ _ ?_
                                unfold mMu2
                                rw [er]
                                exact ⟨rfl, rfl⟩
                            · refine xv (x_aload_n 124 d_X8_order__123 rfl rfl) ?_
                              refine xv (x_iconst 125 d_X8_order__124 rfl) ?_
                              refine xv (x_iconst 126 d_X8_order__125 rfl) ?_
                              obtain ⟨r126, h126, e126, z126, y126⟩ := S_X8_refuse (E := E) (h := h) (am := am) (M := (uM (uM (uM (uM M 0 5 0) 4 0 a) 4 1 b) 4 2 c)) (y := 2) (z := 0) 
                              subst z126
                              subst y126
                              refine xv (x_inv1 129 (as := [Value.int (zi 2), Value.int (zi 0)]) d_X8_order__126 rfl c_8_90 rfl (Nat.le_of_ble_eq_true rfl) (Nat.le_of_ble_eq_true rfl) m_o (Nat.le_of_ble_eq_true rfl) (Nat.le_of_ble_eq_true rfl) rfl e126) ?_
                              show Xv E q_m_X8_order_ 129 [Value.ref am, Value.int (zi d), Value.int (zi a), Value.int (zi b), Value.int (zi c), Value.int (zi 3), Value.int (zi (((0 + 1) + 1) + 1))] [Value.int (zi 0)] (q_mw h am (uM (uM (uM (uM (uM (uM (uM M 0 5 0) 4 0 a) 4 1 b) 4 2 c) 0 5 1) 0 6 2) 0 7 0)) Q
                              refine xv_r (x_ireturn d_X8_order__129 rfl rfl) ?_
                              have er : mOrd (M 1) d a b c = (2, 0) := by first | (exfalso; omega) | (unfold mOrd; repeat (first | rw [if_pos (by omega)] | rw [if_neg (by omega)]))
                              refine hQ _ _ ?_
                              unfold mMu2
                              rw [er]
                              exact ⟨rfl, rfl⟩
                      · omega
                    · replace k69 := bI_0.mp k69
                      refine xv (x_iload 74 d_X8_order__72 rfl rfl) ?_
                      refine v_if_eq 88 77 d_X8_order__74 rfl rfl (by omega) (by omega) (fun k74 => ?_) (fun k74 => ?_)
                      · omega
                      · refine xv (x_aload_n 78 d_X8_order__77 rfl rfl) ?_
                        refine xv (x_getfield 81 d_X8_order__78 rfl f_8_19 (Nat.le_of_ble_eq_true rfl) (Nat.le_of_ble_eq_true rfl) (q_gf_of m_o rfl)) ?_
                        refine xv (x_iload 83 d_X8_order__81 rfl rfl) ?_
                        refine xv (x_iaload 84 d_X8_order__83 rfl ((m_g4 (by omega) (by omega)).trans (rfl : _ = some (Value.int (zi c))))) ?_
                        refine xv (x_iconst 85 d_X8_order__84 rfl) ?_
                        refine v_icmp_eq 95 88 d_X8_order__85 rfl rfl (by omega) (by omega) (by omega) (by omega) (fun k85 => ?_) (fun k85 => ?_)
                        · refine xv (x_iinc 98 d_X8_order__95 rfl rfl) ?_
                          show Xv E q_m_X8_order_ 98 [Value.ref am, Value.int (zi d), Value.int (zi a), Value.int (zi b), Value.int (zi c), Value.int (zi 3), Value.int (zi (((0 + 1) + 1) + 1))] [] (q_mw h am (uM (uM (uM (uM M 0 5 0) 4 0 a) 4 1 b) 4 2 c)) Q
                          refine xv (x_goto 52 d_X8_order__98 rfl) ?_
                          refine xv (x_iload 54 d_X8_order__52 rfl rfl) ?_
                          refine xv (x_iconst 55 d_X8_order__54 rfl) ?_
                          refine v_icmp_ge 101 58 d_X8_order__55 rfl rfl (by omega) (by omega) (by omega) (by omega) (fun k55 => ?_) (fun k55 => ?_)
                          · refine xv (x_iload_n 102 d_X8_order__101 rfl rfl) ?_
                            refine xv (x_iconst 103 d_X8_order__102 rfl) ?_
                            refine xv (x_sipush 106 d_X8_order__103 rfl rfl) ?_
                            refine xv (x_ins1 109 (as := [Value.int (zi d), Value.int (zi 0), Value.int (zi 999)]) d_X8_order__106 rfl c_8_71 rfl (Nat.le_of_ble_eq_true rfl) (Nat.le_of_ble_eq_true rfl) (Nat.le_of_ble_eq_true rfl) rfl (S_X8_in (E := E) (h := h) (am := am) (M := (uM (uM (uM (uM M 0 5 0) 4 0 a) 4 1 b) 4 2 c)) (by first | omega | (rw [show (uM (uM (uM (uM M 0 5 0) 4 0 a) 4 1 b) 4 2 c) 1 = (M 1) from rfl]; omega)) (by first | omega | (rw [show (uM (uM (uM (uM M 0 5 0) 4 0 a) 4 1 b) 4 2 c) 1 = (M 1) from rfl]; omega)) (by first | omega | (rw [show (uM (uM (uM (uM M 0 5 0) 4 0 a) 4 1 b) 4 2 c) 1 = (M 1) from rfl]; omega)) (by first | omega | (rw [show (uM (uM (uM (uM M 0 5 0) 4 0 a) 4 1 b) 4 2 c) 1 = (M 1) from rfl]; omega)) (by first | omega | (rw [show (uM (uM (uM (uM M 0 5 0) 4 0 a) 4 1 b) 4 2 c) 1 = (M 1) from rfl]; omega)) (by first | omega | (rw [show (uM (uM (uM (uM M 0 5 0) 4 0 a) 4 1 b) 4 2 c) 1 = (M 1) from rfl]; omega)))) ?_
                            show Xv E q_m_X8_order_ 109 [Value.ref am, Value.int (zi d), Value.int (zi a), Value.int (zi b), Value.int (zi c), Value.int (zi 3), Value.int (zi (((0 + 1) + 1) + 1))] [Value.int (zi (bI (inn d 0 999)))] (q_mw h am (uM (uM (uM (uM M 0 5 0) 4 0 a) 4 1 b) 4 2 c)) Q
                            refine v_if_eq 123 112 d_X8_order__109 rfl rfl (by have := bI_r (inn d 0 999); omega) (by have := bI_r (inn d 0 999); omega) (fun k109 => ?_) (fun k109 => ?_)
                            · replace k109 := bI_0.mp k109
                              refine xv (x_aload_n 124 d_X8_order__123 rfl rfl) ?_
                              refine xv (x_iconst 125 d_X8_order__124 rfl) ?_
                              refine xv (x_iconst 126 d_X8_order__125 rfl) ?_
                              obtain ⟨r126, h126, e126, z126, y126⟩ := S_X8_refuse (E := E) (h := h) (am := am) (M := (uM (uM (uM (uM M 0 5 0) 4 0 a) 4 1 b) 4 2 c)) (y := 2) (z := 0) 
                              subst z126
                              subst y126
                              refine xv (x_inv1 129 (as := [Value.int (zi 2), Value.int (zi 0)]) d_X8_order__126 rfl c_8_90 rfl (Nat.le_of_ble_eq_true rfl) (Nat.le_of_ble_eq_true rfl) m_o (Nat.le_of_ble_eq_true rfl) (Nat.le_of_ble_eq_true rfl) rfl e126) ?_
                              show Xv E q_m_X8_order_ 129 [Value.ref am, Value.int (zi d), Value.int (zi a), Value.int (zi b), Value.int (zi c), Value.int (zi 3), Value.int (zi (((0 + 1) + 1) + 1))] [Value.int (zi 0)] (q_mw h am (uM (uM (uM (uM (uM (uM (uM M 0 5 0) 4 0 a) 4 1 b) 4 2 c) 0 5 1) 0 6 2) 0 7 0)) Q
                              refine xv_r (x_ireturn d_X8_order__129 rfl rfl) ?_
                              have er : mOrd (M 1) d a b c = (2, 0) := by first | (exfalso; omega) | (unfold mOrd; repeat (first | rw [if_pos (by omega)] | rw [if_neg (by omega)]))
                              refine hQ _ _ ?_
                              unfold mMu2
                              rw [er]
                              exact ⟨rfl, rfl⟩
                            · replace k109 := bI_n0.mp k109
                              refine xv (x_iload_n 113 d_X8_order__112 rfl rfl) ?_
                              refine xv (x_iconst 114 d_X8_order__113 rfl) ?_
                              refine v_icmp_ne 130 117 d_X8_order__114 rfl rfl (by omega) (by omega) (by omega) (by omega) (fun k114 => ?_) (fun k114 => ?_)
                              · refine xv (x_aload_n 131 d_X8_order__130 rfl rfl) ?_
                                refine xv (x_getfield 134 d_X8_order__131 rfl f_8_9 (Nat.le_of_ble_eq_true rfl) (Nat.le_of_ble_eq_true rfl) (q_gf_of m_o rfl)) ?_
                                refine xv (x_iconst 135 d_X8_order__134 rfl) ?_
                                refine xv (x_iaload 136 d_X8_order__135 rfl ((m_g1 (by omega) (by omega)).trans (rfl : _ = some (Value.int (zi ((M 1) 4)))))) ?_
                                have q_31 : -1000000 ≤ (M 1) 4 ∧ (M 1) 4 ≤ 1000000 := hr _
                                refine xv (x_bipush 138 d_X8_order__136 rfl rfl) ?_
                                refine v_icmp_ne 148 141 d_X8_order__138 rfl rfl (by omega) (by omega) (by omega) (by omega) (fun k138 => ?_) (fun k138 => ?_)
                                · refine xv (x_iconst 149 d_X8_order__148 rfl) ?_
                                  refine xv (x_istore 151 d_X8_order__149 rfl (Nat.le_of_ble_eq_true rfl)) ?_
                                  show Xv E q_m_X8_order_ 151 [Value.ref am, Value.int (zi d), Value.int (zi a), Value.int (zi b), Value.int (zi c), Value.int (zi 3), Value.int (zi 0)] [] (q_mw h am (uM (uM (uM (uM M 0 5 0) 4 0 a) 4 1 b) 4 2 c)) Q
                                  refine xv (x_iload 153 d_X8_order__151 rfl rfl) ?_
                                  refine xv (x_iload 155 d_X8_order__153 rfl rfl) ?_
                                  refine v_icmp_ge 196 158 d_X8_order__155 rfl rfl (by omega) (by omega) (by omega) (by omega) (fun k155 => ?_) (fun k155 => ?_)
                                  · omega
                                  · refine xv (x_aload_n 159 d_X8_order__158 rfl rfl) ?_
                                    refine xv (x_getfield 162 d_X8_order__159 rfl f_8_9 (Nat.le_of_ble_eq_true rfl) (Nat.le_of_ble_eq_true rfl) (q_gf_of m_o rfl)) ?_
                                    refine xv (x_bipush 164 d_X8_order__162 rfl rfl) ?_
                                    refine xv (x_aload_n 165 d_X8_order__164 rfl rfl) ?_
                                    refine xv (x_getfield 168 d_X8_order__165 rfl f_8_19 (Nat.le_of_ble_eq_true rfl) (Nat.le_of_ble_eq_true rfl) (q_gf_of m_o rfl)) ?_
                                    refine xv (x_iload 170 d_X8_order__168 rfl rfl) ?_
                                    refine xv (x_iaload 171 d_X8_order__170 rfl ((m_g4 (by omega) (by omega)).trans (rfl : _ = some (Value.int (zi a))))) ?_
                                    refine xv (x_iadd 172 d_X8_order__171 rfl) ?_
                                    refine xv (x_iaload 173 d_X8_order__172 rfl ((m_g1 (by omega) (by omega)).trans (rfl : _ = some (Value.int (zi ((M 1) (8 + a))))))) ?_
                                    have q_32 : -1000000 ≤ (M 1) (8 + a) ∧ (M 1) (8 + a) ≤ 1000000 := hr _
                                    refine v_if_eq 190 176 d_X8_order__173 rfl rfl (by omega) (by omega) (fun k173 => ?_) (fun k173 => ?_)
                                    · refine xv (x_iinc 193 d_X8_order__190 rfl rfl) ?_
                                      show Xv E q_m_X8_order_ 193 [Value.ref am, Value.int (zi d), Value.int (zi a), Value.int (zi b), Value.int (zi c), Value.int (zi 3), Value.int (zi (0 + 1))] [] (q_mw h am (uM (uM (uM (uM M 0 5 0) 4 0 a) 4 1 b) 4 2 c)) Q
                                      refine xv (x_goto 151 d_X8_order__193 rfl) ?_
                                      refine xv (x_iload 153 d_X8_order__151 rfl rfl) ?_
                                      refine xv (x_iload 155 d_X8_order__153 rfl rfl) ?_
                                      refine v_icmp_ge 196 158 d_X8_order__155 rfl rfl (by omega) (by omega) (by omega) (by omega) (fun k155 => ?_) (fun k155 => ?_)
                                      · omega
                                      · refine xv (x_aload_n 159 d_X8_order__158 rfl rfl) ?_
                                        refine xv (x_getfield 162 d_X8_order__159 rfl f_8_9 (Nat.le_of_ble_eq_true rfl) (Nat.le_of_ble_eq_true rfl) (q_gf_of m_o rfl)) ?_
                                        refine xv (x_bipush 164 d_X8_order__162 rfl rfl) ?_
                                        refine xv (x_aload_n 165 d_X8_order__164 rfl rfl) ?_
                                        refine xv (x_getfield 168 d_X8_order__165 rfl f_8_19 (Nat.le_of_ble_eq_true rfl) (Nat.le_of_ble_eq_true rfl) (q_gf_of m_o rfl)) ?_
                                        refine xv (x_iload 170 d_X8_order__168 rfl rfl) ?_
                                        refine xv (x_iaload 171 d_X8_order__170 rfl ((m_g4 (by omega) (by omega)).trans (rfl : _ = some (Value.int (zi b))))) ?_
                                        refine xv (x_iadd 172 d_X8_order__171 rfl) ?_
                                        refine xv (x_iaload 173 d_X8_order__172 rfl ((m_g1 (by omega) (by omega)).trans (rfl : _ = some (Value.int (zi ((M 1) (8 + b))))))) ?_
                                        have q_33 : -1000000 ≤ (M 1) (8 + b) ∧ (M 1) (8 + b) ≤ 1000000 := hr _
                                        refine v_if_eq 190 176 d_X8_order__173 rfl rfl (by omega) (by omega) (fun k173 => ?_) (fun k173 => ?_)
                                        · refine xv (x_iinc 193 d_X8_order__190 rfl rfl) ?_
                                          show Xv E q_m_X8_order_ 193 [Value.ref am, Value.int (zi d), Value.int (zi a), Value.int (zi b), Value.int (zi c), Value.int (zi 3), Value.int (zi ((0 + 1) + 1))] [] (q_mw h am (uM (uM (uM (uM M 0 5 0) 4 0 a) 4 1 b) 4 2 c)) Q
                                          refine xv (x_goto 151 d_X8_order__193 rfl) ?_
                                          refine xv (x_iload 153 d_X8_order__151 rfl rfl) ?_
                                          refine xv (x_iload 155 d_X8_order__153 rfl rfl) ?_
                                          refine v_icmp_ge 196 158 d_X8_order__155 rfl rfl (by omega) (by omega) (by omega) (by omega) (fun k155 => ?_) (fun k155 => ?_)
                                          · omega
                                          · refine xv (x_aload_n 159 d_X8_order__158 rfl rfl) ?_
                                            refine xv (x_getfield 162 d_X8_order__159 rfl f_8_9 (Nat.le_of_ble_eq_true rfl) (Nat.le_of_ble_eq_true rfl) (q_gf_of m_o rfl)) ?_
                                            refine xv (x_bipush 164 d_X8_order__162 rfl rfl) ?_
                                            refine xv (x_aload_n 165 d_X8_order__164 rfl rfl) ?_
                                            refine xv (x_getfield 168 d_X8_order__165 rfl f_8_19 (Nat.le_of_ble_eq_true rfl) (Nat.le_of_ble_eq_true rfl) (q_gf_of m_o rfl)) ?_
                                            refine xv (x_iload 170 d_X8_order__168 rfl rfl) ?_
                                            refine xv (x_iaload 171 d_X8_order__170 rfl ((m_g4 (by omega) (by omega)).trans (rfl : _ = some (Value.int (zi c))))) ?_
                                            refine xv (x_iadd 172 d_X8_order__171 rfl) ?_
                                            refine xv (x_iaload 173 d_X8_order__172 rfl ((m_g1 (by omega) (by omega)).trans (rfl : _ = some (Value.int (zi ((M 1) (8 + c))))))) ?_
                                            have q_34 : -1000000 ≤ (M 1) (8 + c) ∧ (M 1) (8 + c) ≤ 1000000 := hr _
                                            refine v_if_eq 190 176 d_X8_order__173 rfl rfl (by omega) (by omega) (fun k173 => ?_) (fun k173 => ?_)
                                            · refine xv (x_iinc 193 d_X8_order__190 rfl rfl) ?_
                                              show Xv E q_m_X8_order_ 193 [Value.ref am, Value.int (zi d), Value.int (zi a), Value.int (zi b), Value.int (zi c), Value.int (zi 3), Value.int (zi (((0 + 1) + 1) + 1))] [] (q_mw h am (uM (uM (uM (uM M 0 5 0) 4 0 a) 4 1 b) 4 2 c)) Q
                                              refine xv (x_goto 151 d_X8_order__193 rfl) ?_
                                              refine xv (x_iload 153 d_X8_order__151 rfl rfl) ?_
                                              refine xv (x_iload 155 d_X8_order__153 rfl rfl) ?_
                                              refine v_icmp_ge 196 158 d_X8_order__155 rfl rfl (by omega) (by omega) (by omega) (by omega) (fun k155 => ?_) (fun k155 => ?_)
                                              · refine xv (x_aload_n 197 d_X8_order__196 rfl rfl) ?_
                                                obtain ⟨r197, h197, e197, z197, y197⟩ := S_X8_change (E := E) (h := h) (am := am) (M := (uM (uM (uM (uM M 0 5 0) 4 0 a) 4 1 b) 4 2 c)) hc
                                                subst z197
                                                subst y197
                                                refine xv (x_inv0 200 (as := []) d_X8_order__197 rfl c_8_100 rfl (Nat.le_of_ble_eq_true rfl) (Nat.le_of_ble_eq_true rfl) m_o (Nat.le_of_ble_eq_true rfl) (Nat.le_of_ble_eq_true rfl) rfl e197) ?_
                                                generalize hM2 : mch (uM (uM (uM (uM M 0 5 0) 4 0 a) 4 1 b) 4 2 c) = M2
                                                have e2 : M2 1 = M 1 := by rw [← hM2]; exact mch_1
                                                have e4 : M2 4 = (u1 (u1 (u1 (M 4) 0 a) 1 b) 2 c) := by rw [← hM2]; exact mch_s (by decide) (by decide)
                                                have eM : M2 = uA (uA M2 1 (M 1)) 4 (u1 (u1 (u1 (M 4) 0 a) 1 b) 2 c) := by rw [← e2, uA_self, ← e4, uA_self]
                                                rw [eM]
                                                show Xv E q_m_X8_order_ 200 [Value.ref am, Value.int (zi d), Value.int (zi a), Value.int (zi b), Value.int (zi c), Value.int (zi 3), Value.int (zi (((0 + 1) + 1) + 1))] [] (q_mw h am (uA (uA M2 1 (M 1)) 4 (u1 (u1 (u1 (M 4) 0 a) 1 b) 2 c))) Q
                                                refine xv (x_aload_n 201 d_X8_order__200 rfl rfl) ?_
                                                refine xv (x_getfield 204 d_X8_order__201 rfl f_8_9 (Nat.le_of_ble_eq_true rfl) (Nat.le_of_ble_eq_true rfl) (q_gf_of m_o rfl)) ?_
                                                refine xv (x_iconst 205 d_X8_order__204 rfl) ?_
                                                refine xv (x_iaload 206 d_X8_order__205 rfl ((m_g1 (by omega) (by omega)).trans (rfl : _ = some (Value.int (zi ((M 1) 4)))))) ?_
                                                have q_35 : -1000000 ≤ (M 1) 4 ∧ (M 1) 4 ≤ 1000000 := hr _
                                                refine xv (x_istore 208 d_X8_order__206 rfl (Nat.le_of_ble_eq_true rfl)) ?_
                                                show Xv E q_m_X8_order_ 208 [Value.ref am, Value.int (zi d), Value.int (zi a), Value.int (zi b), Value.int (zi c), Value.int (zi 3), Value.int (zi ((M 1) 4))] [] (q_mw h am (uA (uA M2 1 (M 1)) 4 (u1 (u1 (u1 (M 4) 0 a) 1 b) 2 c))) Q
                                                refine xv (x_aload_n 209 d_X8_order__208 rfl rfl) ?_
                                                refine xv (x_getfield 212 d_X8_order__209 rfl f_8_9 (Nat.le_of_ble_eq_true rfl) (Nat.le_of_ble_eq_true rfl) (q_gf_of m_o rfl)) ?_
                                                refine xv (x_iload 214 d_X8_order__212 rfl rfl) ?_
                                                refine xv (x_ins1 217 (as := [Value.int (zi ((M 1) 4))]) d_X8_order__214 rfl c_8_106 rfl (Nat.le_of_ble_eq_true rfl) (Nat.le_of_ble_eq_true rfl) (Nat.le_of_ble_eq_true rfl) rfl (S_X8_order (E := E) (h := h) (am := am) (M := (uA (uA M2 1 (M 1)) 4 (u1 (u1 (u1 (M 4) 0 a) 1 b) 2 c))))) ?_
                                                show Xv E q_m_X8_order_ 217 [Value.ref am, Value.int (zi d), Value.int (zi a), Value.int (zi b), Value.int (zi c), Value.int (zi 3), Value.int (zi ((M 1) 4))] [Value.int (zi (320 + 8 * ((M 1) 4))), Value.ref (am + 1)] (q_mw h am (uA (uA M2 1 (M 1)) 4 (u1 (u1 (u1 (M 4) 0 a) 1 b) 2 c))) Q
                                                refine xv (x_iconst 218 d_X8_order__217 rfl) ?_
                                                refine xv (x_iadd 219 d_X8_order__218 rfl) ?_
                                                refine xv (x_iload_n 220 d_X8_order__219 rfl rfl) ?_
                                                refine xv (x_iastore 221 d_X8_order__220 rfl (m_s1 (by omega) (by omega))) ?_
                                                show Xv E q_m_X8_order_ 221 [Value.ref am, Value.int (zi d), Value.int (zi a), Value.int (zi b), Value.int (zi c), Value.int (zi 3), Value.int (zi ((M 1) 4))] [] (q_mw h am (uM (uA (uA M2 1 (M 1)) 4 (u1 (u1 (u1 (M 4) 0 a) 1 b) 2 c)) 1 ((320 + 8 * ((M 1) 4)) + 0) d)) Q
                                                refine xv (x_aload_n 222 d_X8_order__221 rfl rfl) ?_
                                                refine xv (x_getfield 225 d_X8_order__222 rfl f_8_9 (Nat.le_of_ble_eq_true rfl) (Nat.le_of_ble_eq_true rfl) (q_gf_of m_o rfl)) ?_
                                                refine xv (x_iload 227 d_X8_order__225 rfl rfl) ?_
                                                refine xv (x_ins1 230 (as := [Value.int (zi ((M 1) 4))]) d_X8_order__227 rfl c_8_106 rfl (Nat.le_of_ble_eq_true rfl) (Nat.le_of_ble_eq_true rfl) (Nat.le_of_ble_eq_true rfl) rfl (S_X8_order (E := E) (h := h) (am := am) (M := (uM (uA (uA M2 1 (M 1)) 4 (u1 (u1 (u1 (M 4) 0 a) 1 b) 2 c)) 1 ((320 + 8 * ((M 1) 4)) + 0) d)))) ?_
                                                show Xv E q_m_X8_order_ 230 [Value.ref am, Value.int (zi d), Value.int (zi a), Value.int (zi b), Value.int (zi c), Value.int (zi 3), Value.int (zi ((M 1) 4))] [Value.int (zi (320 + 8 * ((M 1) 4))), Value.ref (am + 1)] (q_mw h am (uM (uA (uA M2 1 (M 1)) 4 (u1 (u1 (u1 (M 4) 0 a) 1 b) 2 c)) 1 ((320 + 8 * ((M 1) 4)) + 0) d)) Q
                                                refine xv (x_iconst 231 d_X8_order__230 rfl) ?_
                                                refine xv (x_iadd 232 d_X8_order__231 rfl) ?_
                                                refine xv (x_iload 234 d_X8_order__232 rfl rfl) ?_
                                                refine xv (x_iastore 235 d_X8_order__234 rfl (m_s1 (by omega) (by omega))) ?_
                                                show Xv E q_m_X8_order_ 235 [Value.ref am, Value.int (zi d), Value.int (zi a), Value.int (zi b), Value.int (zi c), Value.int (zi 3), Value.int (zi ((M 1) 4))] [] (q_mw h am (uM (uM (uA (uA M2 1 (M 1)) 4 (u1 (u1 (u1 (M 4) 0 a) 1 b) 2 c)) 1 ((320 + 8 * ((M 1) 4)) + 0) d) 1 ((320 + 8 * ((M 1) 4)) + 1) 3)) Q
                                                refine xv (x_aload_n 236 d_X8_order__235 rfl rfl) ?_
                                                refine xv (x_getfield 239 d_X8_order__236 rfl f_8_9 (Nat.le_of_ble_eq_true rfl) (Nat.le_of_ble_eq_true rfl) (q_gf_of m_o rfl)) ?_
                                                refine xv (x_iload 241 d_X8_order__239 rfl rfl) ?_
                                                refine xv (x_ins1 244 (as := [Value.int (zi ((M 1) 4))]) d_X8_order__241 rfl c_8_106 rfl (Nat.le_of_ble_eq_true rfl) (Nat.le_of_ble_eq_true rfl) (Nat.le_of_ble_eq_true rfl) rfl (S_X8_order (E := E) (h := h) (am := am) (M := (uM (uM (uA (uA M2 1 (M 1)) 4 (u1 (u1 (u1 (M 4) 0 a) 1 b) 2 c)) 1 ((320 + 8 * ((M 1) 4)) + 0) d) 1 ((320 + 8 * ((M 1) 4)) + 1) 3)))) ?_
                                                show Xv E q_m_X8_order_ 244 [Value.ref am, Value.int (zi d), Value.int (zi a), Value.int (zi b), Value.int (zi c), Value.int (zi 3), Value.int (zi ((M 1) 4))] [Value.int (zi (320 + 8 * ((M 1) 4))), Value.ref (am + 1)] (q_mw h am (uM (uM (uA (uA M2 1 (M 1)) 4 (u1 (u1 (u1 (M 4) 0 a) 1 b) 2 c)) 1 ((320 + 8 * ((M 1) 4)) + 0) d) 1 ((320 + 8 * ((M 1) 4)) + 1) 3)) Q
                                                refine xv (x_iconst 245 d_X8_order__244 rfl) ?_
                                                refine xv (x_iadd 246 d_X8_order__245 rfl) ?_
                                                refine xv (x_iconst 247 d_X8_order__246 rfl) ?_
                                                refine xv (x_iastore 248 d_X8_order__247 rfl (m_s1 (by omega) (by omega))) ?_
                                                show Xv E q_m_X8_order_ 248 [Value.ref am, Value.int (zi d), Value.int (zi a), Value.int (zi b), Value.int (zi c), Value.int (zi 3), Value.int (zi ((M 1) 4))] [] (q_mw h am (uM (uM (uM (uA (uA M2 1 (M 1)) 4 (u1 (u1 (u1 (M 4) 0 a) 1 b) 2 c)) 1 ((320 + 8 * ((M 1) 4)) + 0) d) 1 ((320 + 8 * ((M 1) 4)) + 1) 3) 1 ((320 + 8 * ((M 1) 4)) + 2) 0)) Q
                                                refine xv (x_aload_n 249 d_X8_order__248 rfl rfl) ?_
                                                refine xv (x_getfield 252 d_X8_order__249 rfl f_8_9 (Nat.le_of_ble_eq_true rfl) (Nat.le_of_ble_eq_true rfl) (q_gf_of m_o rfl)) ?_
                                                refine xv (x_iload 254 d_X8_order__252 rfl rfl) ?_
                                                refine xv (x_ins1 257 (as := [Value.int (zi ((M 1) 4))]) d_X8_order__254 rfl c_8_106 rfl (Nat.le_of_ble_eq_true rfl) (Nat.le_of_ble_eq_true rfl) (Nat.le_of_ble_eq_true rfl) rfl (S_X8_order (E := E) (h := h) (am := am) (M := (uM (uM (uM (uA (uA M2 1 (M 1)) 4 (u1 (u1 (u1 (M 4) 0 a) 1 b) 2 c)) 1 ((320 + 8 * ((M 1) 4)) + 0) d) 1 ((320 + 8 * ((M 1) 4)) + 1) 3) 1 ((320 + 8 * ((M 1) 4)) + 2) 0)))) ?_
                                                show Xv E q_m_X8_order_ 257 [Value.ref am, Value.int (zi d), Value.int (zi a), Value.int (zi b), Value.int (zi c), Value.int (zi 3), Value.int (zi ((M 1) 4))] [Value.int (zi (320 + 8 * ((M 1) 4))), Value.ref (am + 1)] (q_mw h am (uM (uM (uM (uA (uA M2 1 (M 1)) 4 (u1 (u1 (u1 (M 4) 0 a) 1 b) 2 c)) 1 ((320 + 8 * ((M 1) 4)) + 0) d) 1 ((320 + 8 * ((M 1) 4)) + 1) 3) 1 ((320 + 8 * ((M 1) 4)) + 2) 0)) Q
                                                refine xv (x_iconst 258 d_X8_order__257 rfl) ?_
                                                refine xv (x_iadd 259 d_X8_order__258 rfl) ?_
                                                refine xv (x_iconst 260 d_X8_order__259 rfl) ?_
                                                refine xv (x_iastore 261 d_X8_order__260 rfl (m_s1 (by omega) (by omega))) ?_
                                                show Xv E q_m_X8_order_ 261 [Value.ref am, Value.int (zi d), Value.int (zi a), Value.int (zi b), Value.int (zi c), Value.int (zi 3), Value.int (zi ((M 1) 4))] [] (q_mw h am (uM (uM (uM (uM (uA (uA M2 1 (M 1)) 4 (u1 (u1 (u1 (M 4) 0 a) 1 b) 2 c)) 1 ((320 + 8 * ((M 1) 4)) + 0) d) 1 ((320 + 8 * ((M 1) 4)) + 1) 3) 1 ((320 + 8 * ((M 1) 4)) + 2) 0) 1 ((320 + 8 * ((M 1) 4)) + 3) (-1))) Q
                                                refine xv (x_aload_n 262 d_X8_order__261 rfl rfl) ?_
                                                refine xv (x_getfield 265 d_X8_order__262 rfl f_8_9 (Nat.le_of_ble_eq_true rfl) (Nat.le_of_ble_eq_true rfl) (q_gf_of m_o rfl)) ?_
                                                refine xv (x_iload 267 d_X8_order__265 rfl rfl) ?_
                                                refine xv (x_ins1 270 (as := [Value.int (zi ((M 1) 4))]) d_X8_order__267 rfl c_8_106 rfl (Nat.le_of_ble_eq_true rfl) (Nat.le_of_ble_eq_true rfl) (Nat.le_of_ble_eq_true rfl) rfl (S_X8_order (E := E) (h := h) (am := am) (M := (uM (uM (uM (uM (uA (uA M2 1 (M 1)) 4 (u1 (u1 (u1 (M 4) 0 a) 1 b) 2 c)) 1 ((320 + 8 * ((M 1) 4)) + 0) d) 1 ((320 + 8 * ((M 1) 4)) + 1) 3) 1 ((320 + 8 * ((M 1) 4)) + 2) 0) 1 ((320 + 8 * ((M 1) 4)) + 3) (-1))))) ?_
                                                show Xv E q_m_X8_order_ 270 [Value.ref am, Value.int (zi d), Value.int (zi a), Value.int (zi b), Value.int (zi c), Value.int (zi 3), Value.int (zi ((M 1) 4))] [Value.int (zi (320 + 8 * ((M 1) 4))), Value.ref (am + 1)] (q_mw h am (uM (uM (uM (uM (uA (uA M2 1 (M 1)) 4 (u1 (u1 (u1 (M 4) 0 a) 1 b) 2 c)) 1 ((320 + 8 * ((M 1) 4)) + 0) d) 1 ((320 + 8 * ((M 1) 4)) + 1) 3) 1 ((320 + 8 * ((M 1) 4)) + 2) 0) 1 ((320 + 8 * ((M 1) 4)) + 3) (-1))) Q
                                                refine xv (x_iconst 271 d_X8_order__270 rfl) ?_
                                                refine xv (x_iadd 272 d_X8_order__271 rfl) ?_
                                                refine xv (x_iconst 273 d_X8_order__272 rfl) ?_
                                                refine xv (x_iastore 274 d_X8_order__273 rfl (m_s1 (by omega) (by omega))) ?_
                                                show Xv E q_m_X8_order_ 274 [Value.ref am, Value.int (zi d), Value.int (zi a), Value.int (zi b), Value.int (zi c), Value.int (zi 3), Value.int (zi ((M 1) 4))] [] (q_mw h am (uM (uM (uM (uM (uM (uA (uA M2 1 (M 1)) 4 (u1 (u1 (u1 (M 4) 0 a) 1 b) 2 c)) 1 ((320 + 8 * ((M 1) 4)) + 0) d) 1 ((320 + 8 * ((M 1) 4)) + 1) 3) 1 ((320 + 8 * ((M 1) 4)) + 2) 0) 1 ((320 + 8 * ((M 1) 4)) + 3) (-1)) 1 ((320 + 8 * ((M 1) 4)) + 4) (-1))) Q
                                                refine xv (x_aload_n 275 d_X8_order__274 rfl rfl) ?_
                                                refine xv (x_getfield 278 d_X8_order__275 rfl f_8_19 (Nat.le_of_ble_eq_true rfl) (Nat.le_of_ble_eq_true rfl) (q_gf_of m_o rfl)) ?_
                                                refine xv (x_iconst 279 d_X8_order__278 rfl) ?_
                                                refine xv (x_aload_n 280 d_X8_order__279 rfl rfl) ?_
                                                refine xv (x_getfield 283 d_X8_order__280 rfl f_8_9 (Nat.le_of_ble_eq_true rfl) (Nat.le_of_ble_eq_true rfl) (q_gf_of m_o rfl)) ?_
                                                refine xv (x_iload 285 d_X8_order__283 rfl rfl) ?_
                                                refine xv (x_ins1 288 (as := [Value.int (zi ((M 1) 4))]) d_X8_order__285 rfl c_8_106 rfl (Nat.le_of_ble_eq_true rfl) (Nat.le_of_ble_eq_true rfl) (Nat.le_of_ble_eq_true rfl) rfl (S_X8_order (E := E) (h := h) (am := am) (M := (uM (uM (uM (uM (uM (uA (uA M2 1 (M 1)) 4 (u1 (u1 (u1 (M 4) 0 a) 1 b) 2 c)) 1 ((320 + 8 * ((M 1) 4)) + 0) d) 1 ((320 + 8 * ((M 1) 4)) + 1) 3) 1 ((320 + 8 * ((M 1) 4)) + 2) 0) 1 ((320 + 8 * ((M 1) 4)) + 3) (-1)) 1 ((320 + 8 * ((M 1) 4)) + 4) (-1))))) ?_
                                                show Xv E q_m_X8_order_ 288 [Value.ref am, Value.int (zi d), Value.int (zi a), Value.int (zi b), Value.int (zi c), Value.int (zi 3), Value.int (zi ((M 1) 4))] [Value.int (zi (320 + 8 * ((M 1) 4))), Value.ref (am + 1), Value.int (zi 0), Value.ref (am + 4)] (q_mw h am (uM (uM (uM (uM (uM (uA (uA M2 1 (M 1)) 4 (u1 (u1 (u1 (M 4) 0 a) 1 b) 2 c)) 1 ((320 + 8 * ((M 1) 4)) + 0) d) 1 ((320 + 8 * ((M 1) 4)) + 1) 3) 1 ((320 + 8 * ((M 1) 4)) + 2) 0) 1 ((320 + 8 * ((M 1) 4)) + 3) (-1)) 1 ((320 + 8 * ((M 1) 4)) + 4) (-1))) Q
                                                refine xv (x_iconst 289 d_X8_order__288 rfl) ?_
                                                refine xv (x_iadd 290 d_X8_order__289 rfl) ?_
                                                refine xv (x_iconst 291 d_X8_order__290 rfl) ?_
                                                refine xv (x_copy 294 d_X8_order__291 rfl rfl rfl (Nat.le_of_ble_eq_true rfl) (Nat.le_of_ble_eq_true rfl) (Nat.le_of_ble_eq_true rfl) (m_cpy 4 1 m_a4 m_a1 m_w1 (by omega) (by omega) (by omega) (by omega) (by omega) (by decide) (by decide))) ?_
                                                show Xv E q_m_X8_order_ 294 [Value.ref am, Value.int (zi d), Value.int (zi a), Value.int (zi b), Value.int (zi c), Value.int (zi 3), Value.int (zi ((M 1) 4))] [] (q_mw h am (uA (uM (uM (uM (uM (uM (uA (uA M2 1 (M 1)) 4 (u1 (u1 (u1 (M 4) 0 a) 1 b) 2 c)) 1 ((320 + 8 * ((M 1) 4)) + 0) d) 1 ((320 + 8 * ((M 1) 4)) + 1) 3) 1 ((320 + 8 * ((M 1) 4)) + 2) 0) 1 ((320 + 8 * ((M 1) 4)) + 3) (-1)) 1 ((320 + 8 * ((M 1) 4)) + 4) (-1)) 1 (cpI (u1 (u1 (u1 (M 4) 0 a) 1 b) 2 c) (u1 (u1 (u1 (u1 (u1 (M 1) ((320 + 8 * ((M 1) 4)) + 0) d) ((320 + 8 * ((M 1) 4)) + 1) 3) ((320 + 8 * ((M 1) 4)) + 2) 0) ((320 + 8 * ((M 1) 4)) + 3) (-1)) ((320 + 8 * ((M 1) 4)) + 4) (-1)) 0 ((320 + 8 * ((M 1) 4)) + 5) 3))) Q
                                                refine xv (x_aload_n 295 d_X8_order__294 rfl rfl) ?_
                                                refine xv (x_getfield 298 d_X8_order__295 rfl f_8_9 (Nat.le_of_ble_eq_true rfl) (Nat.le_of_ble_eq_true rfl) (q_gf_of m_o rfl)) ?_
                                                refine xv (x_iconst 299 d_X8_order__298 rfl) ?_
                                                refine xv (x_dup2 300 d_X8_order__299 rfl rfl rfl) ?_
                                                refine xv (x_iaload 301 d_X8_order__300 rfl ((m_g1 (by omega) (by omega)).trans (rfl : _ = some (Value.int (zi ((cpI (u1 (u1 (u1 (M 4) 0 a) 1 b) 2 c) (u1 (u1 (u1 (u1 (u1 (M 1) ((320 + 8 * ((M 1) 4)) + 0) d) ((320 + 8 * ((M 1) 4)) + 1) 3) ((320 + 8 * ((M 1) 4)) + 2) 0) ((320 + 8 * ((M 1) 4)) + 3) (-1)) ((320 + 8 * ((M 1) 4)) + 4) (-1)) 0 ((320 + 8 * ((M 1) 4)) + 5) 3) 4)))))) ?_
                                                refine xv (x_iconst 302 d_X8_order__301 rfl) ?_
                                                refine xv (x_iadd 303 d_X8_order__302 rfl) ?_
                                                refine xv (x_iastore 304 d_X8_order__303 rfl (m_s1 (by omega) (by omega))) ?_
                                                show Xv E q_m_X8_order_ 304 [Value.ref am, Value.int (zi d), Value.int (zi a), Value.int (zi b), Value.int (zi c), Value.int (zi 3), Value.int (zi ((M 1) 4))] [] (q_mw h am (uM (uA (uM (uM (uM (uM (uM (uA (uA M2 1 (M 1)) 4 (u1 (u1 (u1 (M 4) 0 a) 1 b) 2 c)) 1 ((320 + 8 * ((M 1) 4)) + 0) d) 1 ((320 + 8 * ((M 1) 4)) + 1) 3) 1 ((320 + 8 * ((M 1) 4)) + 2) 0) 1 ((320 + 8 * ((M 1) 4)) + 3) (-1)) 1 ((320 + 8 * ((M 1) 4)) + 4) (-1)) 1 (cpI (u1 (u1 (u1 (M 4) 0 a) 1 b) 2 c) (u1 (u1 (u1 (u1 (u1 (M 1) ((320 + 8 * ((M 1) 4)) + 0) d) ((320 + 8 * ((M 1) 4)) + 1) 3) ((320 + 8 * ((M 1) 4)) + 2) 0) ((320 + 8 * ((M 1) 4)) + 3) (-1)) ((320 + 8 * ((M 1) 4)) + 4) (-1)) 0 ((320 + 8 * ((M 1) 4)) + 5) 3)) 1 4 (((cpI (u1 (u1 (u1 (M 4) 0 a) 1 b) 2 c) (u1 (u1 (u1 (u1 (u1 (M 1) ((320 + 8 * ((M 1) 4)) + 0) d) ((320 + 8 * ((M 1) 4)) + 1) 3) ((320 + 8 * ((M 1) 4)) + 2) 0) ((320 + 8 * ((M 1) 4)) + 3) (-1)) ((320 + 8 * ((M 1) 4)) + 4) (-1)) 0 ((320 + 8 * ((M 1) 4)) + 5) 3) 4) + 1))) Q
                                                refine xv (x_iload 306 d_X8_order__304 rfl rfl) ?_
                                                refine xv_r (x_ireturn d_X8_order__306 rfl rfl) ?_
                                                have er : mOrd (M 1) d a b c = (0, 0) := by first | (exfalso; omega) | (unfold mOrd; repeat (first | rw [if_pos (by omega)] | rw [if_neg (by omega)]))
                                                have ec : cntO b c = 3 := by first | (exfalso; omega) | (unfold cntO; repeat (first | rw [if_pos (by omega)] | rw [if_neg (by omega)]))
                                                refine hQ _ _ ?_
                                                unfold mMu2
                                                rw [er, if_pos rfl, ec]
                                                refine ⟨rfl, ?_⟩
                                                unfold lnO
                                                rw [hM2, ← eM]
                                                simp only [uM_uA, uA_uA, uA_eq]
                                                rfl
                                              · omega
                                            · refine xv (x_aload_n 177 d_X8_order__176 rfl rfl) ?_
                                              refine xv (x_bipush 179 d_X8_order__177 rfl rfl) ?_
                                              refine xv (x_aload_n 180 d_X8_order__179 rfl rfl) ?_
                                              refine xv (x_getfield 183 d_X8_order__180 rfl f_8_19 (Nat.le_of_ble_eq_true rfl) (Nat.le_of_ble_eq_true rfl) (q_gf_of m_o rfl)) ?_
                                              refine xv (x_iload 185 d_X8_order__183 rfl rfl) ?_
                                              refine xv (x_iaload 186 d_X8_order__185 rfl ((m_g4 (by omega) (by omega)).trans (rfl : _ = some (Value.int (zi c))))) ?_
                                              obtain ⟨r186, h186, e186, z186, y186⟩ := S_X8_refuse (E := E) (h := h) (am := am) (M := (uM (uM (uM (uM M 0 5 0) 4 0 a) 4 1 b) 4 2 c)) (y := 12) (z := c) 
                                              subst z186
                                              subst y186
                                              refine xv (x_inv1 189 (as := [Value.int (zi 12), Value.int (zi c)]) d_X8_order__186 rfl c_8_90 rfl (Nat.le_of_ble_eq_true rfl) (Nat.le_of_ble_eq_true rfl) m_o (Nat.le_of_ble_eq_true rfl) (Nat.le_of_ble_eq_true rfl) rfl e186) ?_
                                              show Xv E q_m_X8_order_ 189 [Value.ref am, Value.int (zi d), Value.int (zi a), Value.int (zi b), Value.int (zi c), Value.int (zi 3), Value.int (zi ((0 + 1) + 1))] [Value.int (zi 0)] (q_mw h am (uM (uM (uM (uM (uM (uM (uM M 0 5 0) 4 0 a) 4 1 b) 4 2 c) 0 5 1) 0 6 12) 0 7 c)) Q
                                              refine xv_r (x_ireturn d_X8_order__189 rfl rfl) ?_
                                              have er : mOrd (M 1) d a b c = (12, c) := by first | (exfalso; omega) | (unfold mOrd; repeat (first | rw [if_pos (by omega)] | rw [if_neg (by omega)]))
                                              refine hQ _ _ ?_
                                              unfold mMu2
                                              rw [er]
                                              exact ⟨rfl, rfl⟩
                                        · refine xv (x_aload_n 177 d_X8_order__176 rfl rfl) ?_
                                          refine xv (x_bipush 179 d_X8_order__177 rfl rfl) ?_
                                          refine xv (x_aload_n 180 d_X8_order__179 rfl rfl) ?_
                                          refine xv (x_getfield 183 d_X8_order__180 rfl f_8_19 (Nat.le_of_ble_eq_true rfl) (Nat.le_of_ble_eq_true rfl) (q_gf_of m_o rfl)) ?_
                                          refine xv (x_iload 185 d_X8_order__183 rfl rfl) ?_
                                          refine xv (x_iaload 186 d_X8_order__185 rfl ((m_g4 (by omega) (by omega)).trans (rfl : _ = some (Value.int (zi b))))) ?_
                                          obtain ⟨r186, h186, e186, z186, y186⟩ := S_X8_refuse (E := E) (h := h) (am := am) (M := (uM (uM (uM (uM M 0 5 0) 4 0 a) 4 1 b) 4 2 c)) (y := 12) (z := b) 
                                          subst z186
                                          subst y186
                                          refine xv (x_inv1 189 (as := [Value.int (zi 12), Value.int (zi b)]) d_X8_order__186 rfl c_8_90 rfl (Nat.le_of_ble_eq_true rfl) (Nat.le_of_ble_eq_true rfl) m_o (Nat.le_of_ble_eq_true rfl) (Nat.le_of_ble_eq_true rfl) rfl e186) ?_
                                          show Xv E q_m_X8_order_ 189 [Value.ref am, Value.int (zi d), Value.int (zi a), Value.int (zi b), Value.int (zi c), Value.int (zi 3), Value.int (zi (0 + 1))] [Value.int (zi 0)] (q_mw h am (uM (uM (uM (uM (uM (uM (uM M 0 5 0) 4 0 a) 4 1 b) 4 2 c) 0 5 1) 0 6 12) 0 7 b)) Q
                                          refine xv_r (x_ireturn d_X8_order__189 rfl rfl) ?_
                                          have er : mOrd (M 1) d a b c = (12, b) := by first | (exfalso; omega) | (unfold mOrd; repeat (first | rw [if_pos (by omega)] | rw [if_neg (by omega)]))
                                          refine hQ _ _ ?_
                                          unfold mMu2
                                          rw [er]
                                          exact ⟨rfl, rfl⟩
                                    · refine xv (x_aload_n 177 d_X8_order__176 rfl rfl) ?_
                                      refine xv (x_bipush 179 d_X8_order__177 rfl rfl) ?_
                                      refine xv (x_aload_n 180 d_X8_order__179 rfl rfl) ?_
                                      refine xv (x_getfield 183 d_X8_order__180 rfl f_8_19 (Nat.le_of_ble_eq_true rfl) (Nat.le_of_ble_eq_true rfl) (q_gf_of m_o rfl)) ?_
                                      refine xv (x_iload 185 d_X8_order__183 rfl rfl) ?_
                                      refine xv (x_iaload 186 d_X8_order__185 rfl ((m_g4 (by omega) (by omega)).trans (rfl : _ = some (Value.int (zi a))))) ?_
                                      obtain ⟨r186, h186, e186, z186, y186⟩ := S_X8_refuse (E := E) (h := h) (am := am) (M := (uM (uM (uM (uM M 0 5 0) 4 0 a) 4 1 b) 4 2 c)) (y := 12) (z := a) 
                                      subst z186
                                      subst y186
                                      refine xv (x_inv1 189 (as := [Value.int (zi 12), Value.int (zi a)]) d_X8_order__186 rfl c_8_90 rfl (Nat.le_of_ble_eq_true rfl) (Nat.le_of_ble_eq_true rfl) m_o (Nat.le_of_ble_eq_true rfl) (Nat.le_of_ble_eq_true rfl) rfl e186) ?_
                                      show Xv E q_m_X8_order_ 189 [Value.ref am, Value.int (zi d), Value.int (zi a), Value.int (zi b), Value.int (zi c), Value.int (zi 3), Value.int (zi 0)] [Value.int (zi 0)] (q_mw h am (uM (uM (uM (uM (uM (uM (uM M 0 5 0) 4 0 a) 4 1 b) 4 2 c) 0 5 1) 0 6 12) 0 7 a)) Q
                                      refine xv_r (x_ireturn d_X8_order__189 rfl rfl) ?_
                                      have er : mOrd (M 1) d a b c = (12, a) := by first | (exfalso; omega) | (unfold mOrd; repeat (first | rw [if_pos (by omega)] | rw [if_neg (by omega)]))
                                      refine hQ _ _ ?_
                                      unfold mMu2
                                      rw [er]
                                      exact ⟨rfl, rfl⟩
                                · refine xv (x_aload_n 142 d_X8_order__141 rfl rfl) ?_
                                  refine xv (x_iconst 143 d_X8_order__142 rfl) ?_
                                  refine xv (x_iconst 144 d_X8_order__143 rfl) ?_
                                  obtain ⟨r144, h144, e144, z144, y144⟩ := S_X8_refuse (E := E) (h := h) (am := am) (M := (uM (uM (uM (uM M 0 5 0) 4 0 a) 4 1 b) 4 2 c)) (y := 3) (z := 0) 
                                  subst z144
                                  subst y144
                                  refine xv (x_inv1 147 (as := [Value.int (zi 3), Value.int (zi 0)]) d_X8_order__144 rfl c_8_90 rfl (Nat.le_of_ble_eq_true rfl) (Nat.le_of_ble_eq_true rfl) m_o (Nat.le_of_ble_eq_true rfl) (Nat.le_of_ble_eq_true rfl) rfl e144) ?_
                                  show Xv E q_m_X8_order_ 147 [Value.ref am, Value.int (zi d), Value.int (zi a), Value.int (zi b), Value.int (zi c), Value.int (zi 3), Value.int (zi (((0 + 1) + 1) + 1))] [Value.int (zi 0)] (q_mw h am (uM (uM (uM (uM (uM (uM (uM M 0 5 0) 4 0 a) 4 1 b) 4 2 c) 0 5 1) 0 6 3) 0 7 0)) Q
                                  refine xv_r (x_ireturn d_X8_order__147 rfl rfl) ?_
                                  have er : mOrd (M 1) d a b c = (3, 0) := by first | (exfalso; omega) | (unfold mOrd; repeat (first | rw [if_pos (by omega)] | rw [if_neg (by omega)]))
                                  refine hQ _ _ ?_
                                  unfold mMu2
                                  rw [er]
                                  exact ⟨rfl, rfl⟩
                              · refine xv (x_iload 119 d_X8_order__117 rfl rfl) ?_
                                refine xv (x_iconst 120 d_X8_order__119 rfl) ?_
                                refine v_icmp_eq 130 123 d_X8_order__120 rfl rfl (by omega) (by omega) (by omega) (by omega) (fun k120 => ?_) (fun k120 => ?_)
                                · refine xv (x_aload_n 131 d_X8_order__130 rfl rfl) ?_
                                  refine xv (x_getfield 134 d_X8_order__131 rfl f_8_9 (Nat.le_of_ble_eq_true rfl) (Nat.le_of_ble_eq_true rfl) (q_gf_of m_o rfl)) ?_
                                  refine xv (x_iconst 135 d_X8_order__134 rfl) ?_
                                  refine xv (x_iaload 136 d_X8_order__135 rfl ((m_g1 (by omega) (by omega)).trans (rfl : _ = some (Value.int (zi ((M 1) 4)))))) ?_
                                  have q_36 : -1000000 ≤ (M 1) 4 ∧ (M 1) 4 ≤ 1000000 := hr _
                                  refine xv (x_bipush 138 d_X8_order__136 rfl rfl) ?_
                                  refine v_icmp_ne 148 141 d_X8_order__138 rfl rfl (by omega) (by omega) (by omega) (by omega) (fun k138 => ?_) (fun k138 => ?_)
                                  · refine xv (x_iconst 149 d_X8_order__148 rfl) ?_
                                    refine xv (x_istore 151 d_X8_order__149 rfl (Nat.le_of_ble_eq_true rfl)) ?_
                                    show Xv E q_m_X8_order_ 151 [Value.ref am, Value.int (zi d), Value.int (zi a), Value.int (zi b), Value.int (zi c), Value.int (zi 3), Value.int (zi 0)] [] (q_mw h am (uM (uM (uM (uM M 0 5 0) 4 0 a) 4 1 b) 4 2 c)) Q
                                    refine xv (x_iload 153 d_X8_order__151 rfl rfl) ?_
                                    refine xv (x_iload 155 d_X8_order__153 rfl rfl) ?_
                                    refine v_icmp_ge 196 158 d_X8_order__155 rfl rfl (by omega) (by omega) (by omega) (by omega) (fun k155 => ?_) (fun k155 => ?_)
                                    · omega
                                    · refine xv (x_aload_n 159 d_X8_order__158 rfl rfl) ?_
                                      refine xv (x_getfield 162 d_X8_order__159 rfl f_8_9 (Nat.le_of_ble_eq_true rfl) (Nat.le_of_ble_eq_true rfl) (q_gf_of m_o rfl)) ?_
                                      refine xv (x_bipush 164 d_X8_order__162 rfl rfl) ?_
                                      refine xv (x_aload_n 165 d_X8_order__164 rfl rfl) ?_
                                      refine xv (x_getfield 168 d_X8_order__165 rfl f_8_19 (Nat.le_of_ble_eq_true rfl) (Nat.le_of_ble_eq_true rfl) (q_gf_of m_o rfl)) ?_
                                      refine xv (x_iload 170 d_X8_order__168 rfl rfl) ?_
                                      refine xv (x_iaload 171 d_X8_order__170 rfl ((m_g4 (by omega) (by omega)).trans (rfl : _ = some (Value.int (zi a))))) ?_
                                      refine xv (x_iadd 172 d_X8_order__171 rfl) ?_
                                      refine xv (x_iaload 173 d_X8_order__172 rfl ((m_g1 (by omega) (by omega)).trans (rfl : _ = some (Value.int (zi ((M 1) (8 + a))))))) ?_
                                      have q_37 : -1000000 ≤ (M 1) (8 + a) ∧ (M 1) (8 + a) ≤ 1000000 := hr _
                                      refine v_if_eq 190 176 d_X8_order__173 rfl rfl (by omega) (by omega) (fun k173 => ?_) (fun k173 => ?_)
                                      · refine xv (x_iinc 193 d_X8_order__190 rfl rfl) ?_
                                        show Xv E q_m_X8_order_ 193 [Value.ref am, Value.int (zi d), Value.int (zi a), Value.int (zi b), Value.int (zi c), Value.int (zi 3), Value.int (zi (0 + 1))] [] (q_mw h am (uM (uM (uM (uM M 0 5 0) 4 0 a) 4 1 b) 4 2 c)) Q
                                        refine xv (x_goto 151 d_X8_order__193 rfl) ?_
                                        refine xv (x_iload 153 d_X8_order__151 rfl rfl) ?_
                                        refine xv (x_iload 155 d_X8_order__153 rfl rfl) ?_
                                        refine v_icmp_ge 196 158 d_X8_order__155 rfl rfl (by omega) (by omega) (by omega) (by omega) (fun k155 => ?_) (fun k155 => ?_)
                                        · omega
                                        · refine xv (x_aload_n 159 d_X8_order__158 rfl rfl) ?_
                                          refine xv (x_getfield 162 d_X8_order__159 rfl f_8_9 (Nat.le_of_ble_eq_true rfl) (Nat.le_of_ble_eq_true rfl) (q_gf_of m_o rfl)) ?_
                                          refine xv (x_bipush 164 d_X8_order__162 rfl rfl) ?_
                                          refine xv (x_aload_n 165 d_X8_order__164 rfl rfl) ?_
                                          refine xv (x_getfield 168 d_X8_order__165 rfl f_8_19 (Nat.le_of_ble_eq_true rfl) (Nat.le_of_ble_eq_true rfl) (q_gf_of m_o rfl)) ?_
                                          refine xv (x_iload 170 d_X8_order__168 rfl rfl) ?_
                                          refine xv (x_iaload 171 d_X8_order__170 rfl ((m_g4 (by omega) (by omega)).trans (rfl : _ = some (Value.int (zi b))))) ?_
                                          refine xv (x_iadd 172 d_X8_order__171 rfl) ?_
                                          refine xv (x_iaload 173 d_X8_order__172 rfl ((m_g1 (by omega) (by omega)).trans (rfl : _ = some (Value.int (zi ((M 1) (8 + b))))))) ?_
                                          have q_38 : -1000000 ≤ (M 1) (8 + b) ∧ (M 1) (8 + b) ≤ 1000000 := hr _
                                          refine v_if_eq 190 176 d_X8_order__173 rfl rfl (by omega) (by omega) (fun k173 => ?_) (fun k173 => ?_)
                                          · refine xv (x_iinc 193 d_X8_order__190 rfl rfl) ?_
                                            show Xv E q_m_X8_order_ 193 [Value.ref am, Value.int (zi d), Value.int (zi a), Value.int (zi b), Value.int (zi c), Value.int (zi 3), Value.int (zi ((0 + 1) + 1))] [] (q_mw h am (uM (uM (uM (uM M 0 5 0) 4 0 a) 4 1 b) 4 2 c)) Q
                                            refine xv (x_goto 151 d_X8_order__193 rfl) ?_
                                            refine xv (x_iload 153 d_X8_order__151 rfl rfl) ?_
                                            refine xv (x_iload 155 d_X8_order__153 rfl rfl) ?_
                                            refine v_icmp_ge 196 158 d_X8_order__155 rfl rfl (by omega) (by omega) (by omega) (by omega) (fun k155 => ?_) (fun k155 => ?_)
                                            · omega
                                            · refine xv (x_aload_n 159 d_X8_order__158 rfl rfl) ?_
                                              refine xv (x_getfield 162 d_X8_order__159 rfl f_8_9 (Nat.le_of_ble_eq_true rfl) (Nat.le_of_ble_eq_true rfl) (q_gf_of m_o rfl)) ?_
                                              refine xv (x_bipush 164 d_X8_order__162 rfl rfl) ?_
                                              refine xv (x_aload_n 165 d_X8_order__164 rfl rfl) ?_
                                              refine xv (x_getfield 168 d_X8_order__165 rfl f_8_19 (Nat.le_of_ble_eq_true rfl) (Nat.le_of_ble_eq_true rfl) (q_gf_of m_o rfl)) ?_
                                              refine xv (x_iload 170 d_X8_order__168 rfl rfl) ?_
                                              refine xv (x_iaload 171 d_X8_order__170 rfl ((m_g4 (by omega) (by omega)).trans (rfl : _ = some (Value.int (zi c))))) ?_
                                              refine xv (x_iadd 172 d_X8_order__171 rfl) ?_
                                              refine xv (x_iaload 173 d_X8_order__172 rfl ((m_g1 (by omega) (by omega)).trans (rfl : _ = some (Value.int (zi ((M 1) (8 + c))))))) ?_
                                              have q_39 : -1000000 ≤ (M 1) (8 + c) ∧ (M 1) (8 + c) ≤ 1000000 := hr _
                                              refine v_if_eq 190 176 d_X8_order__173 rfl rfl (by omega) (by omega) (fun k173 => ?_) (fun k173 => ?_)
                                              · refine xv (x_iinc 193 d_X8_order__190 rfl rfl) ?_
                                                show Xv E q_m_X8_order_ 193 [Value.ref am, Value.int (zi d), Value.int (zi a), Value.int (zi b), Value.int (zi c), Value.int (zi 3), Value.int (zi (((0 + 1) + 1) + 1))] [] (q_mw h am (uM (uM (uM (uM M 0 5 0) 4 0 a) 4 1 b) 4 2 c)) Q
                                                refine xv (x_goto 151 d_X8_order__193 rfl) ?_
                                                refine xv (x_iload 153 d_X8_order__151 rfl rfl) ?_
                                                refine xv (x_iload 155 d_X8_order__153 rfl rfl) ?_
                                                refine v_icmp_ge 196 158 d_X8_order__155 rfl rfl (by omega) (by omega) (by omega) (by omega) (fun k155 => ?_) (fun k155 => ?_)
                                                · refine xv (x_aload_n 197 d_X8_order__196 rfl rfl) ?_
                                                  obtain ⟨r197, h197, e197, z197, y197⟩ := S_X8_change (E := E) (h := h) (am := am) (M := (uM (uM (uM (uM M 0 5 0) 4 0 a) 4 1 b) 4 2 c)) hc
                                                  subst z197
                                                  subst y197
                                                  refine xv (x_inv0 200 (as := []) d_X8_order__197 rfl c_8_100 rfl (Nat.le_of_ble_eq_true rfl) (Nat.le_of_ble_eq_true rfl) m_o (Nat.le_of_ble_eq_true rfl) (Nat.le_of_ble_eq_true rfl) rfl e197) ?_
                                                  generalize hM2 : mch (uM (uM (uM (uM M 0 5 0) 4 0 a) 4 1 b) 4 2 c) = M2
                                                  have e2 : M2 1 = M 1 := by rw [← hM2]; exact mch_1
                                                  have e4 : M2 4 = (u1 (u1 (u1 (M 4) 0 a) 1 b) 2 c) := by rw [← hM2]; exact mch_s (by decide) (by decide)
                                                  have eM : M2 = uA (uA M2 1 (M 1)) 4 (u1 (u1 (u1 (M 4) 0 a) 1 b) 2 c) := by rw [← e2, uA_self, ← e4, uA_self]
                                                  rw [eM]
                                                  show Xv E q_m_X8_order_ 200 [Value.ref am, Value.int (zi d), Value.int (zi a), Value.int (zi b), Value.int (zi c), Value.int (zi 3), Value.int (zi (((0 + 1) + 1) + 1))] [] (q_mw h am (uA (uA M2 1 (M 1)) 4 (u1 (u1 (u1 (M 4) 0 a) 1 b) 2 c))) Q
                                                  refine xv (x_aload_n 201 d_X8_order__200 rfl rfl) ?_
                                                  refine xv (x_getfield 204 d_X8_order__201 rfl f_8_9 (Nat.le_of_ble_eq_true rfl) (Nat.le_of_ble_eq_true rfl) (q_gf_of m_o rfl)) ?_
                                                  refine xv (x_iconst 205 d_X8_order__204 rfl) ?_
                                                  refine xv (x_iaload 206 d_X8_order__205 rfl ((m_g1 (by omega) (by omega)).trans (rfl : _ = some (Value.int (zi ((M 1) 4)))))) ?_
                                                  have q_40 : -1000000 ≤ (M 1) 4 ∧ (M 1) 4 ≤ 1000000 := hr _
                                                  refine xv (x_istore 208 d_X8_order__206 rfl (Nat.le_of_ble_eq_true rfl)) ?_
                                                  show Xv E q_m_X8_order_ 208 [Value.ref am, Value.int (zi d), Value.int (zi a), Value.int (zi b), Value.int (zi c), Value.int (zi 3), Value.int (zi ((M 1) 4))] [] (q_mw h am (uA (uA M2 1 (M 1)) 4 (u1 (u1 (u1 (M 4) 0 a) 1 b) 2 c))) Q
                                                  refine xv (x_aload_n 209 d_X8_order__208 rfl rfl) ?_
                                                  refine xv (x_getfield 212 d_X8_order__209 rfl f_8_9 (Nat.le_of_ble_eq_true rfl) (Nat.le_of_ble_eq_true rfl) (q_gf_of m_o rfl)) ?_
                                                  refine xv (x_iload 214 d_X8_order__212 rfl rfl) ?_
                                                  refine xv (x_ins1 217 (as := [Value.int (zi ((M 1) 4))]) d_X8_order__214 rfl c_8_106 rfl (Nat.le_of_ble_eq_true rfl) (Nat.le_of_ble_eq_true rfl) (Nat.le_of_ble_eq_true rfl) rfl (S_X8_order (E := E) (h := h) (am := am) (M := (uA (uA M2 1 (M 1)) 4 (u1 (u1 (u1 (M 4) 0 a) 1 b) 2 c))))) ?_
                                                  show Xv E q_m_X8_order_ 217 [Value.ref am, Value.int (zi d), Value.int (zi a), Value.int (zi b), Value.int (zi c), Value.int (zi 3), Value.int (zi ((M 1) 4))] [Value.int (zi (320 + 8 * ((M 1) 4))), Value.ref (am + 1)] (q_mw h am (uA (uA M2 1 (M 1)) 4 (u1 (u1 (u1 (M 4) 0 a) 1 b) 2 c))) Q
                                                  refine xv (x_iconst 218 d_X8_order__217 rfl) ?_
                                                  refine xv (x_iadd 219 d_X8_order__218 rfl) ?_
                                                  refine xv (x_iload_n 220 d_X8_order__219 rfl rfl) ?_
                                                  refine xv (x_iastore 221 d_X8_order__220 rfl (m_s1 (by omega) (by omega))) ?_
                                                  show Xv E q_m_X8_order_ 221 [Value.ref am, Value.int (zi d), Value.int (zi a), Value.int (zi b), Value.int (zi c), Value.int (zi 3), Value.int (zi ((M 1) 4))] [] (q_mw h am (uM (uA (uA M2 1 (M 1)) 4 (u1 (u1 (u1 (M 4) 0 a) 1 b) 2 c)) 1 ((320 + 8 * ((M 1) 4)) + 0) d)) Q
                                                  refine xv (x_aload_n 222 d_X8_order__221 rfl rfl) ?_
                                                  refine xv (x_getfield 225 d_X8_order__222 rfl f_8_9 (Nat.le_of_ble_eq_true rfl) (Nat.le_of_ble_eq_true rfl) (q_gf_of m_o rfl)) ?_
                                                  refine xv (x_iload 227 d_X8_order__225 rfl rfl) ?_
                                                  refine xv (x_ins1 230 (as := [Value.int (zi ((M 1) 4))]) d_X8_order__227 rfl c_8_106 rfl (Nat.le_of_ble_eq_true rfl) (Nat.le_of_ble_eq_true rfl) (Nat.le_of_ble_eq_true rfl) rfl (S_X8_order (E := E) (h := h) (am := am) (M := (uM (uA (uA M2 1 (M 1)) 4 (u1 (u1 (u1 (M 4) 0 a) 1 b) 2 c)) 1 ((320 + 8 * ((M 1) 4)) + 0) d)))) ?_
                                                  show Xv E q_m_X8_order_ 230 [Value.ref am, Value.int (zi d), Value.int (zi a), Value.int (zi b), Value.int (zi c), Value.int (zi 3), Value.int (zi ((M 1) 4))] [Value.int (zi (320 + 8 * ((M 1) 4))), Value.ref (am + 1)] (q_mw h am (uM (uA (uA M2 1 (M 1)) 4 (u1 (u1 (u1 (M 4) 0 a) 1 b) 2 c)) 1 ((320 + 8 * ((M 1) 4)) + 0) d)) Q
                                                  refine xv (x_iconst 231 d_X8_order__230 rfl) ?_
                                                  refine xv (x_iadd 232 d_X8_order__231 rfl) ?_
                                                  refine xv (x_iload 234 d_X8_order__232 rfl rfl) ?_
                                                  refine xv (x_iastore 235 d_X8_order__234 rfl (m_s1 (by omega) (by omega))) ?_
                                                  show Xv E q_m_X8_order_ 235 [Value.ref am, Value.int (zi d), Value.int (zi a), Value.int (zi b), Value.int (zi c), Value.int (zi 3), Value.int (zi ((M 1) 4))] [] (q_mw h am (uM (uM (uA (uA M2 1 (M 1)) 4 (u1 (u1 (u1 (M 4) 0 a) 1 b) 2 c)) 1 ((320 + 8 * ((M 1) 4)) + 0) d) 1 ((320 + 8 * ((M 1) 4)) + 1) 3)) Q
                                                  refine xv (x_aload_n 236 d_X8_order__235 rfl rfl) ?_
                                                  refine xv (x_getfield 239 d_X8_order__236 rfl f_8_9 (Nat.le_of_ble_eq_true rfl) (Nat.le_of_ble_eq_true rfl) (q_gf_of m_o rfl)) ?_
                                                  refine xv (x_iload 241 d_X8_order__239 rfl rfl) ?_
                                                  refine xv (x_ins1 244 (as := [Value.int (zi ((M 1) 4))]) d_X8_order__241 rfl c_8_106 rfl (Nat.le_of_ble_eq_true rfl) (Nat.le_of_ble_eq_true rfl) (Nat.le_of_ble_eq_true rfl) rfl (S_X8_order (E := E) (h := h) (am := am) (M := (uM (uM (uA (uA M2 1 (M 1)) 4 (u1 (u1 (u1 (M 4) 0 a) 1 b) 2 c)) 1 ((320 + 8 * ((M 1) 4)) + 0) d) 1 ((320 + 8 * ((M 1) 4)) + 1) 3)))) ?_
                                                  show Xv E q_m_X8_order_ 244 [Value.ref am, Value.int (zi d), Value.int (zi a), Value.int (zi b), Value.int (zi c), Value.int (zi 3), Value.int (zi ((M 1) 4))] [Value.int (zi (320 + 8 * ((M 1) 4))), Value.ref (am + 1)] (q_mw h am (uM (uM (uA (uA M2 1 (M 1)) 4 (u1 (u1 (u1 (M 4) 0 a) 1 b) 2 c)) 1 ((320 + 8 * ((M 1) 4)) + 0) d) 1 ((320 + 8 * ((M 1) 4)) + 1) 3)) Q
                                                  refine xv (x_iconst 245 d_X8_order__244 rfl) ?_
                                                  refine xv (x_iadd 246 d_X8_order__245 rfl) ?_
                                                  refine xv (x_iconst 247 d_X8_order__246 rfl) ?_
                                                  refine xv (x_iastore 248 d_X8_order__247 rfl (m_s1 (by omega) (by omega))) ?_
                                                  show Xv E q_m_X8_order_ 248 [Value.ref am, Value.int (zi d), Value.int (zi a), Value.int (zi b), Value.int (zi c), Value.int (zi 3), Value.int (zi ((M 1) 4))] [] (q_mw h am (uM (uM (uM (uA (uA M2 1 (M 1)) 4 (u1 (u1 (u1 (M 4) 0 a) 1 b) 2 c)) 1 ((320 + 8 * ((M 1) 4)) + 0) d) 1 ((320 + 8 * ((M 1) 4)) + 1) 3) 1 ((320 + 8 * ((M 1) 4)) + 2) 0)) Q
                                                  refine xv (x_aload_n 249 d_X8_order__248 rfl rfl) ?_
                                                  refine xv (x_getfield 252 d_X8_order__249 rfl f_8_9 (Nat.le_of_ble_eq_true rfl) (Nat.le_of_ble_eq_true rfl) (q_gf_of m_o rfl)) ?_
                                                  refine xv (x_iload 254 d_X8_order__252 rfl rfl) ?_
                                                  refine xv (x_ins1 257 (as := [Value.int (zi ((M 1) 4))]) d_X8_order__254 rfl c_8_106 rfl (Nat.le_of_ble_eq_true rfl) (Nat.le_of_ble_eq_true rfl) (Nat.le_of_ble_eq_true rfl) rfl (S_X8_order (E := E) (h := h) (am := am) (M := (uM (uM (uM (uA (uA M2 1 (M 1)) 4 (u1 (u1 (u1 (M 4) 0 a) 1 b) 2 c)) 1 ((320 + 8 * ((M 1) 4)) + 0) d) 1 ((320 + 8 * ((M 1) 4)) + 1) 3) 1 ((320 + 8 * ((M 1) 4)) + 2) 0)))) ?_
                                                  show Xv E q_m_X8_order_ 257 [Value.ref am, Value.int (zi d), Value.int (zi a), Value.int (zi b), Value.int (zi c), Value.int (zi 3), Value.int (zi ((M 1) 4))] [Value.int (zi (320 + 8 * ((M 1) 4))), Value.ref (am + 1)] (q_mw h am (uM (uM (uM (uA (uA M2 1 (M 1)) 4 (u1 (u1 (u1 (M 4) 0 a) 1 b) 2 c)) 1 ((320 + 8 * ((M 1) 4)) + 0) d) 1 ((320 + 8 * ((M 1) 4)) + 1) 3) 1 ((320 + 8 * ((M 1) 4)) + 2) 0)) Q
                                                  refine xv (x_iconst 258 d_X8_order__257 rfl) ?_
                                                  refine xv (x_iadd 259 d_X8_order__258 rfl) ?_
                                                  refine xv (x_iconst 260 d_X8_order__259 rfl) ?_
                                                  refine xv (x_iastore 261 d_X8_order__260 rfl (m_s1 (by omega) (by omega))) ?_
                                                  show Xv E q_m_X8_order_ 261 [Value.ref am, Value.int (zi d), Value.int (zi a), Value.int (zi b), Value.int (zi c), Value.int (zi 3), Value.int (zi ((M 1) 4))] [] (q_mw h am (uM (uM (uM (uM (uA (uA M2 1 (M 1)) 4 (u1 (u1 (u1 (M 4) 0 a) 1 b) 2 c)) 1 ((320 + 8 * ((M 1) 4)) + 0) d) 1 ((320 + 8 * ((M 1) 4)) + 1) 3) 1 ((320 + 8 * ((M 1) 4)) + 2) 0) 1 ((320 + 8 * ((M 1) 4)) + 3) (-1))) Q
                                                  refine xv (x_aload_n 262 d_X8_order__261 rfl rfl) ?_
                                                  refine xv (x_getfield 265 d_X8_order__262 rfl f_8_9 (Nat.le_of_ble_eq_true rfl) (Nat.le_of_ble_eq_true rfl) (q_gf_of m_o rfl)) ?_
                                                  refine xv (x_iload 267 d_X8_order__265 rfl rfl) ?_
                                                  refine xv (x_ins1 270 (as := [Value.int (zi ((M 1) 4))]) d_X8_order__267 rfl c_8_106 rfl (Nat.le_of_ble_eq_true rfl) (Nat.le_of_ble_eq_true rfl) (Nat.le_of_ble_eq_true rfl) rfl (S_X8_order (E := E) (h := h) (am := am) (M := (uM (uM (uM (uM (uA (uA M2 1 (M 1)) 4 (u1 (u1 (u1 (M 4) 0 a) 1 b) 2 c)) 1 ((320 + 8 * ((M 1) 4)) + 0) d) 1 ((320 + 8 * ((M 1) 4)) + 1) 3) 1 ((320 + 8 * ((M 1) 4)) + 2) 0) 1 ((320 + 8 * ((M 1) 4)) + 3) (-1))))) ?_
                                                  show Xv E q_m_X8_order_ 270 [Value.ref am, Value.int (zi d), Value.int (zi a), Value.int (zi b), Value.int (zi c), Value.int (zi 3), Value.int (zi ((M 1) 4))] [Value.int (zi (320 + 8 * ((M 1) 4))), Value.ref (am + 1)] (q_mw h am (uM (uM (uM (uM (uA (uA M2 1 (M 1)) 4 (u1 (u1 (u1 (M 4) 0 a) 1 b) 2 c)) 1 ((320 + 8 * ((M 1) 4)) + 0) d) 1 ((320 + 8 * ((M 1) 4)) + 1) 3) 1 ((320 + 8 * ((M 1) 4)) + 2) 0) 1 ((320 + 8 * ((M 1) 4)) + 3) (-1))) Q
                                                  refine xv (x_iconst 271 d_X8_order__270 rfl) ?_
                                                  refine xv (x_iadd 272 d_X8_order__271 rfl) ?_
                                                  refine xv (x_iconst 273 d_X8_order__272 rfl) ?_
                                                  refine xv (x_iastore 274 d_X8_order__273 rfl (m_s1 (by omega) (by omega))) ?_
                                                  show Xv E q_m_X8_order_ 274 [Value.ref am, Value.int (zi d), Value.int (zi a), Value.int (zi b), Value.int (zi c), Value.int (zi 3), Value.int (zi ((M 1) 4))] [] (q_mw h am (uM (uM (uM (uM (uM (uA (uA M2 1 (M 1)) 4 (u1 (u1 (u1 (M 4) 0 a) 1 b) 2 c)) 1 ((320 + 8 * ((M 1) 4)) + 0) d) 1 ((320 + 8 * ((M 1) 4)) + 1) 3) 1 ((320 + 8 * ((M 1) 4)) + 2) 0) 1 ((320 + 8 * ((M 1) 4)) + 3) (-1)) 1 ((320 + 8 * ((M 1) 4)) + 4) (-1))) Q
                                                  refine xv (x_aload_n 275 d_X8_order__274 rfl rfl) ?_
                                                  refine xv (x_getfield 278 d_X8_order__275 rfl f_8_19 (Nat.le_of_ble_eq_true rfl) (Nat.le_of_ble_eq_true rfl) (q_gf_of m_o rfl)) ?_
                                                  refine xv (x_iconst 279 d_X8_order__278 rfl) ?_
                                                  refine xv (x_aload_n 280 d_X8_order__279 rfl rfl) ?_
                                                  refine xv (x_getfield 283 d_X8_order__280 rfl f_8_9 (Nat.le_of_ble_eq_true rfl) (Nat.le_of_ble_eq_true rfl) (q_gf_of m_o rfl)) ?_
                                                  refine xv (x_iload 285 d_X8_order__283 rfl rfl) ?_
                                                  refine xv (x_ins1 288 (as := [Value.int (zi ((M 1) 4))]) d_X8_order__285 rfl c_8_106 rfl (Nat.le_of_ble_eq_true rfl) (Nat.le_of_ble_eq_true rfl) (Nat.le_of_ble_eq_true rfl) rfl (S_X8_order (E := E) (h := h) (am := am) (M := (uM (uM (uM (uM (uM (uA (uA M2 1 (M 1)) 4 (u1 (u1 (u1 (M 4) 0 a) 1 b) 2 c)) 1 ((320 + 8 * ((M 1) 4)) + 0) d) 1 ((320 + 8 * ((M 1) 4)) + 1) 3) 1 ((320 + 8 * ((M 1) 4)) + 2) 0) 1 ((320 + 8 * ((M 1) 4)) + 3) (-1)) 1 ((320 + 8 * ((M 1) 4)) + 4) (-1))))) ?_
                                                  show Xv E q_m_X8_order_ 288 [Value.ref am, Value.int (zi d), Value.int (zi a), Value.int (zi b), Value.int (zi c), Value.int (zi 3), Value.int (zi ((M 1) 4))] [Value.int (zi (320 + 8 * ((M 1) 4))), Value.ref (am + 1), Value.int (zi 0), Value.ref (am + 4)] (q_mw h am (uM (uM (uM (uM (uM (uA (uA M2 1 (M 1)) 4 (u1 (u1 (u1 (M 4) 0 a) 1 b) 2 c)) 1 ((320 + 8 * ((M 1) 4)) + 0) d) 1 ((320 + 8 * ((M 1) 4)) + 1) 3) 1 ((320 + 8 * ((M 1) 4)) + 2) 0) 1 ((320 + 8 * ((M 1) 4)) + 3) (-1)) 1 ((320 + 8 * ((M 1) 4)) + 4) (-1))) Q
                                                  refine xv (x_iconst 289 d_X8_order__288 rfl) ?_
                                                  refine xv (x_iadd 290 d_X8_order__289 rfl) ?_
                                                  refine xv (x_iconst 291 d_X8_order__290 rfl) ?_
                                                  refine xv (x_copy 294 d_X8_order__291 rfl rfl rfl (Nat.le_of_ble_eq_true rfl) (Nat.le_of_ble_eq_true rfl) (Nat.le_of_ble_eq_true rfl) (m_cpy 4 1 m_a4 m_a1 m_w1 (by omega) (by omega) (by omega) (by omega) (by omega) (by decide) (by decide))) ?_
                                                  show Xv E q_m_X8_order_ 294 [Value.ref am, Value.int (zi d), Value.int (zi a), Value.int (zi b), Value.int (zi c), Value.int (zi 3), Value.int (zi ((M 1) 4))] [] (q_mw h am (uA (uM (uM (uM (uM (uM (uA (uA M2 1 (M 1)) 4 (u1 (u1 (u1 (M 4) 0 a) 1 b) 2 c)) 1 ((320 + 8 * ((M 1) 4)) + 0) d) 1 ((320 + 8 * ((M 1) 4)) + 1) 3) 1 ((320 + 8 * ((M 1) 4)) + 2) 0) 1 ((320 + 8 * ((M 1) 4)) + 3) (-1)) 1 ((320 + 8 * ((M 1) 4)) + 4) (-1)) 1 (cpI (u1 (u1 (u1 (M 4) 0 a) 1 b) 2 c) (u1 (u1 (u1 (u1 (u1 (M 1) ((320 + 8 * ((M 1) 4)) + 0) d) ((320 + 8 * ((M 1) 4)) + 1) 3) ((320 + 8 * ((M 1) 4)) + 2) 0) ((320 + 8 * ((M 1) 4)) + 3) (-1)) ((320 + 8 * ((M 1) 4)) + 4) (-1)) 0 ((320 + 8 * ((M 1) 4)) + 5) 3))) Q
                                                  refine xv (x_aload_n 295 d_X8_order__294 rfl rfl) ?_
                                                  refine xv (x_getfield 298 d_X8_order__295 rfl f_8_9 (Nat.le_of_ble_eq_true rfl) (Nat.le_of_ble_eq_true rfl) (q_gf_of m_o rfl)) ?_
                                                  refine xv (x_iconst 299 d_X8_order__298 rfl) ?_
                                                  refine xv (x_dup2 300 d_X8_order__299 rfl rfl rfl) ?_
                                                  refine xv (x_iaload 301 d_X8_order__300 rfl ((m_g1 (by omega) (by omega)).trans (rfl : _ = some (Value.int (zi ((cpI (u1 (u1 (u1 (M 4) 0 a) 1 b) 2 c) (u1 (u1 (u1 (u1 (u1 (M 1) ((320 + 8 * ((M 1) 4)) + 0) d) ((320 + 8 * ((M 1) 4)) + 1) 3) ((320 + 8 * ((M 1) 4)) + 2) 0) ((320 + 8 * ((M 1) 4)) + 3) (-1)) ((320 + 8 * ((M 1) 4)) + 4) (-1)) 0 ((320 + 8 * ((M 1) 4)) + 5) 3) 4)))))) ?_
                                                  refine xv (x_iconst 302 d_X8_order__301 rfl) ?_
                                                  refine xv (x_iadd 303 d_X8_order__302 rfl) ?_
                                                  refine xv (x_iastore 304 d_X8_order__303 rfl (m_s1 (by omega) (by omega))) ?_
                                                  show Xv E q_m_X8_order_ 304 [Value.ref am, Value.int (zi d), Value.int (zi a), Value.int (zi b), Value.int (zi c), Value.int (zi 3), Value.int (zi ((M 1) 4))] [] (q_mw h am (uM (uA (uM (uM (uM (uM (uM (uA (uA M2 1 (M 1)) 4 (u1 (u1 (u1 (M 4) 0 a) 1 b) 2 c)) 1 ((320 + 8 * ((M 1) 4)) + 0) d) 1 ((320 + 8 * ((M 1) 4)) + 1) 3) 1 ((320 + 8 * ((M 1) 4)) + 2) 0) 1 ((320 + 8 * ((M 1) 4)) + 3) (-1)) 1 ((320 + 8 * ((M 1) 4)) + 4) (-1)) 1 (cpI (u1 (u1 (u1 (M 4) 0 a) 1 b) 2 c) (u1 (u1 (u1 (u1 (u1 (M 1) ((320 + 8 * ((M 1) 4)) + 0) d) ((320 + 8 * ((M 1) 4)) + 1) 3) ((320 + 8 * ((M 1) 4)) + 2) 0) ((320 + 8 * ((M 1) 4)) + 3) (-1)) ((320 + 8 * ((M 1) 4)) + 4) (-1)) 0 ((320 + 8 * ((M 1) 4)) + 5) 3)) 1 4 (((cpI (u1 (u1 (u1 (M 4) 0 a) 1 b) 2 c) (u1 (u1 (u1 (u1 (u1 (M 1) ((320 + 8 * ((M 1) 4)) + 0) d) ((320 + 8 * ((M 1) 4)) + 1) 3) ((320 + 8 * ((M 1) 4)) + 2) 0) ((320 + 8 * ((M 1) 4)) + 3) (-1)) ((320 + 8 * ((M 1) 4)) + 4) (-1)) 0 ((320 + 8 * ((M 1) 4)) + 5) 3) 4) + 1))) Q
                                                  refine xv (x_iload 306 d_X8_order__304 rfl rfl) ?_
                                                  refine xv_r (x_ireturn d_X8_order__306 rfl rfl) ?_
                                                  have er : mOrd (M 1) d a b c = (0, 0) := by first | (exfalso; omega) | (unfold mOrd; repeat (first | rw [if_pos (by omega)] | rw [if_neg (by omega)]))
                                                  have ec : cntO b c = 3 := by first | (exfalso; omega) | (unfold cntO; repeat (first | rw [if_pos (by omega)] | rw [if_neg (by omega)]))
                                                  refine hQ _ _ ?_
                                                  unfold mMu2
                                                  rw [er, if_pos rfl, ec]
                                                  refine ⟨rfl, ?_⟩
                                                  unfold lnO
                                                  rw [hM2, ← eM]
                                                  simp only [uM_uA, uA_uA, uA_eq]
                                                  rfl
                                                · omega
                                              · refine xv (x_aload_n 177 d_X8_order__176 rfl rfl) ?_
                                                refine xv (x_bipush 179 d_X8_order__177 rfl rfl) ?_
                                                refine xv (x_aload_n 180 d_X8_order__179 rfl rfl) ?_
                                                refine xv (x_getfield 183 d_X8_order__180 rfl f_8_19 (Nat.le_of_ble_eq_true rfl) (Nat.le_of_ble_eq_true rfl) (q_gf_of m_o rfl)) ?_
                                                refine xv (x_iload 185 d_X8_order__183 rfl rfl) ?_
                                                refine xv (x_iaload 186 d_X8_order__185 rfl ((m_g4 (by omega) (by omega)).trans (rfl : _ = some (Value.int (zi c))))) ?_
                                                obtain ⟨r186, h186, e186, z186, y186⟩ := S_X8_refuse (E := E) (h := h) (am := am) (M := (uM (uM (uM (uM M 0 5 0) 4 0 a) 4 1 b) 4 2 c)) (y := 12) (z := c) 
                                                subst z186
                                                subst y186
                                                refine xv (x_inv1 189 (as := [Value.int (zi 12), Value.int (zi c)]) d_X8_order__186 rfl c_8_90 rfl (Nat.le_of_ble_eq_true rfl) (Nat.le_of_ble_eq_true rfl) m_o (Nat.le_of_ble_eq_true rfl) (Nat.le_of_ble_eq_true rfl) rfl e186) ?_
                                                show Xv E q_m_X8_order_ 189 [Value.ref am, Value.int (zi d), Value.int (zi a), Value.int (zi b), Value.int (zi c), Value.int (zi 3), Value.int (zi ((0 + 1) + 1))] [Value.int (zi 0)] (q_mw h am (uM (uM (uM (uM (uM (uM (uM M 0 5 0) 4 0 a) 4 1 b) 4 2 c) 0 5 1) 0 6 12) 0 7 c)) Q
                                                refine xv_r (x_ireturn d_X8_order__189 rfl rfl) ?_
                                                have er : mOrd (M 1) d a b c = (12, c) := by first | (exfalso; omega) | (unfold mOrd; repeat (first | rw [if_pos (by omega)] | rw [if_neg (by omega)]))
                                                refine hQ _ _ ?_
                                                unfold mMu2
                                                rw [er]
                                                exact ⟨rfl, rfl⟩
                                          · refine xv (x_aload_n 177 d_X8_order__176 rfl rfl) ?_
                                            refine xv (x_bipush 179 d_X8_order__177 rfl rfl) ?_
                                            refine xv (x_aload_n 180 d_X8_order__179 rfl rfl) ?_
                                            refine xv (x_getfield 183 d_X8_order__180 rfl f_8_19 (Nat.le_of_ble_eq_true rfl) (Nat.le_of_ble_eq_true rfl) (q_gf_of m_o rfl)) ?_
                                            refine xv (x_iload 185 d_X8_order__183 rfl rfl) ?_
                                            refine xv (x_iaload 186 d_X8_order__185 rfl ((m_g4 (by omega) (by omega)).trans (rfl : _ = some (Value.int (zi b))))) ?_
                                            obtain ⟨r186, h186, e186, z186, y186⟩ := S_X8_refuse (E := E) (h := h) (am := am) (M := (uM (uM (uM (uM M 0 5 0) 4 0 a) 4 1 b) 4 2 c)) (y := 12) (z := b) 
                                            subst z186
                                            subst y186
                                            refine xv (x_inv1 189 (as := [Value.int (zi 12), Value.int (zi b)]) d_X8_order__186 rfl c_8_90 rfl (Nat.le_of_ble_eq_true rfl) (Nat.le_of_ble_eq_true rfl) m_o (Nat.le_of_ble_eq_true rfl) (Nat.le_of_ble_eq_true rfl) rfl e186) ?_
                                            show Xv E q_m_X8_order_ 189 [Value.ref am, Value.int (zi d), Value.int (zi a), Value.int (zi b), Value.int (zi c), Value.int (zi 3), Value.int (zi (0 + 1))] [Value.int (zi 0)] (q_mw h am (uM (uM (uM (uM (uM (uM (uM M 0 5 0) 4 0 a) 4 1 b) 4 2 c) 0 5 1) 0 6 12) 0 7 b)) Q
                                            refine xv_r (x_ireturn d_X8_order__189 rfl rfl) ?_
                                            have er : mOrd (M 1) d a b c = (12, b) := by first | (exfalso; omega) | (unfold mOrd; repeat (first | rw [if_pos (by omega)] | rw [if_neg (by omega)]))
                                            refine hQ _ _ ?_
                                            unfold mMu2
                                            rw [er]
                                            exact ⟨rfl, rfl⟩
                                      · refine xv (x_aload_n 177 d_X8_order__176 rfl rfl) ?_
                                        refine xv (x_bipush 179 d_X8_order__177 rfl rfl) ?_
                                        refine xv (x_aload_n 180 d_X8_order__179 rfl rfl) ?_
                                        refine xv (x_getfield 183 d_X8_order__180 rfl f_8_19 (Nat.le_of_ble_eq_true rfl) (Nat.le_of_ble_eq_true rfl) (q_gf_of m_o rfl)) ?_
                                        refine xv (x_iload 185 d_X8_order__183 rfl rfl) ?_
                                        refine xv (x_iaload 186 d_X8_order__185 rfl ((m_g4 (by omega) (by omega)).trans (rfl : _ = some (Value.int (zi a))))) ?_
                                        obtain ⟨r186, h186, e186, z186, y186⟩ := S_X8_refuse (E := E) (h := h) (am := am) (M := (uM (uM (uM (uM M 0 5 0) 4 0 a) 4 1 b) 4 2 c)) (y := 12) (z := a) 
                                        subst z186
                                        subst y186
                                        refine xv (x_inv1 189 (as := [Value.int (zi 12), Value.int (zi a)]) d_X8_order__186 rfl c_8_90 rfl (Nat.le_of_ble_eq_true rfl) (Nat.le_of_ble_eq_true rfl) m_o (Nat.le_of_ble_eq_true rfl) (Nat.le_of_ble_eq_true rfl) rfl e186) ?_
                                        show Xv E q_m_X8_order_ 189 [Value.ref am, Value.int (zi d), Value.int (zi a), Value.int (zi b), Value.int (zi c), Value.int (zi 3), Value.int (zi 0)] [Value.int (zi 0)] (q_mw h am (uM (uM (uM (uM (uM (uM (uM M 0 5 0) 4 0 a) 4 1 b) 4 2 c) 0 5 1) 0 6 12) 0 7 a)) Q
                                        refine xv_r (x_ireturn d_X8_order__189 rfl rfl) ?_
                                        have er : mOrd (M 1) d a b c = (12, a) := by first | (exfalso; omega) | (unfold mOrd; repeat (first | rw [if_pos (by omega)] | rw [if_neg (by omega)]))
                                        refine hQ _ _ ?_
                                        unfold mMu2
                                        rw [er]
                                        exact ⟨rfl, rfl⟩
                                  · refine xv (x_aload_n 142 d_X8_order__141 rfl rfl) ?_
                                    refine xv (x_iconst 143 d_X8_order__142 rfl) ?_
                                    refine xv (x_iconst 144 d_X8_order__143 rfl) ?_
                                    obtain ⟨r144, h144, e144, z144, y144⟩ := S_X8_refuse (E := E) (h := h) (am := am) (M := (uM (uM (uM (uM M 0 5 0) 4 0 a) 4 1 b) 4 2 c)) (y := 3) (z := 0) 
                                    subst z144
                                    subst y144
                                    refine xv (x_inv1 147 (as := [Value.int (zi 3), Value.int (zi 0)]) d_X8_order__144 rfl c_8_90 rfl (Nat.le_of_ble_eq_true rfl) (Nat.le_of_ble_eq_true rfl) m_o (Nat.le_of_ble_eq_true rfl) (Nat.le_of_ble_eq_true rfl) rfl e144) ?_
                                    show Xv E q_m_X8_order_ 147 [Value.ref am, Value.int (zi d), Value.int (zi a), Value.int (zi b), Value.int (zi c), Value.int (zi 3), Value.int (zi (((0 + 1) + 1) + 1))] [Value.int (zi 0)] (q_mw h am (uM (uM (uM (uM (uM (uM (uM M 0 5 0) 4 0 a) 4 1 b) 4 2 c) 0 5 1) 0 6 3) 0 7 0)) Q
                                    refine xv_r (x_ireturn d_X8_order__147 rfl rfl) ?_
                                    have er : mOrd (M 1) d a b c = (3, 0) := by first | (exfalso; omega) | (unfold mOrd; repeat (first | rw [if_pos (by omega)] | rw [if_neg (by omega)]))
                                    refine hQ _ _ ?_
                                    unfold mMu2
                                    rw [er]
                                    exact ⟨rfl, rfl⟩
                                · refine xv (x_aload_n 124 d_X8_order__123 rfl rfl) ?_
                                  refine xv (x_iconst 125 d_X8_order__124 rfl) ?_
                                  refine xv (x_iconst 126 d_X8_order__125 rfl) ?_
                                  obtain ⟨r126, h126, e126, z126, y126⟩ := S_X8_refuse (E := E) (h := h) (am := am) (M := (uM (uM (uM (uM M 0 5 0) 4 0 a) 4 1 b) 4 2 c)) (y := 2) (z := 0) 
                                  subst z126
                                  subst y126
                                  refine xv (x_inv1 129 (as := [Value.int (zi 2), Value.int (zi 0)]) d_X8_order__126 rfl c_8_90 rfl (Nat.le_of_ble_eq_true rfl) (Nat.le_of_ble_eq_true rfl) m_o (Nat.le_of_ble_eq_true rfl) (Nat.le_of_ble_eq_true rfl) rfl e126) ?_
                                  show Xv E q_m_X8_order_ 129 [Value.ref am, Value.int (zi d), Value.int (zi a), Value.int (zi b), Value.int (zi c), Value.int (zi 3), Value.int (zi (((0 + 1) + 1) + 1))] [Value.int (zi 0)] (q_mw h am (uM (uM (uM (uM (uM (uM (uM M 0 5 0) 4 0 a) 4 1 b) 4 2 c) 0 5 1) 0 6 2) 0 7 0)) Q
                                  refine xv_r (x_ireturn d_X8_order__129 rfl rfl) ?_
                                  have er : mOrd (M 1) d a b c = (2, 0) := by first | (exfalso; omega) | (unfold mOrd; repeat (first | rw [if_pos (by omega)] | rw [if_neg (by omega)]))
                                  refine hQ _ _ ?_
                                  unfold mMu2
                                  rw [er]
                                  exact ⟨rfl, rfl⟩
                          · omega
                        · refine xv (x_aload_n 89 d_X8_order__88 rfl rfl) ?_
                          refine xv (x_iconst 90 d_X8_order__89 rfl) ?_
                          refine xv (x_iconst 91 d_X8_order__90 rfl) ?_
                          obtain ⟨r91, h91, e91, z91, y91⟩ := S_X8_refuse (E := E) (h := h) (am := am) (M := (uM (uM (uM (uM M 0 5 0) 4 0 a) 4 1 b) 4 2 c)) (y := 1) (z := 0) 
                          subst z91
                          subst y91
                          refine xv (x_inv1 94 (as := [Value.int (zi 1), Value.int (zi 0)]) d_X8_order__91 rfl c_8_90 rfl (Nat.le_of_ble_eq_true rfl) (Nat.le_of_ble_eq_true rfl) m_o (Nat.le_of_ble_eq_true rfl) (Nat.le_of_ble_eq_true rfl) rfl e91) ?_
                          show Xv E q_m_X8_order_ 94 [Value.ref am, Value.int (zi d), Value.int (zi a), Value.int (zi b), Value.int (zi c), Value.int (zi 3), Value.int (zi ((0 + 1) + 1))] [Value.int (zi 0)] (q_mw h am (uM (uM (uM (uM (uM (uM (uM M 0 5 0) 4 0 a) 4 1 b) 4 2 c) 0 5 1) 0 6 1) 0 7 0)) Q
                          refine xv_r (x_ireturn d_X8_order__94 rfl rfl) ?_
                          have er : mOrd (M 1) d a b c = (1, 0) := by first | (exfalso; omega) | (unfold mOrd; repeat (first | rw [if_pos (by omega)] | rw [if_neg (by omega)]))
                          refine hQ _ _ ?_
                          unfold mMu2
                          rw [er]
                          exact ⟨rfl, rfl⟩
                · refine xv (x_aload_n 89 d_X8_order__88 rfl rfl) ?_
                  refine xv (x_iconst 90 d_X8_order__89 rfl) ?_
                  refine xv (x_iconst 91 d_X8_order__90 rfl) ?_
                  obtain ⟨r91, h91, e91, z91, y91⟩ := S_X8_refuse (E := E) (h := h) (am := am) (M := (uM (uM (uM (uM M 0 5 0) 4 0 a) 4 1 b) 4 2 c)) (y := 1) (z := 0) 
                  subst z91
                  subst y91
                  refine xv (x_inv1 94 (as := [Value.int (zi 1), Value.int (zi 0)]) d_X8_order__91 rfl c_8_90 rfl (Nat.le_of_ble_eq_true rfl) (Nat.le_of_ble_eq_true rfl) m_o (Nat.le_of_ble_eq_true rfl) (Nat.le_of_ble_eq_true rfl) rfl e91) ?_
                  show Xv E q_m_X8_order_ 94 [Value.ref am, Value.int (zi d), Value.int (zi a), Value.int (zi b), Value.int (zi c), Value.int (zi 3), Value.int (zi (0 + 1))] [Value.int (zi 0)] (q_mw h am (uM (uM (uM (uM (uM (uM (uM M 0 5 0) 4 0 a) 4 1 b) 4 2 c) 0 5 1) 0 6 1) 0 7 0)) Q
                  refine xv_r (x_ireturn d_X8_order__94 rfl rfl) ?_
                  have er : mOrd (M 1) d a b c = (1, 0) := by first | (exfalso; omega) | (unfold mOrd; repeat (first | rw [if_pos (by omega)] | rw [if_neg (by omega)]))
                  refine hQ _ _ ?_
                  unfold mMu2
                  rw [er]
                  exact ⟨rfl, rfl⟩
        · replace k69 := bI_0.mp k69
          refine xv (x_iload 74 d_X8_order__72 rfl rfl) ?_
          refine v_if_eq 88 77 d_X8_order__74 rfl rfl (by omega) (by omega) (fun k74 => ?_) (fun k74 => ?_)
          · refine xv (x_aload_n 89 d_X8_order__88 rfl rfl) ?_
            refine xv (x_iconst 90 d_X8_order__89 rfl) ?_
            refine xv (x_iconst 91 d_X8_order__90 rfl) ?_
            obtain ⟨r91, h91, e91, z91, y91⟩ := S_X8_refuse (E := E) (h := h) (am := am) (M := (uM (uM (uM (uM M 0 5 0) 4 0 a) 4 1 b) 4 2 c)) (y := 1) (z := 0) 
            subst z91
            subst y91
            refine xv (x_inv1 94 (as := [Value.int (zi 1), Value.int (zi 0)]) d_X8_order__91 rfl c_8_90 rfl (Nat.le_of_ble_eq_true rfl) (Nat.le_of_ble_eq_true rfl) m_o (Nat.le_of_ble_eq_true rfl) (Nat.le_of_ble_eq_true rfl) rfl e91) ?_
            show Xv E q_m_X8_order_ 94 [Value.ref am, Value.int (zi d), Value.int (zi a), Value.int (zi b), Value.int (zi c), Value.int (zi 3), Value.int (zi 0)] [Value.int (zi 0)] (q_mw h am (uM (uM (uM (uM (uM (uM (uM M 0 5 0) 4 0 a) 4 1 b) 4 2 c) 0 5 1) 0 6 1) 0 7 0)) Q
            refine xv_r (x_ireturn d_X8_order__94 rfl rfl) ?_
            have er : mOrd (M 1) d a b c = (1, 0) := by first | (exfalso; omega) | (unfold mOrd; repeat (first | rw [if_pos (by omega)] | rw [if_neg (by omega)]))
            refine hQ _ _ ?_
            unfold mMu2
            rw [er]
            exact ⟨rfl, rfl⟩
          · omega
    · refine xv (x_iconst 43 d_X8_order__42 rfl) ?_
      refine xv (x_goto 47 d_X8_order__43 rfl) ?_
      refine xv (x_istore 49 d_X8_order__47 rfl (Nat.le_of_ble_eq_true rfl)) ?_
      show Xv E q_m_X8_order_ 49 [Value.ref am, Value.int (zi d), Value.int (zi a), Value.int (zi b), Value.int (zi c), Value.int (zi 2), Value.null] [] (q_mw h am (uM (uM (uM (uM M 0 5 0) 4 0 a) 4 1 b) 4 2 c)) Q
      refine xv (x_iconst 50 d_X8_order__49 rfl) ?_
      refine xv (x_istore 52 d_X8_order__50 rfl (Nat.le_of_ble_eq_true rfl)) ?_
      show Xv E q_m_X8_order_ 52 [Value.ref am, Value.int (zi d), Value.int (zi a), Value.int (zi b), Value.int (zi c), Value.int (zi 2), Value.int (zi 0)] [] (q_mw h am (uM (uM (uM (uM M 0 5 0) 4 0 a) 4 1 b) 4 2 c)) Q
      refine xv (x_iload 54 d_X8_order__52 rfl rfl) ?_
      refine xv (x_iconst 55 d_X8_order__54 rfl) ?_
      refine v_icmp_ge 101 58 d_X8_order__55 rfl rfl (by omega) (by omega) (by omega) (by omega) (fun k55 => ?_) (fun k55 => ?_)
      · omega
      · refine xv (x_aload_n 59 d_X8_order__58 rfl rfl) ?_
        refine xv (x_aload_n 60 d_X8_order__59 rfl rfl) ?_
        refine xv (x_getfield 63 d_X8_order__60 rfl f_8_19 (Nat.le_of_ble_eq_true rfl) (Nat.le_of_ble_eq_true rfl) (q_gf_of m_o rfl)) ?_
        refine xv (x_iload 65 d_X8_order__63 rfl rfl) ?_
        refine xv (x_iaload 66 d_X8_order__65 rfl ((m_g4 (by omega) (by omega)).trans (rfl : _ = some (Value.int (zi a))))) ?_
        refine xv (x_inv1 69 (as := [Value.int (zi a)]) d_X8_order__66 rfl c_8_86 rfl (Nat.le_of_ble_eq_true rfl) (Nat.le_of_ble_eq_true rfl) m_o (Nat.le_of_ble_eq_true rfl) (Nat.le_of_ble_eq_true rfl) rfl (S_X8_isCell (E := E) (h := h) (am := am) (M := (uM (uM (uM (uM M 0 5 0) 4 0 a) 4 1 b) 4 2 c)) hR (by first | omega | (rw [show (uM (uM (uM (uM M 0 5 0) 4 0 a) 4 1 b) 4 2 c) 1 = (M 1) from rfl]; omega)) (by first | omega | (rw [show (uM (uM (uM (uM M 0 5 0) 4 0 a) 4 1 b) 4 2 c) 1 = (M 1) from rfl]; omega)))) ?_
        show Xv E q_m_X8_order_ 69 [Value.ref am, Value.int (zi d), Value.int (zi a), Value.int (zi b), Value.int (zi c), Value.int (zi 2), Value.int (zi 0)] [Value.int (zi (bI (isC (M 1) a)))] (q_mw h am (uM (uM (uM (uM M 0 5 0) 4 0 a) 4 1 b) 4 2 c)) Q
        refine v_if_ne 95 72 d_X8_order__69 rfl rfl (by have := bI_r (isC (M 1) a); omega) (by have := bI_r (isC (M 1) a); omega) (fun k69 => ?_) (fun k69 => ?_)
        · replace k69 := bI_n0.mp k69
          refine xv (x_iinc 98 d_X8_order__95 rfl rfl) ?_
          show Xv E q_m_X8_order_ 98 [Value.ref am, Value.int (zi d), Value.int (zi a), Value.int (zi b), Value.int (zi c), Value.int (zi 2), Value.int (zi (0 + 1))] [] (q_mw h am (uM (uM (uM (uM M 0 5 0) 4 0 a) 4 1 b) 4 2 c)) Q
          refine xv (x_goto 52 d_X8_order__98 rfl) ?_
          refine xv (x_iload 54 d_X8_order__52 rfl rfl) ?_
          refine xv (x_iconst 55 d_X8_order__54 rfl) ?_
          refine v_icmp_ge 101 58 d_X8_order__55 rfl rfl (by omega) (by omega) (by omega) (by omega) (fun k55 => ?_) (fun k55 => ?_)
          · omega
          · refine xv (x_aload_n 59 d_X8_order__58 rfl rfl) ?_
            refine xv (x_aload_n 60 d_X8_order__59 rfl rfl) ?_
            refine xv (x_getfield 63 d_X8_order__60 rfl f_8_19 (Nat.le_of_ble_eq_true rfl) (Nat.le_of_ble_eq_true rfl) (q_gf_of m_o rfl)) ?_
            refine xv (x_iload 65 d_X8_order__63 rfl rfl) ?_
            refine xv (x_iaload 66 d_X8_order__65 rfl ((m_g4 (by omega) (by omega)).trans (rfl : _ = some (Value.int (zi b))))) ?_
            refine xv (x_inv1 69 (as := [Value.int (zi b)]) d_X8_order__66 rfl c_8_86 rfl (Nat.le_of_ble_eq_true rfl) (Nat.le_of_ble_eq_true rfl) m_o (Nat.le_of_ble_eq_true rfl) (Nat.le_of_ble_eq_true rfl) rfl (S_X8_isCell (E := E) (h := h) (am := am) (M := (uM (uM (uM (uM M 0 5 0) 4 0 a) 4 1 b) 4 2 c)) hR (by first | omega | (rw [show (uM (uM (uM (uM M 0 5 0) 4 0 a) 4 1 b) 4 2 c) 1 = (M 1) from rfl]; omega)) (by first | omega | (rw [show (uM (uM (uM (uM M 0 5 0) 4 0 a) 4 1 b) 4 2 c) 1 = (M 1) from rfl]; omega)))) ?_
            show Xv E q_m_X8_order_ 69 [Value.ref am, Value.int (zi d), Value.int (zi a), Value.int (zi b), Value.int (zi c), Value.int (zi 2), Value.int (zi (0 + 1))] [Value.int (zi (bI (isC (M 1) b)))] (q_mw h am (uM (uM (uM (uM M 0 5 0) 4 0 a) 4 1 b) 4 2 c)) Q
            refine v_if_ne 95 72 d_X8_order__69 rfl rfl (by have := bI_r (isC (M 1) b); omega) (by have := bI_r (isC (M 1) b); omega) (fun k69 => ?_) (fun k69 => ?_)
            · replace k69 := bI_n0.mp k69
              refine xv (x_iinc 98 d_X8_order__95 rfl rfl) ?_
              show Xv E q_m_X8_order_ 98 [Value.ref am, Value.int (zi d), Value.int (zi a), Value.int (zi b), Value.int (zi c), Value.int (zi 2), Value.int (zi ((0 + 1) + 1))] [] (q_mw h am (uM (uM (uM (uM M 0 5 0) 4 0 a) 4 1 b) 4 2 c)) Q
              refine xv (x_goto 52 d_X8_order__98 rfl) ?_
              refine xv (x_iload 54 d_X8_order__52 rfl rfl) ?_
              refine xv (x_iconst 55 d_X8_order__54 rfl) ?_
              refine v_icmp_ge 101 58 d_X8_order__55 rfl rfl (by omega) (by omega) (by omega) (by omega) (fun k55 => ?_) (fun k55 => ?_)
              · omega
              · refine xv (x_aload_n 59 d_X8_order__58 rfl rfl) ?_
                refine xv (x_aload_n 60 d_X8_order__59 rfl rfl) ?_
                refine xv (x_getfield 63 d_X8_order__60 rfl f_8_19 (Nat.le_of_ble_eq_true rfl) (Nat.le_of_ble_eq_true rfl) (q_gf_of m_o rfl)) ?_
                refine xv (x_iload 65 d_X8_order__63 rfl rfl) ?_
                refine xv (x_iaload 66 d_X8_order__65 rfl ((m_g4 (by omega) (by omega)).trans (rfl : _ = some (Value.int (zi c))))) ?_
                refine xv (x_inv1 69 (as := [Value.int (zi c)]) d_X8_order__66 rfl c_8_86 rfl (Nat.le_of_ble_eq_true rfl) (Nat.le_of_ble_eq_true rfl) m_o (Nat.le_of_ble_eq_true rfl) (Nat.le_of_ble_eq_true rfl) rfl (S_X8_isCell (E := E) (h := h) (am := am) (M := (uM (uM (uM (uM M 0 5 0) 4 0 a) 4 1 b) 4 2 c)) hR (by first | omega | (rw [show (uM (uM (uM (uM M 0 5 0) 4 0 a) 4 1 b) 4 2 c) 1 = (M 1) from rfl]; omega)) (by first | omega | (rw [show (uM (uM (uM (uM M 0 5 0) 4 0 a) 4 1 b) 4 2 c) 1 = (M 1) from rfl]; omega)))) ?_
                show Xv E q_m_X8_order_ 69 [Value.ref am, Value.int (zi d), Value.int (zi a), Value.int (zi b), Value.int (zi c), Value.int (zi 2), Value.int (zi ((0 + 1) + 1))] [Value.int (zi (bI (isC (M 1) c)))] (q_mw h am (uM (uM (uM (uM M 0 5 0) 4 0 a) 4 1 b) 4 2 c)) Q
                refine v_if_ne 95 72 d_X8_order__69 rfl rfl (by have := bI_r (isC (M 1) c); omega) (by have := bI_r (isC (M 1) c); omega) (fun k69 => ?_) (fun k69 => ?_)
                · replace k69 := bI_n0.mp k69
                  refine xv (x_iinc 98 d_X8_order__95 rfl rfl) ?_
                  show Xv E q_m_X8_order_ 98 [Value.ref am, Value.int (zi d), Value.int (zi a), Value.int (zi b), Value.int (zi c), Value.int (zi 2), Value.int (zi (((0 + 1) + 1) + 1))] [] (q_mw h am (uM (uM (uM (uM M 0 5 0) 4 0 a) 4 1 b) 4 2 c)) Q
                  refine xv (x_goto 52 d_X8_order__98 rfl) ?_
                  refine xv (x_iload 54 d_X8_order__52 rfl rfl) ?_
                  refine xv (x_iconst 55 d_X8_order__54 rfl) ?_
                  refine v_icmp_ge 101 58 d_X8_order__55 rfl rfl (by omega) (by omega) (by omega) (by omega) (fun k55 => ?_) (fun k55 => ?_)
                  · refine xv (x_iload_n 102 d_X8_order__101 rfl rfl) ?_
                    refine xv (x_iconst 103 d_X8_order__102 rfl) ?_
                    refine xv (x_sipush 106 d_X8_order__103 rfl rfl) ?_
                    refine xv (x_ins1 109 (as := [Value.int (zi d), Value.int (zi 0), Value.int (zi 999)]) d_X8_order__106 rfl c_8_71 rfl (Nat.le_of_ble_eq_true rfl) (Nat.le_of_ble_eq_true rfl) (Nat.le_of_ble_eq_true rfl) rfl (S_X8_in (E := E) (h := h) (am := am) (M := (uM (uM (uM (uM M 0 5 0) 4 0 a) 4 1 b) 4 2 c)) (by first | omega | (rw [show (uM (uM (uM (uM M 0 5 0) 4 0 a) 4 1 b) 4 2 c) 1 = (M 1) from rfl]; omega)) (by first | omega | (rw [show (uM (uM (uM (uM M 0 5 0) 4 0 a) 4 1 b) 4 2 c) 1 = (M 1) from rfl]; omega)) (by first | omega | (rw [show (uM (uM (uM (uM M 0 5 0) 4 0 a) 4 1 b) 4 2 c) 1 = (M 1) from rfl]; omega)) (by first | omega | (rw [show (uM (uM (uM (uM M 0 5 0) 4 0 a) 4 1 b) 4 2 c) 1 = (M 1) from rfl]; omega)) (by first | omega | (rw [show (uM (uM (uM (uM M 0 5 0) 4 0 a) 4 1 b) 4 2 c) 1 = (M 1) from rfl]; omega)) (by first | omega | (rw [show (uM (uM (uM (uM M 0 5 0) 4 0 a) 4 1 b) 4 2 c) 1 = (M 1) from rfl]; omega)))) ?_
                    show Xv E q_m_X8_order_ 109 [Value.ref am, Value.int (zi d), Value.int (zi a), Value.int (zi b), Value.int (zi c), Value.int (zi 2), Value.int (zi (((0 + 1) + 1) + 1))] [Value.int (zi (bI (inn d 0 999)))] (q_mw h am (uM (uM (uM (uM M 0 5 0) 4 0 a) 4 1 b) 4 2 c)) Q
                    refine v_if_eq 123 112 d_X8_order__109 rfl rfl (by have := bI_r (inn d 0 999); omega) (by have := bI_r (inn d 0 999); omega) (fun k109 => ?_) (fun k109 => ?_)
                    · replace k109 := bI_0.mp k109
                      refine xv (x_aload_n 124 d_X8_order__123 rfl rfl) ?_
                      refine xv (x_iconst 125 d_X8_order__124 rfl) ?_
                      refine xv (x_iconst 126 d_X8_order__125 rfl) ?_
                      obtain ⟨r126, h126, e126, z126, y126⟩ := S_X8_refuse (E := E) (h := h) (am := am) (M := (uM (uM (uM (uM M 0 5 0) 4 0 a) 4 1 b) 4 2 c)) (y := 2) (z := 0) 
                      subst z126
                      subst y126
                      refine xv (x_inv1 129 (as := [Value.int (zi 2), Value.int (zi 0)]) d_X8_order__126 rfl c_8_90 rfl (Nat.le_of_ble_eq_true rfl) (Nat.le_of_ble_eq_true rfl) m_o (Nat.le_of_ble_eq_true rfl) (Nat.le_of_ble_eq_true rfl) rfl e126) ?_
                      show Xv E q_m_X8_order_ 129 [Value.ref am, Value.int (zi d), Value.int (zi a), Value.int (zi b), Value.int (zi c), Value.int (zi 2), Value.int (zi (((0 + 1) + 1) + 1))] [Value.int (zi 0)] (q_mw h am (uM (uM (uM (uM (uM (uM (uM M 0 5 0) 4 0 a) 4 1 b) 4 2 c) 0 5 1) 0 6 2) 0 7 0)) Q
                      refine xv_r (x_ireturn d_X8_order__129 rfl rfl) ?_
                      have er : mOrd (M 1) d a b c = (2, 0) := by first | (exfalso; omega) | (unfold mOrd; repeat (first | rw [if_pos (by omega)] | rw [if_neg (by omega)]))
                      refine hQ _ _ ?_
                      unfold mMu2
                      rw [er]
                      exact ⟨rfl, rfl⟩
                    · replace k109 := bI_n0.mp k109
                      refine xv (x_iload_n 113 d_X8_order__112 rfl rfl) ?_
                      refine xv (x_iconst 114 d_X8_order__113 rfl) ?_
                      refine v_icmp_ne 130 117 d_X8_order__114 rfl rfl (by omega) (by omega) (by omega) (by omega) (fun k114 => ?_) (fun k114 => ?_)
                      · refine xv (x_aload_n 131 d_X8_order__130 rfl rfl) ?_
                        refine xv (x_getfield 134 d_X8_order__131 rfl f_8_9 (Nat.le_of_ble_eq_true rfl) (Nat.le_of_ble_eq_true rfl) (q_gf_of m_o rfl)) ?_
                        refine xv (x_iconst 135 d_X8_order__134 rfl) ?_
                        refine xv (x_iaload 136 d_X8_order__135 rfl ((m_g1 (by omega) (by omega)).trans (rfl : _ = some (Value.int (zi ((M 1) 4)))))) ?_
                        have q_41 : -1000000 ≤ (M 1) 4 ∧ (M 1) 4 ≤ 1000000 := hr _
                        refine xv (x_bipush 138 d_X8_order__136 rfl rfl) ?_
                        refine v_icmp_ne 148 141 d_X8_order__138 rfl rfl (by omega) (by omega) (by omega) (by omega) (fun k138 => ?_) (fun k138 => ?_)
                        · refine xv (x_iconst 149 d_X8_order__148 rfl) ?_
                          refine xv (x_istore 151 d_X8_order__149 rfl (Nat.le_of_ble_eq_true rfl)) ?_
                          show Xv E q_m_X8_order_ 151 [Value.ref am, Value.int (zi d), Value.int (zi a), Value.int (zi b), Value.int (zi c), Value.int (zi 2), Value.int (zi 0)] [] (q_mw h am (uM (uM (uM (uM M 0 5 0) 4 0 a) 4 1 b) 4 2 c)) Q
                          refine xv (x_iload 153 d_X8_order__151 rfl rfl) ?_
                          refine xv (x_iload 155 d_X8_order__153 rfl rfl) ?_
                          refine v_icmp_ge 196 158 d_X8_order__155 rfl rfl (by omega) (by omega) (by omega) (by omega) (fun k155 => ?_) (fun k155 => ?_)
                          · omega
                          · refine xv (x_aload_n 159 d_X8_order__158 rfl rfl) ?_
                            refine xv (x_getfield 162 d_X8_order__159 rfl f_8_9 (Nat.le_of_ble_eq_true rfl) (Nat.le_of_ble_eq_true rfl) (q_gf_of m_o rfl)) ?_
                            refine xv (x_bipush 164 d_X8_order__162 rfl rfl) ?_
                            refine xv (x_aload_n 165 d_X8_order__164 rfl rfl) ?_
                            refine xv (x_getfield 168 d_X8_order__165 rfl f_8_19 (Nat.le_of_ble_eq_true rfl) (Nat.le_of_ble_eq_true rfl) (q_gf_of m_o rfl)) ?_
                            refine xv (x_iload 170 d_X8_order__168 rfl rfl) ?_
                            refine xv (x_iaload 171 d_X8_order__170 rfl ((m_g4 (by omega) (by omega)).trans (rfl : _ = some (Value.int (zi a))))) ?_
                            refine xv (x_iadd 172 d_X8_order__171 rfl) ?_
                            refine xv (x_iaload 173 d_X8_order__172 rfl ((m_g1 (by omega) (by omega)).trans (rfl : _ = some (Value.int (zi ((M 1) (8 + a))))))) ?_
                            have q_42 : -1000000 ≤ (M 1) (8 + a) ∧ (M 1) (8 + a) ≤ 1000000 := hr _
                            refine v_if_eq 190 176 d_X8_order__173 rfl rfl (by omega) (by omega) (fun k173 => ?_) (fun k173 => ?_)
                            · refine xv (x_iinc 193 d_X8_order__190 rfl rfl) ?_
                              show Xv E q_m_X8_order_ 193 [Value.ref am, Value.int (zi d), Value.int (zi a), Value.int (zi b), Value.int (zi c), Value.int (zi 2), Value.int (zi (0 + 1))] [] (q_mw h am (uM (uM (uM (uM M 0 5 0) 4 0 a) 4 1 b) 4 2 c)) Q
                              refine xv (x_goto 151 d_X8_order__193 rfl) ?_
                              refine xv (x_iload 153 d_X8_order__151 rfl rfl) ?_
                              refine xv (x_iload 155 d_X8_order__153 rfl rfl) ?_
                              refine v_icmp_ge 196 158 d_X8_order__155 rfl rfl (by omega) (by omega) (by omega) (by omega) (fun k155 => ?_) (fun k155 => ?_)
                              · omega
                              · refine xv (x_aload_n 159 d_X8_order__158 rfl rfl) ?_
                                refine xv (x_getfield 162 d_X8_order__159 rfl f_8_9 (Nat.le_of_ble_eq_true rfl) (Nat.le_of_ble_eq_true rfl) (q_gf_of m_o rfl)) ?_
                                refine xv (x_bipush 164 d_X8_order__162 rfl rfl) ?_
                                refine xv (x_aload_n 165 d_X8_order__164 rfl rfl) ?_
                                refine xv (x_getfield 168 d_X8_order__165 rfl f_8_19 (Nat.le_of_ble_eq_true rfl) (Nat.le_of_ble_eq_true rfl) (q_gf_of m_o rfl)) ?_
                                refine xv (x_iload 170 d_X8_order__168 rfl rfl) ?_
                                refine xv (x_iaload 171 d_X8_order__170 rfl ((m_g4 (by omega) (by omega)).trans (rfl : _ = some (Value.int (zi b))))) ?_
                                refine xv (x_iadd 172 d_X8_order__171 rfl) ?_
                                refine xv (x_iaload 173 d_X8_order__172 rfl ((m_g1 (by omega) (by omega)).trans (rfl : _ = some (Value.int (zi ((M 1) (8 + b))))))) ?_
                                have q_43 : -1000000 ≤ (M 1) (8 + b) ∧ (M 1) (8 + b) ≤ 1000000 := hr _
                                refine v_if_eq 190 176 d_X8_order__173 rfl rfl (by omega) (by omega) (fun k173 => ?_) (fun k173 => ?_)
                                · refine xv (x_iinc 193 d_X8_order__190 rfl rfl) ?_
                                  show Xv E q_m_X8_order_ 193 [Value.ref am, Value.int (zi d), Value.int (zi a), Value.int (zi b), Value.int (zi c), Value.int (zi 2), Value.int (zi ((0 + 1) + 1))] [] (q_mw h am (uM (uM (uM (uM M 0 5 0) 4 0 a) 4 1 b) 4 2 c)) Q
                                  refine xv (x_goto 151 d_X8_order__193 rfl) ?_
                                  refine xv (x_iload 153 d_X8_order__151 rfl rfl) ?_
                                  refine xv (x_iload 155 d_X8_order__153 rfl rfl) ?_
                                  refine v_icmp_ge 196 158 d_X8_order__155 rfl rfl (by omega) (by omega) (by omega) (by omega) (fun k155 => ?_) (fun k155 => ?_)
                                  · refine xv (x_aload_n 197 d_X8_order__196 rfl rfl) ?_
                                    obtain ⟨r197, h197, e197, z197, y197⟩ := S_X8_change (E := E) (h := h) (am := am) (M := (uM (uM (uM (uM M 0 5 0) 4 0 a) 4 1 b) 4 2 c)) hc
                                    subst z197
                                    subst y197
                                    refine xv (x_inv0 200 (as := []) d_X8_order__197 rfl c_8_100 rfl (Nat.le_of_ble_eq_true rfl) (Nat.le_of_ble_eq_true rfl) m_o (Nat.le_of_ble_eq_true rfl) (Nat.le_of_ble_eq_true rfl) rfl e197) ?_
                                    generalize hM2 : mch (uM (uM (uM (uM M 0 5 0) 4 0 a) 4 1 b) 4 2 c) = M2
                                    have e2 : M2 1 = M 1 := by rw [← hM2]; exact mch_1
                                    have e4 : M2 4 = (u1 (u1 (u1 (M 4) 0 a) 1 b) 2 c) := by rw [← hM2]; exact mch_s (by decide) (by decide)
                                    have eM : M2 = uA (uA M2 1 (M 1)) 4 (u1 (u1 (u1 (M 4) 0 a) 1 b) 2 c) := by rw [← e2, uA_self, ← e4, uA_self]
                                    rw [eM]
                                    show Xv E q_m_X8_order_ 200 [Value.ref am, Value.int (zi d), Value.int (zi a), Value.int (zi b), Value.int (zi c), Value.int (zi 2), Value.int (zi ((0 + 1) + 1))] [] (q_mw h am (uA (uA M2 1 (M 1)) 4 (u1 (u1 (u1 (M 4) 0 a) 1 b) 2 c))) Q
                                    refine xv (x_aload_n 201 d_X8_order__200 rfl rfl) ?_
                                    refine xv (x_getfield 204 d_X8_order__201 rfl f_8_9 (Nat.le_of_ble_eq_true rfl) (Nat.le_of_ble_eq_true rfl) (q_gf_of m_o rfl)) ?_
                                    refine xv (x_iconst 205 d_X8_order__204 rfl) ?_
                                    refine xv (x_iaload 206 d_X8_order__205 rfl ((m_g1 (by omega) (by omega)).trans (rfl : _ = some (Value.int (zi ((M 1) 4)))))) ?_
                                    have q_44 : -1000000 ≤ (M 1) 4 ∧ (M 1) 4 ≤ 1000000 := hr _
                                    refine xv (x_istore 208 d_X8_order__206 rfl (Nat.le_of_ble_eq_true rfl)) ?_
                                    show Xv E q_m_X8_order_ 208 [Value.ref am, Value.int (zi d), Value.int (zi a), Value.int (zi b), Value.int (zi c), Value.int (zi 2), Value.int (zi ((M 1) 4))] [] (q_mw h am (uA (uA M2 1 (M 1)) 4 (u1 (u1 (u1 (M 4) 0 a) 1 b) 2 c))) Q
                                    refine xv (x_aload_n 209 d_X8_order__208 rfl rfl) ?_
                                    refine xv (x_getfield 212 d_X8_order__209 rfl f_8_9 (Nat.le_of_ble_eq_true rfl) (Nat.le_of_ble_eq_true rfl) (q_gf_of m_o rfl)) ?_
                                    refine xv (x_iload 214 d_X8_order__212 rfl rfl) ?_
                                    refine xv (x_ins1 217 (as := [Value.int (zi ((M 1) 4))]) d_X8_order__214 rfl c_8_106 rfl (Nat.le_of_ble_eq_true rfl) (Nat.le_of_ble_eq_true rfl) (Nat.le_of_ble_eq_true rfl) rfl (S_X8_order (E := E) (h := h) (am := am) (M := (uA (uA M2 1 (M 1)) 4 (u1 (u1 (u1 (M 4) 0 a) 1 b) 2 c))))) ?_
                                    show Xv E q_m_X8_order_ 217 [Value.ref am, Value.int (zi d), Value.int (zi a), Value.int (zi b), Value.int (zi c), Value.int (zi 2), Value.int (zi ((M 1) 4))] [Value.int (zi (320 + 8 * ((M 1) 4))), Value.ref (am + 1)] (q_mw h am (uA (uA M2 1 (M 1)) 4 (u1 (u1 (u1 (M 4) 0 a) 1 b) 2 c))) Q
                                    refine xv (x_iconst 218 d_X8_order__217 rfl) ?_
                                    refine xv (x_iadd 219 d_X8_order__218 rfl) ?_
                                    refine xv (x_iload_n 220 d_X8_order__219 rfl rfl) ?_
                                    refine xv (x_iastore 221 d_X8_order__220 rfl (m_s1 (by omega) (by omega))) ?_
                                    show Xv E q_m_X8_order_ 221 [Value.ref am, Value.int (zi d), Value.int (zi a), Value.int (zi b), Value.int (zi c), Value.int (zi 2), Value.int (zi ((M 1) 4))] [] (q_mw h am (uM (uA (uA M2 1 (M 1)) 4 (u1 (u1 (u1 (M 4) 0 a) 1 b) 2 c)) 1 ((320 + 8 * ((M 1) 4)) + 0) d)) Q
                                    refine xv (x_aload_n 222 d_X8_order__221 rfl rfl) ?_
                                    refine xv (x_getfield 225 d_X8_order__222 rfl f_8_9 (Nat.le_of_ble_eq_true rfl) (Nat.le_of_ble_eq_true rfl) (q_gf_of m_o rfl)) ?_
                                    refine xv (x_iload 227 d_X8_order__225 rfl rfl) ?_
                                    refine xv (x_ins1 230 (as := [Value.int (zi ((M 1) 4))]) d_X8_order__227 rfl c_8_106 rfl (Nat.le_of_ble_eq_true rfl) (Nat.le_of_ble_eq_true rfl) (Nat.le_of_ble_eq_true rfl) rfl (S_X8_order (E := E) (h := h) (am := am) (M := (uM (uA (uA M2 1 (M 1)) 4 (u1 (u1 (u1 (M 4) 0 a) 1 b) 2 c)) 1 ((320 + 8 * ((M 1) 4)) + 0) d)))) ?_
                                    show Xv E q_m_X8_order_ 230 [Value.ref am, Value.int (zi d), Value.int (zi a), Value.int (zi b), Value.int (zi c), Value.int (zi 2), Value.int (zi ((M 1) 4))] [Value.int (zi (320 + 8 * ((M 1) 4))), Value.ref (am + 1)] (q_mw h am (uM (uA (uA M2 1 (M 1)) 4 (u1 (u1 (u1 (M 4) 0 a) 1 b) 2 c)) 1 ((320 + 8 * ((M 1) 4)) + 0) d)) Q
                                    refine xv (x_iconst 231 d_X8_order__230 rfl) ?_
                                    refine xv (x_iadd 232 d_X8_order__231 rfl) ?_
                                    refine xv (x_iload 234 d_X8_order__232 rfl rfl) ?_
                                    refine xv (x_iastore 235 d_X8_order__234 rfl (m_s1 (by omega) (by omega))) ?_
                                    show Xv E q_m_X8_order_ 235 [Value.ref am, Value.int (zi d), Value.int (zi a), Value.int (zi b), Value.int (zi c), Value.int (zi 2), Value.int (zi ((M 1) 4))] [] (q_mw h am (uM (uM (uA (uA M2 1 (M 1)) 4 (u1 (u1 (u1 (M 4) 0 a) 1 b) 2 c)) 1 ((320 + 8 * ((M 1) 4)) + 0) d) 1 ((320 + 8 * ((M 1) 4)) + 1) 2)) Q
                                    refine xv (x_aload_n 236 d_X8_order__235 rfl rfl) ?_
                                    refine xv (x_getfield 239 d_X8_order__236 rfl f_8_9 (Nat.le_of_ble_eq_true rfl) (Nat.le_of_ble_eq_true rfl) (q_gf_of m_o rfl)) ?_
                                    refine xv (x_iload 241 d_X8_order__239 rfl rfl) ?_
                                    refine xv (x_ins1 244 (as := [Value.int (zi ((M 1) 4))]) d_X8_order__241 rfl c_8_106 rfl (Nat.le_of_ble_eq_true rfl) (Nat.le_of_ble_eq_true rfl) (Nat.le_of_ble_eq_true rfl) rfl (S_X8_order (E := E) (h := h) (am := am) (M := (uM (uM (uA (uA M2 1 (M 1)) 4 (u1 (u1 (u1 (M 4) 0 a) 1 b) 2 c)) 1 ((320 + 8 * ((M 1) 4)) + 0) d) 1 ((320 + 8 * ((M 1) 4)) + 1) 2)))) ?_
                                    show Xv E q_m_X8_order_ 244 [Value.ref am, Value.int (zi d), Value.int (zi a), Value.int (zi b), Value.int (zi c), Value.int (zi 2), Value.int (zi ((M 1) 4))] [Value.int (zi (320 + 8 * ((M 1) 4))), Value.ref (am + 1)] (q_mw h am (uM (uM (uA (uA M2 1 (M 1)) 4 (u1 (u1 (u1 (M 4) 0 a) 1 b) 2 c)) 1 ((320 + 8 * ((M 1) 4)) + 0) d) 1 ((320 + 8 * ((M 1) 4)) + 1) 2)) Q
                                    refine xv (x_iconst 245 d_X8_order__244 rfl) ?_
                                    refine xv (x_iadd 246 d_X8_order__245 rfl) ?_
                                    refine xv (x_iconst 247 d_X8_order__246 rfl) ?_
                                    refine xv (x_iastore 248 d_X8_order__247 rfl (m_s1 (by omega) (by omega))) ?_
                                    show Xv E q_m_X8_order_ 248 [Value.ref am, Value.int (zi d), Value.int (zi a), Value.int (zi b), Value.int (zi c), Value.int (zi 2), Value.int (zi ((M 1) 4))] [] (q_mw h am (uM (uM (uM (uA (uA M2 1 (M 1)) 4 (u1 (u1 (u1 (M 4) 0 a) 1 b) 2 c)) 1 ((320 + 8 * ((M 1) 4)) + 0) d) 1 ((320 + 8 * ((M 1) 4)) + 1) 2) 1 ((320 + 8 * ((M 1) 4)) + 2) 0)) Q
                                    refine xv (x_aload_n 249 d_X8_order__248 rfl rfl) ?_
                                    refine xv (x_getfield 252 d_X8_order__249 rfl f_8_9 (Nat.le_of_ble_eq_true rfl) (Nat.le_of_ble_eq_true rfl) (q_gf_of m_o rfl)) ?_
                                    refine xv (x_iload 254 d_X8_order__252 rfl rfl) ?_
                                    refine xv (x_ins1 257 (as := [Value.int (zi ((M 1) 4))]) d_X8_order__254 rfl c_8_106 rfl (Nat.le_of_ble_eq_true rfl) (Nat.le_of_ble_eq_true rfl) (Nat.le_of_ble_eq_true rfl) rfl (S_X8_order (E := E) (h := h) (am := am) (M := (uM (uM (uM (uA (uA M2 1 (M 1)) 4 (u1 (u1 (u1 (M 4) 0 a) 1 b) 2 c)) 1 ((320 + 8 * ((M 1) 4)) + 0) d) 1 ((320 + 8 * ((M 1) 4)) + 1) 2) 1 ((320 + 8 * ((M 1) 4)) + 2) 0)))) ?_
                                    show Xv E q_m_X8_order_ 257 [Value.ref am, Value.int (zi d), Value.int (zi a), Value.int (zi b), Value.int (zi c), Value.int (zi 2), Value.int (zi ((M 1) 4))] [Value.int (zi (320 + 8 * ((M 1) 4))), Value.ref (am + 1)] (q_mw h am (uM (uM (uM (uA (uA M2 1 (M 1)) 4 (u1 (u1 (u1 (M 4) 0 a) 1 b) 2 c)) 1 ((320 + 8 * ((M 1) 4)) + 0) d) 1 ((320 + 8 * ((M 1) 4)) + 1) 2) 1 ((320 + 8 * ((M 1) 4)) + 2) 0)) Q
                                    refine xv (x_iconst 258 d_X8_order__257 rfl) ?_
                                    refine xv (x_iadd 259 d_X8_order__258 rfl) ?_
                                    refine xv (x_iconst 260 d_X8_order__259 rfl) ?_
                                    refine xv (x_iastore 261 d_X8_order__260 rfl (m_s1 (by omega) (by omega))) ?_
                                    show Xv E q_m_X8_order_ 261 [Value.ref am, Value.int (zi d), Value.int (zi a), Value.int (zi b), Value.int (zi c), Value.int (zi 2), Value.int (zi ((M 1) 4))] [] (q_mw h am (uM (uM (uM (uM (uA (uA M2 1 (M 1)) 4 (u1 (u1 (u1 (M 4) 0 a) 1 b) 2 c)) 1 ((320 + 8 * ((M 1) 4)) + 0) d) 1 ((320 + 8 * ((M 1) 4)) + 1) 2) 1 ((320 + 8 * ((M 1) 4)) + 2) 0) 1 ((320 + 8 * ((M 1) 4)) + 3) (-1))) Q
                                    refine xv (x_aload_n 262 d_X8_order__261 rfl rfl) ?_
                                    refine xv (x_getfield 265 d_X8_order__262 rfl f_8_9 (Nat.le_of_ble_eq_true rfl) (Nat.le_of_ble_eq_true rfl) (q_gf_of m_o rfl)) ?_
                                    refine xv (x_iload 267 d_X8_order__265 rfl rfl) ?_
                                    refine xv (x_ins1 270 (as := [Value.int (zi ((M 1) 4))]) d_X8_order__267 rfl c_8_106 rfl (Nat.le_of_ble_eq_true rfl) (Nat.le_of_ble_eq_true rfl) (Nat.le_of_ble_eq_true rfl) rfl (S_X8_order (E := E) (h := h) (am := am) (M := (uM (uM (uM (uM (uA (uA M2 1 (M 1)) 4 (u1 (u1 (u1 (M 4) 0 a) 1 b) 2 c)) 1 ((320 + 8 * ((M 1) 4)) + 0) d) 1 ((320 + 8 * ((M 1) 4)) + 1) 2) 1 ((320 + 8 * ((M 1) 4)) + 2) 0) 1 ((320 + 8 * ((M 1) 4)) + 3) (-1))))) ?_
                                    show Xv E q_m_X8_order_ 270 [Value.ref am, Value.int (zi d), Value.int (zi a), Value.int (zi b), Value.int (zi c), Value.int (zi 2), Value.int (zi ((M 1) 4))] [Value.int (zi (320 + 8 * ((M 1) 4))), Value.ref (am + 1)] (q_mw h am (uM (uM (uM (uM (uA (uA M2 1 (M 1)) 4 (u1 (u1 (u1 (M 4) 0 a) 1 b) 2 c)) 1 ((320 + 8 * ((M 1) 4)) + 0) d) 1 ((320 + 8 * ((M 1) 4)) + 1) 2) 1 ((320 + 8 * ((M 1) 4)) + 2) 0) 1 ((320 + 8 * ((M 1) 4)) + 3) (-1))) Q
                                    refine xv (x_iconst 271 d_X8_order__270 rfl) ?_
                                    refine xv (x_iadd 272 d_X8_order__271 rfl) ?_
                                    refine xv (x_iconst 273 d_X8_order__272 rfl) ?_
                                    refine xv (x_iastore 274 d_X8_order__273 rfl (m_s1 (by omega) (by omega))) ?_
                                    show Xv E q_m_X8_order_ 274 [Value.ref am, Value.int (zi d), Value.int (zi a), Value.int (zi b), Value.int (zi c), Value.int (zi 2), Value.int (zi ((M 1) 4))] [] (q_mw h am (uM (uM (uM (uM (uM (uA (uA M2 1 (M 1)) 4 (u1 (u1 (u1 (M 4) 0 a) 1 b) 2 c)) 1 ((320 + 8 * ((M 1) 4)) + 0) d) 1 ((320 + 8 * ((M 1) 4)) + 1) 2) 1 ((320 + 8 * ((M 1) 4)) + 2) 0) 1 ((320 + 8 * ((M 1) 4)) + 3) (-1)) 1 ((320 + 8 * ((M 1) 4)) + 4) (-1))) Q
                                    refine xv (x_aload_n 275 d_X8_order__274 rfl rfl) ?_
                                    refine xv (x_getfield 278 d_X8_order__275 rfl f_8_19 (Nat.le_of_ble_eq_true rfl) (Nat.le_of_ble_eq_true rfl) (q_gf_of m_o rfl)) ?_
                                    refine xv (x_iconst 279 d_X8_order__278 rfl) ?_
                                    refine xv (x_aload_n 280 d_X8_order__279 rfl rfl) ?_
                                    refine xv (x_getfield 283 d_X8_order__280 rfl f_8_9 (Nat.le_of_ble_eq_true rfl) (Nat.le_of_ble_eq_true rfl) (q_gf_of m_o rfl)) ?_
                                    refine xv (x_iload 285 d_X8_order__283 rfl rfl) ?_
                                    refine xv (x_ins1 288 (as := [Value.int (zi ((M 1) 4))]) d_X8_order__285 rfl c_8_106 rfl (Nat.le_of_ble_eq_true rfl) (Nat.le_of_ble_eq_true rfl) (Nat.le_of_ble_eq_true rfl) rfl (S_X8_order (E := E) (h := h) (am := am) (M := (uM (uM (uM (uM (uM (uA (uA M2 1 (M 1)) 4 (u1 (u1 (u1 (M 4) 0 a) 1 b) 2 c)) 1 ((320 + 8 * ((M 1) 4)) + 0) d) 1 ((320 + 8 * ((M 1) 4)) + 1) 2) 1 ((320 + 8 * ((M 1) 4)) + 2) 0) 1 ((320 + 8 * ((M 1) 4)) + 3) (-1)) 1 ((320 + 8 * ((M 1) 4)) + 4) (-1))))) ?_
                                    show Xv E q_m_X8_order_ 288 [Value.ref am, Value.int (zi d), Value.int (zi a), Value.int (zi b), Value.int (zi c), Value.int (zi 2), Value.int (zi ((M 1) 4))] [Value.int (zi (320 + 8 * ((M 1) 4))), Value.ref (am + 1), Value.int (zi 0), Value.ref (am + 4)] (q_mw h am (uM (uM (uM (uM (uM (uA (uA M2 1 (M 1)) 4 (u1 (u1 (u1 (M 4) 0 a) 1 b) 2 c)) 1 ((320 + 8 * ((M 1) 4)) + 0) d) 1 ((320 + 8 * ((M 1) 4)) + 1) 2) 1 ((320 + 8 * ((M 1) 4)) + 2) 0) 1 ((320 + 8 * ((M 1) 4)) + 3) (-1)) 1 ((320 + 8 * ((M 1) 4)) + 4) (-1))) Q
                                    refine xv (x_iconst 289 d_X8_order__288 rfl) ?_
                                    refine xv (x_iadd 290 d_X8_order__289 rfl) ?_
                                    refine xv (x_iconst 291 d_X8_order__290 rfl) ?_
                                    refine xv (x_copy 294 d_X8_order__291 rfl rfl rfl (Nat.le_of_ble_eq_true rfl) (Nat.le_of_ble_eq_true rfl) (Nat.le_of_ble_eq_true rfl) (m_cpy 4 1 m_a4 m_a1 m_w1 (by omega) (by omega) (by omega) (by omega) (by omega) (by decide) (by decide))) ?_
                                    show Xv E q_m_X8_order_ 294 [Value.ref am, Value.int (zi d), Value.int (zi a), Value.int (zi b), Value.int (zi c), Value.int (zi 2), Value.int (zi ((M 1) 4))] [] (q_mw h am (uA (uM (uM (uM (uM (uM (uA (uA M2 1 (M 1)) 4 (u1 (u1 (u1 (M 4) 0 a) 1 b) 2 c)) 1 ((320 + 8 * ((M 1) 4)) + 0) d) 1 ((320 + 8 * ((M 1) 4)) + 1) 2) 1 ((320 + 8 * ((M 1) 4)) + 2) 0) 1 ((320 + 8 * ((M 1) 4)) + 3) (-1)) 1 ((320 + 8 * ((M 1) 4)) + 4) (-1)) 1 (cpI (u1 (u1 (u1 (M 4) 0 a) 1 b) 2 c) (u1 (u1 (u1 (u1 (u1 (M 1) ((320 + 8 * ((M 1) 4)) + 0) d) ((320 + 8 * ((M 1) 4)) + 1) 2) ((320 + 8 * ((M 1) 4)) + 2) 0) ((320 + 8 * ((M 1) 4)) + 3) (-1)) ((320 + 8 * ((M 1) 4)) + 4) (-1)) 0 ((320 + 8 * ((M 1) 4)) + 5) 3))) Q
                                    refine xv (x_aload_n 295 d_X8_order__294 rfl rfl) ?_
                                    refine xv (x_getfield 298 d_X8_order__295 rfl f_8_9 (Nat.le_of_ble_eq_true rfl) (Nat.le_of_ble_eq_true rfl) (q_gf_of m_o rfl)) ?_
                                    refine xv (x_iconst 299 d_X8_order__298 rfl) ?_
                                    refine xv (x_dup2 300 d_X8_order__299 rfl rfl rfl) ?_
                                    refine xv (x_iaload 301 d_X8_order__300 rfl ((m_g1 (by omega) (by omega)).trans (rfl : _ = some (Value.int (zi ((cpI (u1 (u1 (u1 (M 4) 0 a) 1 b) 2 c) (u1 (u1 (u1 (u1 (u1 (M 1) ((320 + 8 * ((M 1) 4)) + 0) d) ((320 + 8 * ((M 1) 4)) + 1) 2) ((320 + 8 * ((M 1) 4)) + 2) 0) ((320 + 8 * ((M 1) 4)) + 3) (-1)) ((320 + 8 * ((M 1) 4)) + 4) (-1)) 0 ((320 + 8 * ((M 1) 4)) + 5) 3) 4)))))) ?_
                                    refine xv (x_iconst 302 d_X8_order__301 rfl) ?_
                                    refine xv (x_iadd 303 d_X8_order__302 rfl) ?_
                                    refine xv (x_iastore 304 d_X8_order__303 rfl (m_s1 (by omega) (by omega))) ?_
                                    show Xv E q_m_X8_order_ 304 [Value.ref am, Value.int (zi d), Value.int (zi a), Value.int (zi b), Value.int (zi c), Value.int (zi 2), Value.int (zi ((M 1) 4))] [] (q_mw h am (uM (uA (uM (uM (uM (uM (uM (uA (uA M2 1 (M 1)) 4 (u1 (u1 (u1 (M 4) 0 a) 1 b) 2 c)) 1 ((320 + 8 * ((M 1) 4)) + 0) d) 1 ((320 + 8 * ((M 1) 4)) + 1) 2) 1 ((320 + 8 * ((M 1) 4)) + 2) 0) 1 ((320 + 8 * ((M 1) 4)) + 3) (-1)) 1 ((320 + 8 * ((M 1) 4)) + 4) (-1)) 1 (cpI (u1 (u1 (u1 (M 4) 0 a) 1 b) 2 c) (u1 (u1 (u1 (u1 (u1 (M 1) ((320 + 8 * ((M 1) 4)) + 0) d) ((320 + 8 * ((M 1) 4)) + 1) 2) ((320 + 8 * ((M 1) 4)) + 2) 0) ((320 + 8 * ((M 1) 4)) + 3) (-1)) ((320 + 8 * ((M 1) 4)) + 4) (-1)) 0 ((320 + 8 * ((M 1) 4)) + 5) 3)) 1 4 (((cpI (u1 (u1 (u1 (M 4) 0 a) 1 b) 2 c) (u1 (u1 (u1 (u1 (u1 (M 1) ((320 + 8 * ((M 1) 4)) + 0) d) ((320 + 8 * ((M 1) 4)) + 1) 2) ((320 + 8 * ((M 1) 4)) + 2) 0) ((320 + 8 * ((M 1) 4)) + 3) (-1)) ((320 + 8 * ((M 1) 4)) + 4) (-1)) 0 ((320 + 8 * ((M 1) 4)) + 5) 3) 4) + 1))) Q
                                    refine xv (x_iload 306 d_X8_order__304 rfl rfl) ?_
                                    refine xv_r (x_ireturn d_X8_order__306 rfl rfl) ?_
                                    have er : mOrd (M 1) d a b c = (0, 0) := by first | (exfalso; omega) | (unfold mOrd; repeat (first | rw [if_pos (by omega)] | rw [if_neg (by omega)]))
                                    have ec : cntO b c = 2 := by first | (exfalso; omega) | (unfold cntO; repeat (first | rw [if_pos (by omega)] | rw [if_neg (by omega)]))
                                    refine hQ _ _ ?_
                                    unfold mMu2
                                    rw [er, if_pos rfl, ec]
                                    refine ⟨rfl, ?_⟩
                                    unfold lnO
                                    rw [hM2, ← eM]
                                    simp only [uM_uA, uA_uA, uA_eq]
                                    rfl
                                  · omega
                                · refine xv (x_aload_n 177 d_X8_order__176 rfl rfl) ?_
                                  refine xv (x_bipush 179 d_X8_order__177 rfl rfl) ?_
                                  refine xv (x_aload_n 180 d_X8_order__179 rfl rfl) ?_
                                  refine xv (x_getfield 183 d_X8_order__180 rfl f_8_19 (Nat.le_of_ble_eq_true rfl) (Nat.le_of_ble_eq_true rfl) (q_gf_of m_o rfl)) ?_
                                  refine xv (x_iload 185 d_X8_order__183 rfl rfl) ?_
                                  refine xv (x_iaload 186 d_X8_order__185 rfl ((m_g4 (by omega) (by omega)).trans (rfl : _ = some (Value.int (zi b))))) ?_
                                  obtain ⟨r186, h186, e186, z186, y186⟩ := S_X8_refuse (E := E) (h := h) (am := am) (M := (uM (uM (uM (uM M 0 5 0) 4 0 a) 4 1 b) 4 2 c)) (y := 12) (z := b) 
                                  subst z186
                                  subst y186
                                  refine xv (x_inv1 189 (as := [Value.int (zi 12), Value.int (zi b)]) d_X8_order__186 rfl c_8_90 rfl (Nat.le_of_ble_eq_true rfl) (Nat.le_of_ble_eq_true rfl) m_o (Nat.le_of_ble_eq_true rfl) (Nat.le_of_ble_eq_true rfl) rfl e186) ?_
                                  show Xv E q_m_X8_order_ 189 [Value.ref am, Value.int (zi d), Value.int (zi a), Value.int (zi b), Value.int (zi c), Value.int (zi 2), Value.int (zi (0 + 1))] [Value.int (zi 0)] (q_mw h am (uM (uM (uM (uM (uM (uM (uM M 0 5 0) 4 0 a) 4 1 b) 4 2 c) 0 5 1) 0 6 12) 0 7 b)) Q
                                  refine xv_r (x_ireturn d_X8_order__189 rfl rfl) ?_
                                  have er : mOrd (M 1) d a b c = (12, b) := by first | (exfalso; omega) | (unfold mOrd; repeat (first | rw [if_pos (by omega)] | rw [if_neg (by omega)]))
                                  refine hQ _ _ ?_
                                  unfold mMu2
                                  rw [er]
                                  exact ⟨rfl, rfl⟩
                            · refine xv (x_aload_n 177 d_X8_order__176 rfl rfl) ?_
                              refine xv (x_bipush 179 d_X8_order__177 rfl rfl) ?_
                              refine xv (x_aload_n 180 d_X8_order__179 rfl rfl) ?_
                              refine xv (x_getfield 183 d_X8_order__180 rfl f_8_19 (Nat.le_of_ble_eq_true rfl) (Nat.le_of_ble_eq_true rfl) (q_gf_of m_o rfl)) ?_
                              refine xv (x_iload 185 d_X8_order__183 rfl rfl) ?_
                              refine xv (x_iaload 186 d_X8_order__185 rfl ((m_g4 (by omega) (by omega)).trans (rfl : _ = some (Value.int (zi a))))) ?_
                              obtain ⟨r186, h186, e186, z186, y186⟩ := S_X8_refuse (E := E) (h := h) (am := am) (M := (uM (uM (uM (uM M 0 5 0) 4 0 a) 4 1 b) 4 2 c)) (y := 12) (z := a) 
                              subst z186
                              subst y186
                              refine xv (x_inv1 189 (as := [Value.int (zi 12), Value.int (zi a)]) d_X8_order__186 rfl c_8_90 rfl (Nat.le_of_ble_eq_true rfl) (Nat.le_of_ble_eq_true rfl) m_o (Nat.le_of_ble_eq_true rfl) (Nat.le_of_ble_eq_true rfl) rfl e186) ?_
                              show Xv E q_m_X8_order_ 189 [Value.ref am, Value.int (zi d), Value.int (zi a), Value.int (zi b), Value.int (zi c), Value.int (zi 2), Value.int (zi 0)] [Value.int (zi 0)] (q_mw h am (uM (uM (uM (uM (uM (uM (uM M 0 5 0) 4 0 a) 4 1 b) 4 2 c) 0 5 1) 0 6 12) 0 7 a)) Q
                              refine xv_r (x_ireturn d_X8_order__189 rfl rfl) ?_
                              have er : mOrd (M 1) d a b c = (12, a) := by first | (exfalso; omega) | (unfold mOrd; repeat (first | rw [if_pos (by omega)] | rw [if_neg (by omega)]))
                              refine hQ _ _ ?_
                              unfold mMu2
                              rw [er]
                              exact ⟨rfl, rfl⟩
                        · refine xv (x_aload_n 142 d_X8_order__141 rfl rfl) ?_
                          refine xv (x_iconst 143 d_X8_order__142 rfl) ?_
                          refine xv (x_iconst 144 d_X8_order__143 rfl) ?_
                          obtain ⟨r144, h144, e144, z144, y144⟩ := S_X8_refuse (E := E) (h := h) (am := am) (M := (uM (uM (uM (uM M 0 5 0) 4 0 a) 4 1 b) 4 2 c)) (y := 3) (z := 0) 
                          subst z144
                          subst y144
                          refine xv (x_inv1 147 (as := [Value.int (zi 3), Value.int (zi 0)]) d_X8_order__144 rfl c_8_90 rfl (Nat.le_of_ble_eq_true rfl) (Nat.le_of_ble_eq_true rfl) m_o (Nat.le_of_ble_eq_true rfl) (Nat.le_of_ble_eq_true rfl) rfl e144) ?_
                          show Xv E q_m_X8_order_ 147 [Value.ref am, Value.int (zi d), Value.int (zi a), Value.int (zi b), Value.int (zi c), Value.int (zi 2), Value.int (zi (((0 + 1) + 1) + 1))] [Value.int (zi 0)] (q_mw h am (uM (uM (uM (uM (uM (uM (uM M 0 5 0) 4 0 a) 4 1 b) 4 2 c) 0 5 1) 0 6 3) 0 7 0)) Q
                          refine xv_r (x_ireturn d_X8_order__147 rfl rfl) ?_
                          have er : mOrd (M 1) d a b c = (3, 0) := by first | (exfalso; omega) | (unfold mOrd; repeat (first | rw [if_pos (by omega)] | rw [if_neg (by omega)]))
                          refine hQ _ _ ?_
                          unfold mMu2
                          rw [er]
                          exact ⟨rfl, rfl⟩
                      · refine xv (x_iload 119 d_X8_order__117 rfl rfl) ?_
                        refine xv (x_iconst 120 d_X8_order__119 rfl) ?_
                        refine v_icmp_eq 130 123 d_X8_order__120 rfl rfl (by omega) (by omega) (by omega) (by omega) (fun k120 => ?_) (fun k120 => ?_)
                        · refine xv (x_aload_n 131 d_X8_order__130 rfl rfl) ?_
                          refine xv (x_getfield 134 d_X8_order__131 rfl f_8_9 (Nat.le_of_ble_eq_true rfl) (Nat.le_of_ble_eq_true rfl) (q_gf_of m_o rfl)) ?_
                          refine xv (x_iconst 135 d_X8_order__134 rfl) ?_
                          refine xv (x_iaload 136 d_X8_order__135 rfl ((m_g1 (by omega) (by omega)).trans (rfl : _ = some (Value.int (zi ((M 1) 4)))))) ?_
                          have q_45 : -1000000 ≤ (M 1) 4 ∧ (M 1) 4 ≤ 1000000 := hr _
                          refine xv (x_bipush 138 d_X8_order__136 rfl rfl) ?_
                          refine v_icmp_ne 148 141 d_X8_order__138 rfl rfl (by omega) (by omega) (by omega) (by omega) (fun k138 => ?_) (fun k138 => ?_)
                          · refine xv (x_iconst 149 d_X8_order__148 rfl) ?_
                            refine xv (x_istore 151 d_X8_order__149 rfl (Nat.le_of_ble_eq_true rfl)) ?_
                            show Xv E q_m_X8_order_ 151 [Value.ref am, Value.int (zi d), Value.int (zi a), Value.int (zi b), Value.int (zi c), Value.int (zi 2), Value.int (zi 0)] [] (q_mw h am (uM (uM (uM (uM M 0 5 0) 4 0 a) 4 1 b) 4 2 c)) Q
                            refine xv (x_iload 153 d_X8_order__151 rfl rfl) ?_
                            refine xv (x_iload 155 d_X8_order__153 rfl rfl) ?_
                            refine v_icmp_ge 196 158 d_X8_order__155 rfl rfl (by omega) (by omega) (by omega) (by omega) (fun k155 => ?_) (fun k155 => ?_)
                            · omega
                            · refine xv (x_aload_n 159 d_X8_order__158 rfl rfl) ?_
                              refine xv (x_getfield 162 d_X8_order__159 rfl f_8_9 (Nat.le_of_ble_eq_true rfl) (Nat.le_of_ble_eq_true rfl) (q_gf_of m_o rfl)) ?_
                              refine xv (x_bipush 164 d_X8_order__162 rfl rfl) ?_
                              refine xv (x_aload_n 165 d_X8_order__164 rfl rfl) ?_
                              refine xv (x_getfield 168 d_X8_order__165 rfl f_8_19 (Nat.le_of_ble_eq_true rfl) (Nat.le_of_ble_eq_true rfl) (q_gf_of m_o rfl)) ?_
                              refine xv (x_iload 170 d_X8_order__168 rfl rfl) ?_
                              refine xv (x_iaload 171 d_X8_order__170 rfl ((m_g4 (by omega) (by omega)).trans (rfl : _ = some (Value.int (zi a))))) ?_
                              refine xv (x_iadd 172 d_X8_order__171 rfl) ?_
                              refine xv (x_iaload 173 d_X8_order__172 rfl ((m_g1 (by omega) (by omega)).trans (rfl : _ = some (Value.int (zi ((M 1) (8 + a))))))) ?_
                              have q_46 : -1000000 ≤ (M 1) (8 + a) ∧ (M 1) (8 + a) ≤ 1000000 := hr _
                              refine v_if_eq 190 176 d_X8_order__173 rfl rfl (by omega) (by omega) (fun k173 => ?_) (fun k173 => ?_)
                              · refine xv (x_iinc 193 d_X8_order__190 rfl rfl) ?_
                                show Xv E q_m_X8_order_ 193 [Value.ref am, Value.int (zi d), Value.int (zi a), Value.int (zi b), Value.int (zi c), Value.int (zi 2), Value.int (zi (0 + 1))] [] (q_mw h am (uM (uM (uM (uM M 0 5 0) 4 0 a) 4 1 b) 4 2 c)) Q
                                refine xv (x_goto 151 d_X8_order__193 rfl) ?_
                                refine xv (x_iload 153 d_X8_order__151 rfl rfl) ?_
                                refine xv (x_iload 155 d_X8_order__153 rfl rfl) ?_
                                refine v_icmp_ge 196 158 d_X8_order__155 rfl rfl (by omega) (by omega) (by omega) (by omega) (fun k155 => ?_) (fun k155 => ?_)
                                · omega
                                · refine xv (x_aload_n 159 d_X8_order__158 rfl rfl) ?_
                                  refine xv (x_getfield 162 d_X8_order__159 rfl f_8_9 (Nat.le_of_ble_eq_true rfl) (Nat.le_of_ble_eq_true rfl) (q_gf_of m_o rfl)) ?_
                                  refine xv (x_bipush 164 d_X8_order__162 rfl rfl) ?_
                                  refine xv (x_aload_n 165 d_X8_order__164 rfl rfl) ?_
                                  refine xv (x_getfield 168 d_X8_order__165 rfl f_8_19 (Nat.le_of_ble_eq_true rfl) (Nat.le_of_ble_eq_true rfl) (q_gf_of m_o rfl)) ?_
                                  refine xv (x_iload 170 d_X8_order__168 rfl rfl) ?_
                                  refine xv (x_iaload 171 d_X8_order__170 rfl ((m_g4 (by omega) (by omega)).trans (rfl : _ = some (Value.int (zi b))))) ?_
                                  refine xv (x_iadd 172 d_X8_order__171 rfl) ?_
                                  refine xv (x_iaload 173 d_X8_order__172 rfl ((m_g1 (by omega) (by omega)).trans (rfl : _ = some (Value.int (zi ((M 1) (8 + b))))))) ?_
                                  have q_47 : -1000000 ≤ (M 1) (8 + b) ∧ (M 1) (8 + b) ≤ 1000000 := hr _
                                  refine v_if_eq 190 176 d_X8_order__173 rfl rfl (by omega) (by omega) (fun k173 => ?_) (fun k173 => ?_)
                                  · refine xv (x_iinc 193 d_X8_order__190 rfl rfl) ?_
                                    show Xv E q_m_X8_order_ 193 [Value.ref am, Value.int (zi d), Value.int (zi a), Value.int (zi b), Value.int (zi c), Value.int (zi 2), Value.int (zi ((0 + 1) + 1))] [] (q_mw h am (uM (uM (uM (uM M 0 5 0) 4 0 a) 4 1 b) 4 2 c)) Q
                                    refine xv (x_goto 151 d_X8_order__193 rfl) ?_
                                    refine xv (x_iload 153 d_X8_order__151 rfl rfl) ?_
                                    refine xv (x_iload 155 d_X8_order__153 rfl rfl) ?_
                                    refine v_icmp_ge 196 158 d_X8_order__155 rfl rfl (by omega) (by omega) (by omega) (by omega) (fun k155 => ?_) (fun k155 => ?_)
                                    · refine xv (x_aload_n 197 d_X8_order__196 rfl rfl) ?_
                                      obtain ⟨r197, h197, e197, z197, y197⟩ := S_X8_change (E := E) (h := h) (am := am) (M := (uM (uM (uM (uM M 0 5 0) 4 0 a) 4 1 b) 4 2 c)) hc
                                      subst z197
                                      subst y197
                                      refine xv (x_inv0 200 (as := []) d_X8_order__197 rfl c_8_100 rfl (Nat.le_of_ble_eq_true rfl) (Nat.le_of_ble_eq_true rfl) m_o (Nat.le_of_ble_eq_true rfl) (Nat.le_of_ble_eq_true rfl) rfl e197) ?_
                                      generalize hM2 : mch (uM (uM (uM (uM M 0 5 0) 4 0 a) 4 1 b) 4 2 c) = M2
                                      have e2 : M2 1 = M 1 := by rw [← hM2]; exact mch_1
                                      have e4 : M2 4 = (u1 (u1 (u1 (M 4) 0 a) 1 b) 2 c) := by rw [← hM2]; exact mch_s (by decide) (by decide)
                                      have eM : M2 = uA (uA M2 1 (M 1)) 4 (u1 (u1 (u1 (M 4) 0 a) 1 b) 2 c) := by rw [← e2, uA_self, ← e4, uA_self]
                                      rw [eM]
                                      show Xv E q_m_X8_order_ 200 [Value.ref am, Value.int (zi d), Value.int (zi a), Value.int (zi b), Value.int (zi c), Value.int (zi 2), Value.int (zi ((0 + 1) + 1))] [] (q_mw h am (uA (uA M2 1 (M 1)) 4 (u1 (u1 (u1 (M 4) 0 a) 1 b) 2 c))) Q
                                      refine xv (x_aload_n 201 d_X8_order__200 rfl rfl) ?_
                                      refine xv (x_getfield 204 d_X8_order__201 rfl f_8_9 (Nat.le_of_ble_eq_true rfl) (Nat.le_of_ble_eq_true rfl) (q_gf_of m_o rfl)) ?_
                                      refine xv (x_iconst 205 d_X8_order__204 rfl) ?_
                                      refine xv (x_iaload 206 d_X8_order__205 rfl ((m_g1 (by omega) (by omega)).trans (rfl : _ = some (Value.int (zi ((M 1) 4)))))) ?_
                                      have q_48 : -1000000 ≤ (M 1) 4 ∧ (M 1) 4 ≤ 1000000 := hr _
                                      refine xv (x_istore 208 d_X8_order__206 rfl (Nat.le_of_ble_eq_true rfl)) ?_
                                      show Xv E q_m_X8_order_ 208 [Value.ref am, Value.int (zi d), Value.int (zi a), Value.int (zi b), Value.int (zi c), Value.int (zi 2), Value.int (zi ((M 1) 4))] [] (q_mw h am (uA (uA M2 1 (M 1)) 4 (u1 (u1 (u1 (M 4) 0 a) 1 b) 2 c))) Q
                                      refine xv (x_aload_n 209 d_X8_order__208 rfl rfl) ?_
                                      refine xv (x_getfield 212 d_X8_order__209 rfl f_8_9 (Nat.le_of_ble_eq_true rfl) (Nat.le_of_ble_eq_true rfl) (q_gf_of m_o rfl)) ?_
                                      refine xv (x_iload 214 d_X8_order__212 rfl rfl) ?_
                                      refine xv (x_ins1 217 (as := [Value.int (zi ((M 1) 4))]) d_X8_order__214 rfl c_8_106 rfl (Nat.le_of_ble_eq_true rfl) (Nat.le_of_ble_eq_true rfl) (Nat.le_of_ble_eq_true rfl) rfl (S_X8_order (E := E) (h := h) (am := am) (M := (uA (uA M2 1 (M 1)) 4 (u1 (u1 (u1 (M 4) 0 a) 1 b) 2 c))))) ?_
                                      show Xv E q_m_X8_order_ 217 [Value.ref am, Value.int (zi d), Value.int (zi a), Value.int (zi b), Value.int (zi c), Value.int (zi 2), Value.int (zi ((M 1) 4))] [Value.int (zi (320 + 8 * ((M 1) 4))), Value.ref (am + 1)] (q_mw h am (uA (uA M2 1 (M 1)) 4 (u1 (u1 (u1 (M 4) 0 a) 1 b) 2 c))) Q
                                      refine xv (x_iconst 218 d_X8_order__217 rfl) ?_
                                      refine xv (x_iadd 219 d_X8_order__218 rfl) ?_
                                      refine xv (x_iload_n 220 d_X8_order__219 rfl rfl) ?_
                                      refine xv (x_iastore 221 d_X8_order__220 rfl (m_s1 (by omega) (by omega))) ?_
                                      show Xv E q_m_X8_order_ 221 [Value.ref am, Value.int (zi d), Value.int (zi a), Value.int (zi b), Value.int (zi c), Value.int (zi 2), Value.int (zi ((M 1) 4))] [] (q_mw h am (uM (uA (uA M2 1 (M 1)) 4 (u1 (u1 (u1 (M 4) 0 a) 1 b) 2 c)) 1 ((320 + 8 * ((M 1) 4)) + 0) d)) Q
                                      refine xv (x_aload_n 222 d_X8_order__221 rfl rfl) ?_
                                      refine xv (x_getfield 225 d_X8_order__222 rfl f_8_9 (Nat.le_of_ble_eq_true rfl) (Nat.le_of_ble_eq_true rfl) (q_gf_of m_o rfl)) ?_
                                      refine xv (x_iload 227 d_X8_order__225 rfl rfl) ?_
                                      refine xv (x_ins1 230 (as := [Value.int (zi ((M 1) 4))]) d_X8_order__227 rfl c_8_106 rfl (Nat.le_of_ble_eq_true rfl) (Nat.le_of_ble_eq_true rfl) (Nat.le_of_ble_eq_true rfl) rfl (S_X8_order (E := E) (h := h) (am := am) (M := (uM (uA (uA M2 1 (M 1)) 4 (u1 (u1 (u1 (M 4) 0 a) 1 b) 2 c)) 1 ((320 + 8 * ((M 1) 4)) + 0) d)))) ?_
                                      show Xv E q_m_X8_order_ 230 [Value.ref am, Value.int (zi d), Value.int (zi a), Value.int (zi b), Value.int (zi c), Value.int (zi 2), Value.int (zi ((M 1) 4))] [Value.int (zi (320 + 8 * ((M 1) 4))), Value.ref (am + 1)] (q_mw h am (uM (uA (uA M2 1 (M 1)) 4 (u1 (u1 (u1 (M 4) 0 a) 1 b) 2 c)) 1 ((320 + 8 * ((M 1) 4)) + 0) d)) Q
                                      refine xv (x_iconst 231 d_X8_order__230 rfl) ?_
                                      refine xv (x_iadd 232 d_X8_order__231 rfl) ?_
                                      refine xv (x_iload 234 d_X8_order__232 rfl rfl) ?_
                                      refine xv (x_iastore 235 d_X8_order__234 rfl (m_s1 (by omega) (by omega))) ?_
                                      show Xv E q_m_X8_order_ 235 [Value.ref am, Value.int (zi d), Value.int (zi a), Value.int (zi b), Value.int (zi c), Value.int (zi 2), Value.int (zi ((M 1) 4))] [] (q_mw h am (uM (uM (uA (uA M2 1 (M 1)) 4 (u1 (u1 (u1 (M 4) 0 a) 1 b) 2 c)) 1 ((320 + 8 * ((M 1) 4)) + 0) d) 1 ((320 + 8 * ((M 1) 4)) + 1) 2)) Q
                                      refine xv (x_aload_n 236 d_X8_order__235 rfl rfl) ?_
                                      refine xv (x_getfield 239 d_X8_order__236 rfl f_8_9 (Nat.le_of_ble_eq_true rfl) (Nat.le_of_ble_eq_true rfl) (q_gf_of m_o rfl)) ?_
                                      refine xv (x_iload 241 d_X8_order__239 rfl rfl) ?_
                                      refine xv (x_ins1 244 (as := [Value.int (zi ((M 1) 4))]) d_X8_order__241 rfl c_8_106 rfl (Nat.le_of_ble_eq_true rfl) (Nat.le_of_ble_eq_true rfl) (Nat.le_of_ble_eq_true rfl) rfl (S_X8_order (E := E) (h := h) (am := am) (M := (uM (uM (uA (uA M2 1 (M 1)) 4 (u1 (u1 (u1 (M 4) 0 a) 1 b) 2 c)) 1 ((320 + 8 * ((M 1) 4)) + 0) d) 1 ((320 + 8 * ((M 1) 4)) + 1) 2)))) ?_
                                      show Xv E q_m_X8_order_ 244 [Value.ref am, Value.int (zi d), Value.int (zi a), Value.int (zi b), Value.int (zi c), Value.int (zi 2), Value.int (zi ((M 1) 4))] [Value.int (zi (320 + 8 * ((M 1) 4))), Value.ref (am + 1)] (q_mw h am (uM (uM (uA (uA M2 1 (M 1)) 4 (u1 (u1 (u1 (M 4) 0 a) 1 b) 2 c)) 1 ((320 + 8 * ((M 1) 4)) + 0) d) 1 ((320 + 8 * ((M 1) 4)) + 1) 2)) Q
                                      refine xv (x_iconst 245 d_X8_order__244 rfl) ?_
                                      refine xv (x_iadd 246 d_X8_order__245 rfl) ?_
                                      refine xv (x_iconst 247 d_X8_order__246 rfl) ?_
                                      refine xv (x_iastore 248 d_X8_order__247 rfl (m_s1 (by omega) (by omega))) ?_
                                      show Xv E q_m_X8_order_ 248 [Value.ref am, Value.int (zi d), Value.int (zi a), Value.int (zi b), Value.int (zi c), Value.int (zi 2), Value.int (zi ((M 1) 4))] [] (q_mw h am (uM (uM (uM (uA (uA M2 1 (M 1)) 4 (u1 (u1 (u1 (M 4) 0 a) 1 b) 2 c)) 1 ((320 + 8 * ((M 1) 4)) + 0) d) 1 ((320 + 8 * ((M 1) 4)) + 1) 2) 1 ((320 + 8 * ((M 1) 4)) + 2) 0)) Q
                                      refine xv (x_aload_n 249 d_X8_order__248 rfl rfl) ?_
                                      refine xv (x_getfield 252 d_X8_order__249 rfl f_8_9 (Nat.le_of_ble_eq_true rfl) (Nat.le_of_ble_eq_true rfl) (q_gf_of m_o rfl)) ?_
                                      refine xv (x_iload 254 d_X8_order__252 rfl rfl) ?_
                                      refine xv (x_ins1 257 (as := [Value.int (zi ((M 1) 4))]) d_X8_order__254 rfl c_8_106 rfl (Nat.le_of_ble_eq_true rfl) (Nat.le_of_ble_eq_true rfl) (Nat.le_of_ble_eq_true rfl) rfl (S_X8_order (E := E) (h := h) (am := am) (M := (uM (uM (uM (uA (uA M2 1 (M 1)) 4 (u1 (u1 (u1 (M 4) 0 a) 1 b) 2 c)) 1 ((320 + 8 * ((M 1) 4)) + 0) d) 1 ((320 + 8 * ((M 1) 4)) + 1) 2) 1 ((320 + 8 * ((M 1) 4)) + 2) 0)))) ?_
                                      show Xv E q_m_X8_order_ 257 [Value.ref am, Value.int (zi d), Value.int (zi a), Value.int (zi b), Value.int (zi c), Value.int (zi 2), Value.int (zi ((M 1) 4))] [Value.int (zi (320 + 8 * ((M 1) 4))), Value.ref (am + 1)] (q_mw h am (uM (uM (uM (uA (uA M2 1 (M 1)) 4 (u1 (u1 (u1 (M 4) 0 a) 1 b) 2 c)) 1 ((320 + 8 * ((M 1) 4)) + 0) d) 1 ((320 + 8 * ((M 1) 4)) + 1) 2) 1 ((320 + 8 * ((M 1) 4)) + 2) 0)) Q
                                      refine xv (x_iconst 258 d_X8_order__257 rfl) ?_
                                      refine xv (x_iadd 259 d_X8_order__258 rfl) ?_
                                      refine xv (x_iconst 260 d_X8_order__259 rfl) ?_
                                      refine xv (x_iastore 261 d_X8_order__260 rfl (m_s1 (by omega) (by omega))) ?_
                                      show Xv E q_m_X8_order_ 261 [Value.ref am, Value.int (zi d), Value.int (zi a), Value.int (zi b), Value.int (zi c), Value.int (zi 2), Value.int (zi ((M 1) 4))] [] (q_mw h am (uM (uM (uM (uM (uA (uA M2 1 (M 1)) 4 (u1 (u1 (u1 (M 4) 0 a) 1 b) 2 c)) 1 ((320 + 8 * ((M 1) 4)) + 0) d) 1 ((320 + 8 * ((M 1) 4)) + 1) 2) 1 ((320 + 8 * ((M 1) 4)) + 2) 0) 1 ((320 + 8 * ((M 1) 4)) + 3) (-1))) Q
                                      refine xv (x_aload_n 262 d_X8_order__261 rfl rfl) ?_
                                      refine xv (x_getfield 265 d_X8_order__262 rfl f_8_9 (Nat.le_of_ble_eq_true rfl) (Nat.le_of_ble_eq_true rfl) (q_gf_of m_o rfl)) ?_
                                      refine xv (x_iload 267 d_X8_order__265 rfl rfl) ?_
                                      refine xv (x_ins1 270 (as := [Value.int (zi ((M 1) 4))]) d_X8_order__267 rfl c_8_106 rfl (Nat.le_of_ble_eq_true rfl) (Nat.le_of_ble_eq_true rfl) (Nat.le_of_ble_eq_true rfl) rfl (S_X8_order (E := E) (h := h) (am := am) (M := (uM (uM (uM (uM (uA (uA M2 1 (M 1)) 4 (u1 (u1 (u1 (M 4) 0 a) 1 b) 2 c)) 1 ((320 + 8 * ((M 1) 4)) + 0) d) 1 ((320 + 8 * ((M 1) 4)) + 1) 2) 1 ((320 + 8 * ((M 1) 4)) + 2) 0) 1 ((320 + 8 * ((M 1) 4)) + 3) (-1))))) ?_
                                      show Xv E q_m_X8_order_ 270 [Value.ref am, Value.int (zi d), Value.int (zi a), Value.int (zi b), Value.int (zi c), Value.int (zi 2), Value.int (zi ((M 1) 4))] [Value.int (zi (320 + 8 * ((M 1) 4))), Value.ref (am + 1)] (q_mw h am (uM (uM (uM (uM (uA (uA M2 1 (M 1)) 4 (u1 (u1 (u1 (M 4) 0 a) 1 b) 2 c)) 1 ((320 + 8 * ((M 1) 4)) + 0) d) 1 ((320 + 8 * ((M 1) 4)) + 1) 2) 1 ((320 + 8 * ((M 1) 4)) + 2) 0) 1 ((320 + 8 * ((M 1) 4)) + 3) (-1))) Q
                                      refine xv (x_iconst 271 d_X8_order__270 rfl) ?_
                                      refine xv (x_iadd 272 d_X8_order__271 rfl) ?_
                                      refine xv (x_iconst 273 d_X8_order__272 rfl) ?_
                                      refine xv (x_iastore 274 d_X8_order__273 rfl (m_s1 (by omega) (by omega))) ?_
                                      show Xv E q_m_X8_order_ 274 [Value.ref am, Value.int (zi d), Value.int (zi a), Value.int (zi b), Value.int (zi c), Value.int (zi 2), Value.int (zi ((M 1) 4))] [] (q_mw h am (uM (uM (uM (uM (uM (uA (uA M2 1 (M 1)) 4 (u1 (u1 (u1 (M 4) 0 a) 1 b) 2 c)) 1 ((320 + 8 * ((M 1) 4)) + 0) d) 1 ((320 + 8 * ((M 1) 4)) + 1) 2) 1 ((320 + 8 * ((M 1) 4)) + 2) 0) 1 ((320 + 8 * ((M 1) 4)) + 3) (-1)) 1 ((320 + 8 * ((M 1) 4)) + 4) (-1))) Q
                                      refine xv (x_aload_n 275 d_X8_order__274 rfl rfl) ?_
                                      refine xv (x_getfield 278 d_X8_order__275 rfl f_8_19 (Nat.le_of_ble_eq_true rfl) (Nat.le_of_ble_eq_true rfl) (q_gf_of m_o rfl)) ?_
                                      refine xv (x_iconst 279 d_X8_order__278 rfl) ?_
                                      refine xv (x_aload_n 280 d_X8_order__279 rfl rfl) ?_
                                      refine xv (x_getfield 283 d_X8_order__280 rfl f_8_9 (Nat.le_of_ble_eq_true rfl) (Nat.le_of_ble_eq_true rfl) (q_gf_of m_o rfl)) ?_
                                      refine xv (x_iload 285 d_X8_order__283 rfl rfl) ?_
                                      refine xv (x_ins1 288 (as := [Value.int (zi ((M 1) 4))]) d_X8_order__285 rfl c_8_106 rfl (Nat.le_of_ble_eq_true rfl) (Nat.le_of_ble_eq_true rfl) (Nat.le_of_ble_eq_true rfl) rfl (S_X8_order (E := E) (h := h) (am := am) (M := (uM (uM (uM (uM (uM (uA (uA M2 1 (M 1)) 4 (u1 (u1 (u1 (M 4) 0 a) 1 b) 2 c)) 1 ((320 + 8 * ((M 1) 4)) + 0) d) 1 ((320 + 8 * ((M 1) 4)) + 1) 2) 1 ((320 + 8 * ((M 1) 4)) + 2) 0) 1 ((320 + 8 * ((M 1) 4)) + 3) (-1)) 1 ((320 + 8 * ((M 1) 4)) + 4) (-1))))) ?_
                                      show Xv E q_m_X8_order_ 288 [Value.ref am, Value.int (zi d), Value.int (zi a), Value.int (zi b), Value.int (zi c), Value.int (zi 2), Value.int (zi ((M 1) 4))] [Value.int (zi (320 + 8 * ((M 1) 4))), Value.ref (am + 1), Value.int (zi 0), Value.ref (am + 4)] (q_mw h am (uM (uM (uM (uM (uM (uA (uA M2 1 (M 1)) 4 (u1 (u1 (u1 (M 4) 0 a) 1 b) 2 c)) 1 ((320 + 8 * ((M 1) 4)) + 0) d) 1 ((320 + 8 * ((M 1) 4)) + 1) 2) 1 ((320 + 8 * ((M 1) 4)) + 2) 0) 1 ((320 + 8 * ((M 1) 4)) + 3) (-1)) 1 ((320 + 8 * ((M 1) 4)) + 4) (-1))) Q
                                      refine xv (x_iconst 289 d_X8_order__288 rfl) ?_
                                      refine xv (x_iadd 290 d_X8_order__289 rfl) ?_
                                      refine xv (x_iconst 291 d_X8_order__290 rfl) ?_
                                      refine xv (x_copy 294 d_X8_order__291 rfl rfl rfl (Nat.le_of_ble_eq_true rfl) (Nat.le_of_ble_eq_true rfl) (Nat.le_of_ble_eq_true rfl) (m_cpy 4 1 m_a4 m_a1 m_w1 (by omega) (by omega) (by omega) (by omega) (by omega) (by decide) (by decide))) ?_
                                      show Xv E q_m_X8_order_ 294 [Value.ref am, Value.int (zi d), Value.int (zi a), Value.int (zi b), Value.int (zi c), Value.int (zi 2), Value.int (zi ((M 1) 4))] [] (q_mw h am (uA (uM (uM (uM (uM (uM (uA (uA M2 1 (M 1)) 4 (u1 (u1 (u1 (M 4) 0 a) 1 b) 2 c)) 1 ((320 + 8 * ((M 1) 4)) + 0) d) 1 ((320 + 8 * ((M 1) 4)) + 1) 2) 1 ((320 + 8 * ((M 1) 4)) + 2) 0) 1 ((320 + 8 * ((M 1) 4)) + 3) (-1)) 1 ((320 + 8 * ((M 1) 4)) + 4) (-1)) 1 (cpI (u1 (u1 (u1 (M 4) 0 a) 1 b) 2 c) (u1 (u1 (u1 (u1 (u1 (M 1) ((320 + 8 * ((M 1) 4)) + 0) d) ((320 + 8 * ((M 1) 4)) + 1) 2) ((320 + 8 * ((M 1) 4)) + 2) 0) ((320 + 8 * ((M 1) 4)) + 3) (-1)) ((320 + 8 * ((M 1) 4)) + 4) (-1)) 0 ((320 + 8 * ((M 1) 4)) + 5) 3))) Q
                                      refine xv (x_aload_n 295 d_X8_order__294 rfl rfl) ?_
                                      refine xv (x_getfield 298 d_X8_order__295 rfl f_8_9 (Nat.le_of_ble_eq_true rfl) (Nat.le_of_ble_eq_true rfl) (q_gf_of m_o rfl)) ?_
                                      refine xv (x_iconst 299 d_X8_order__298 rfl) ?_
                                      refine xv (x_dup2 300 d_X8_order__299 rfl rfl rfl) ?_
                                      refine xv (x_iaload 301 d_X8_order__300 rfl ((m_g1 (by omega) (by omega)).trans (rfl : _ = some (Value.int (zi ((cpI (u1 (u1 (u1 (M 4) 0 a) 1 b) 2 c) (u1 (u1 (u1 (u1 (u1 (M 1) ((320 + 8 * ((M 1) 4)) + 0) d) ((320 + 8 * ((M 1) 4)) + 1) 2) ((320 + 8 * ((M 1) 4)) + 2) 0) ((320 + 8 * ((M 1) 4)) + 3) (-1)) ((320 + 8 * ((M 1) 4)) + 4) (-1)) 0 ((320 + 8 * ((M 1) 4)) + 5) 3) 4)))))) ?_
                                      refine xv (x_iconst 302 d_X8_order__301 rfl) ?_
                                      refine xv (x_iadd 303 d_X8_order__302 rfl) ?_
                                      refine xv (x_iastore 304 d_X8_order__303 rfl (m_s1 (by omega) (by omega))) ?_
                                      show Xv E q_m_X8_order_ 304 [Value.ref am, Value.int (zi d), Value.int (zi a), Value.int (zi b), Value.int (zi c), Value.int (zi 2), Value.int (zi ((M 1) 4))] [] (q_mw h am (uM (uA (uM (uM (uM (uM (uM (uA (uA M2 1 (M 1)) 4 (u1 (u1 (u1 (M 4) 0 a) 1 b) 2 c)) 1 ((320 + 8 * ((M 1) 4)) + 0) d) 1 ((320 + 8 * ((M 1) 4)) + 1) 2) 1 ((320 + 8 * ((M 1) 4)) + 2) 0) 1 ((320 + 8 * ((M 1) 4)) + 3) (-1)) 1 ((320 + 8 * ((M 1) 4)) + 4) (-1)) 1 (cpI (u1 (u1 (u1 (M 4) 0 a) 1 b) 2 c) (u1 (u1 (u1 (u1 (u1 (M 1) ((320 + 8 * ((M 1) 4)) + 0) d) ((320 + 8 * ((M 1) 4)) + 1) 2) ((320 + 8 * ((M 1) 4)) + 2) 0) ((320 + 8 * ((M 1) 4)) + 3) (-1)) ((320 + 8 * ((M 1) 4)) + 4) (-1)) 0 ((320 + 8 * ((M 1) 4)) + 5) 3)) 1 4 (((cpI (u1 (u1 (u1 (M 4) 0 a) 1 b) 2 c) (u1 (u1 (u1 (u1 (u1 (M 1) ((320 + 8 * ((M 1) 4)) + 0) d) ((320 + 8 * ((M 1) 4)) + 1) 2) ((320 + 8 * ((M 1) 4)) + 2) 0) ((320 + 8 * ((M 1) 4)) + 3) (-1)) ((320 + 8 * ((M 1) 4)) + 4) (-1)) 0 ((320 + 8 * ((M 1) 4)) + 5) 3) 4) + 1))) Q
                                      refine xv (x_iload 306 d_X8_order__304 rfl rfl) ?_
                                      refine xv_r (x_ireturn d_X8_order__306 rfl rfl) ?_
                                      have er : mOrd (M 1) d a b c = (0, 0) := by first | (exfalso; omega) | (unfold mOrd; repeat (first | rw [if_pos (by omega)] | rw [if_neg (by omega)]))
                                      have ec : cntO b c = 2 := by first | (exfalso; omega) | (unfold cntO; repeat (first | rw [if_pos (by omega)] | rw [if_neg (by omega)]))
                                      refine hQ _ _ ?_
                                      unfold mMu2
                                      rw [er, if_pos rfl, ec]
                                      refine ⟨rfl, ?_⟩
                                      unfold lnO
                                      rw [hM2, ← eM]
                                      simp only [uM_uA, uA_uA, uA_eq]
                                      rfl
                                    · omega
                                  · refine xv (x_aload_n 177 d_X8_order__176 rfl rfl) ?_
                                    refine xv (x_bipush 179 d_X8_order__177 rfl rfl) ?_
                                    refine xv (x_aload_n 180 d_X8_order__179 rfl rfl) ?_
                                    refine xv (x_getfield 183 d_X8_order__180 rfl f_8_19 (Nat.le_of_ble_eq_true rfl) (Nat.le_of_ble_eq_true rfl) (q_gf_of m_o rfl)) ?_
                                    refine xv (x_iload 185 d_X8_order__183 rfl rfl) ?_
                                    refine xv (x_iaload 186 d_X8_order__185 rfl ((m_g4 (by omega) (by omega)).trans (rfl : _ = some (Value.int (zi b))))) ?_
                                    obtain ⟨r186, h186, e186, z186, y186⟩ := S_X8_refuse (E := E) (h := h) (am := am) (M := (uM (uM (uM (uM M 0 5 0) 4 0 a) 4 1 b) 4 2 c)) (y := 12) (z := b) 
                                    subst z186
                                    subst y186
                                    refine xv (x_inv1 189 (as := [Value.int (zi 12), Value.int (zi b)]) d_X8_order__186 rfl c_8_90 rfl (Nat.le_of_ble_eq_true rfl) (Nat.le_of_ble_eq_true rfl) m_o (Nat.le_of_ble_eq_true rfl) (Nat.le_of_ble_eq_true rfl) rfl e186) ?_
                                    show Xv E q_m_X8_order_ 189 [Value.ref am, Value.int (zi d), Value.int (zi a), Value.int (zi b), Value.int (zi c), Value.int (zi 2), Value.int (zi (0 + 1))] [Value.int (zi 0)] (q_mw h am (uM (uM (uM (uM (uM (uM (uM M 0 5 0) 4 0 a) 4 1 b) 4 2 c) 0 5 1) 0 6 12) 0 7 b)) Q
                                    refine xv_r (x_ireturn d_X8_order__189 rfl rfl) ?_
                                    have er : mOrd (M 1) d a b c = (12, b) := by first | (exfalso; omega) | (unfold mOrd; repeat (first | rw [if_pos (by omega)] | rw [if_neg (by omega)]))
                                    refine hQ _ _ ?_
                                    unfold mMu2
                                    rw [er]
                                    exact ⟨rfl, rfl⟩
                              · refine xv (x_aload_n 177 d_X8_order__176 rfl rfl) ?_
                                refine xv (x_bipush 179 d_X8_order__177 rfl rfl) ?_
                                refine xv (x_aload_n 180 d_X8_order__179 rfl rfl) ?_
                                refine xv (x_getfield 183 d_X8_order__180 rfl f_8_19 (Nat.le_of_ble_eq_true rfl) (Nat.le_of_ble_eq_true rfl) (q_gf_of m_o rfl)) ?_
                                refine xv (x_iload 185 d_X8_order__183 rfl rfl) ?_
                                refine xv (x_iaload 186 d_X8_order__185 rfl ((m_g4 (by omega) (by omega)).trans (rfl : _ = some (Value.int (zi a))))) ?_
                                obtain ⟨r186, h186, e186, z186, y186⟩ := S_X8_refuse (E := E) (h := h) (am := am) (M := (uM (uM (uM (uM M 0 5 0) 4 0 a) 4 1 b) 4 2 c)) (y := 12) (z := a) 
                                subst z186
                                subst y186
                                refine xv (x_inv1 189 (as := [Value.int (zi 12), Value.int (zi a)]) d_X8_order__186 rfl c_8_90 rfl (Nat.le_of_ble_eq_true rfl) (Nat.le_of_ble_eq_true rfl) m_o (Nat.le_of_ble_eq_true rfl) (Nat.le_of_ble_eq_true rfl) rfl e186) ?_
                                show Xv E q_m_X8_order_ 189 [Value.ref am, Value.int (zi d), Value.int (zi a), Value.int (zi b), Value.int (zi c), Value.int (zi 2), Value.int (zi 0)] [Value.int (zi 0)] (q_mw h am (uM (uM (uM (uM (uM (uM (uM M 0 5 0) 4 0 a) 4 1 b) 4 2 c) 0 5 1) 0 6 12) 0 7 a)) Q
                                refine xv_r (x_ireturn d_X8_order__189 rfl rfl) ?_
                                have er : mOrd (M 1) d a b c = (12, a) := by first | (exfalso; omega) | (unfold mOrd; repeat (first | rw [if_pos (by omega)] | rw [if_neg (by omega)]))
                                refine hQ _ _ ?_
                                unfold mMu2
                                rw [er]
                                exact ⟨rfl, rfl⟩
                          · refine xv (x_aload_n 142 d_X8_order__141 rfl rfl) ?_
                            refine xv (x_iconst 143 d_X8_order__142 rfl) ?_
                            refine xv (x_iconst 144 d_X8_order__143 rfl) ?_
                            obtain ⟨r144, h144, e144, z144, y144⟩ := S_X8_refuse (E := E) (h := h) (am := am) (M := (uM (uM (uM (uM M 0 5 0) 4 0 a) 4 1 b) 4 2 c)) (y := 3) (z := 0) 
                            subst z144
                            subst y144
                            refine xv (x_inv1 147 (as := [Value.int (zi 3), Value.int (zi 0)]) d_X8_order__144 rfl c_8_90 rfl (Nat.le_of_ble_eq_true rfl) (Nat.le_of_ble_eq_true rfl) m_o (Nat.le_of_ble_eq_true rfl) (Nat.le_of_ble_eq_true rfl) rfl e144) ?_
                            show Xv E q_m_X8_order_ 147 [Value.ref am, Value.int (zi d), Value.int (zi a), Value.int (zi b), Value.int (zi c), Value.int (zi 2), Value.int (zi (((0 + 1) + 1) + 1))] [Value.int (zi 0)] (q_mw h am (uM (uM (uM (uM (uM (uM (uM M 0 5 0) 4 0 a) 4 1 b) 4 2 c) 0 5 1) 0 6 3) 0 7 0)) Q
                            refine xv_r (x_ireturn d_X8_order__147 rfl rfl) ?_
                            have er : mOrd (M 1) d a b c = (3, 0) := by first | (exfalso; omega) | (unfold mOrd; repeat (first | rw [if_pos (by omega)] | rw [if_neg (by omega)]))
                            refine hQ _ _ ?_
                            unfold mMu2
                            rw [er]
                            exact ⟨rfl, rfl⟩
                        · refine xv (x_aload_n 124 d_X8_order__123 rfl rfl) ?_
                          refine xv (x_iconst 125 d_X8_order__124 rfl) ?_
                          refine xv (x_iconst 126 d_X8_order__125 rfl) ?_
                          obtain ⟨r126, h126, e126, z126, y126⟩ := S_X8_refuse (E := E) (h := h) (am := am) (M := (uM (uM (uM (uM M 0 5 0) 4 0 a) 4 1 b) 4 2 c)) (y := 2) (z := 0) 
                          subst z126
                          subst y126
                          refine xv (x_inv1 129 (as := [Value.int (zi 2), Value.int (zi 0)]) d_X8_order__126 rfl c_8_90 rfl (Nat.le_of_ble_eq_true rfl) (Nat.le_of_ble_eq_true rfl) m_o (Nat.le_of_ble_eq_true rfl) (Nat.le_of_ble_eq_true rfl) rfl e126) ?_
                          show Xv E q_m_X8_order_ 129 [Value.ref am, Value.int (zi d), Value.int (zi a), Value.int (zi b), Value.int (zi c), Value.int (zi 2), Value.int (zi (((0 + 1) + 1) + 1))] [Value.int (zi 0)] (q_mw h am (uM (uM (uM (uM (uM (uM (uM M 0 5 0) 4 0 a) 4 1 b) 4 2 c) 0 5 1) 0 6 2) 0 7 0)) Q
                          refine xv_r (x_ireturn d_X8_order__129 rfl rfl) ?_
                          have er : mOrd (M 1) d a b c = (2, 0) := by first | (exfalso; omega) | (unfold mOrd; repeat (first | rw [if_pos (by omega)] | rw [if_neg (by omega)]))
                          refine hQ _ _ ?_
                          unfold mMu2
                          rw [er]
                          exact ⟨rfl, rfl⟩
                  · omega
                · replace k69 := bI_0.mp k69
                  refine xv (x_iload 74 d_X8_order__72 rfl rfl) ?_
                  refine v_if_eq 88 77 d_X8_order__74 rfl rfl (by omega) (by omega) (fun k74 => ?_) (fun k74 => ?_)
                  · omega
                  · refine xv (x_aload_n 78 d_X8_order__77 rfl rfl) ?_
                    refine xv (x_getfield 81 d_X8_order__78 rfl f_8_19 (Nat.le_of_ble_eq_true rfl) (Nat.le_of_ble_eq_true rfl) (q_gf_of m_o rfl)) ?_
                    refine xv (x_iload 83 d_X8_order__81 rfl rfl) ?_
                    refine xv (x_iaload 84 d_X8_order__83 rfl ((m_g4 (by omega) (by omega)).trans (rfl : _ = some (Value.int (zi c))))) ?_
                    refine xv (x_iconst 85 d_X8_order__84 rfl) ?_
                    refine v_icmp_eq 95 88 d_X8_order__85 rfl rfl (by omega) (by omega) (by omega) (by omega) (fun k85 => ?_) (fun k85 => ?_)
                    · refine xv (x_iinc 98 d_X8_order__95 rfl rfl) ?_
                      show Xv E q_m_X8_order_ 98 [Value.ref am, Value.int (zi d), Value.int (zi a), Value.int (zi b), Value.int (zi c), Value.int (zi 2), Value.int (zi (((0 + 1) + 1) + 1))] [] (q_mw h am (uM (uM (uM (uM M 0 5 0) 4 0 a) 4 1 b) 4 2 c)) Q
                      refine xv (x_goto 52 d_X8_order__98 rfl) ?_
                      refine xv (x_iload 54 d_X8_order__52 rfl rfl) ?_
                      refine xv (x_iconst 55 d_X8_order__54 rfl) ?_
                      refine v_icmp_ge 101 58 d_X8_order__55 rfl rfl (by omega) (by omega) (by omega) (by omega) (fun k55 => ?_) (fun k55 => ?_)
                      · refine xv (x_iload_n 102 d_X8_order__101 rfl rfl) ?_
                        refine xv (x_iconst 103 d_X8_order__102 rfl) ?_
                        refine xv (x_sipush 106 d_X8_order__103 rfl rfl) ?_
                        refine xv (x_ins1 109 (as := [Value.int (zi d), Value.int (zi 0), Value.int (zi 999)]) d_X8_order__106 rfl c_8_71 rfl (Nat.le_of_ble_eq_true rfl) (Nat.le_of_ble_eq_true rfl) (Nat.le_of_ble_eq_true rfl) rfl (S_X8_in (E := E) (h := h) (am := am) (M := (uM (uM (uM (uM M 0 5 0) 4 0 a) 4 1 b) 4 2 c)) (by first | omega | (rw [show (uM (uM (uM (uM M 0 5 0) 4 0 a) 4 1 b) 4 2 c) 1 = (M 1) from rfl]; omega)) (by first | omega | (rw [show (uM (uM (uM (uM M 0 5 0) 4 0 a) 4 1 b) 4 2 c) 1 = (M 1) from rfl]; omega)) (by first | omega | (rw [show (uM (uM (uM (uM M 0 5 0) 4 0 a) 4 1 b) 4 2 c) 1 = (M 1) from rfl]; omega)) (by first | omega | (rw [show (uM (uM (uM (uM M 0 5 0) 4 0 a) 4 1 b) 4 2 c) 1 = (M 1) from rfl]; omega)) (by first | omega | (rw [show (uM (uM (uM (uM M 0 5 0) 4 0 a) 4 1 b) 4 2 c) 1 = (M 1) from rfl]; omega)) (by first | omega | (rw [show (uM (uM (uM (uM M 0 5 0) 4 0 a) 4 1 b) 4 2 c) 1 = (M 1) from rfl]; omega)))) ?_
                        show Xv E q_m_X8_order_ 109 [Value.ref am, Value.int (zi d), Value.int (zi a), Value.int (zi b), Value.int (zi c), Value.int (zi 2), Value.int (zi (((0 + 1) + 1) + 1))] [Value.int (zi (bI (inn d 0 999)))] (q_mw h am (uM (uM (uM (uM M 0 5 0) 4 0 a) 4 1 b) 4 2 c)) Q
                        refine v_if_eq 123 112 d_X8_order__109 rfl rfl (by have := bI_r (inn d 0 999); omega) (by have := bI_r (inn d 0 999); omega) (fun k109 => ?_) (fun k109 => ?_)
                        · replace k109 := bI_0.mp k109
                          refine xv (x_aload_n 124 d_X8_order__123 rfl rfl) ?_
                          refine xv (x_iconst 125 d_X8_order__124 rfl) ?_
                          refine xv (x_iconst 126 d_X8_order__125 rfl) ?_
                          obtain ⟨r126, h126, e126, z126, y126⟩ := S_X8_refuse (E := E) (h := h) (am := am) (M := (uM (uM (uM (uM M 0 5 0) 4 0 a) 4 1 b) 4 2 c)) (y := 2) (z := 0) 
                          subst z126
                          subst y126
                          refine xv (x_inv1 129 (as := [Value.int (zi 2), Value.int (zi 0)]) d_X8_order__126 rfl c_8_90 rfl (Nat.le_of_ble_eq_true rfl) (Nat.le_of_ble_eq_true rfl) m_o (Nat.le_of_ble_eq_true rfl) (Nat.le_of_ble_eq_true rfl) rfl e126) ?_
                          show Xv E q_m_X8_order_ 129 [Value.ref am, Value.int (zi d), Value.int (zi a), Value.int (zi b), Value.int (zi c), Value.int (zi 2), Value.int (zi (((0 + 1) + 1) + 1))] [Value.int (zi 0)] (q_mw h am (uM (uM (uM (uM (uM (uM (uM M 0 5 0) 4 0 a) 4 1 b) 4 2 c) 0 5 1) 0 6 2) 0 7 0)) Q
                          refine xv_r (x_ireturn d_X8_order__129 rfl rfl) ?_
                          have er : mOrd (M 1) d a b c = (2, 0) := by first | (exfalso; omega) | (unfold mOrd; repeat (first | rw [if_pos (by omega)] | rw [if_neg (by omega)]))
                          refine hQ _ _ ?_
                          unfold mMu2
                          rw [er]
                          exact ⟨rfl, rfl⟩
                        · replace k109 := bI_n0.mp k109
                          refine xv (x_iload_n 113 d_X8_order__112 rfl rfl) ?_
                          refine xv (x_iconst 114 d_X8_order__113 rfl) ?_
                          refine v_icmp_ne 130 117 d_X8_order__114 rfl rfl (by omega) (by omega) (by omega) (by omega) (fun k114 => ?_) (fun k114 => ?_)
                          · refine xv (x_aload_n 131 d_X8_order__130 rfl rfl) ?_
                            refine xv (x_getfield 134 d_X8_order__131 rfl f_8_9 (Nat.le_of_ble_eq_true rfl) (Nat.le_of_ble_eq_true rfl) (q_gf_of m_o rfl)) ?_
                            refine xv (x_iconst 135 d_X8_order__134 rfl) ?_
                            refine xv (x_iaload 136 d_X8_order__135 rfl ((m_g1 (by omega) (by omega)).trans (rfl : _ = some (Value.int (zi ((M 1) 4)))))) ?_
                            have q_49 : -1000000 ≤ (M 1) 4 ∧ (M 1) 4 ≤ 1000000 := hr _
                            refine xv (x_bipush 138 d_X8_order__136 rfl rfl) ?_
                            refine v_icmp_ne 148 141 d_X8_order__138 rfl rfl (by omega) (by omega) (by omega) (by omega) (fun k138 => ?_) (fun k138 => ?_)
                            · refine xv (x_iconst 149 d_X8_order__148 rfl) ?_
                              refine xv (x_istore 151 d_X8_order__149 rfl (Nat.le_of_ble_eq_true rfl)) ?_
                              show Xv E q_m_X8_order_ 151 [Value.ref am, Value.int (zi d), Value.int (zi a), Value.int (zi b), Value.int (zi c), Value.int (zi 2), Value.int (zi 0)] [] (q_mw h am (uM (uM (uM (uM M 0 5 0) 4 0 a) 4 1 b) 4 2 c)) Q
                              refine xv (x_iload 153 d_X8_order__151 rfl rfl) ?_
                              refine xv (x_iload 155 d_X8_order__153 rfl rfl) ?_
                              refine v_icmp_ge 196 158 d_X8_order__155 rfl rfl (by omega) (by omega) (by omega) (by omega) (fun k155 => ?_) (fun k155 => ?_)
                              · omega
                              · refine xv (x_aload_n 159 d_X8_order__158 rfl rfl) ?_
                                refine xv (x_getfield 162 d_X8_order__159 rfl f_8_9 (Nat.le_of_ble_eq_true rfl) (Nat.le_of_ble_eq_true rfl) (q_gf_of m_o rfl)) ?_
                                refine xv (x_bipush 164 d_X8_order__162 rfl rfl) ?_
                                refine xv (x_aload_n 165 d_X8_order__164 rfl rfl) ?_
                                refine xv (x_getfield 168 d_X8_order__165 rfl f_8_19 (Nat.le_of_ble_eq_true rfl) (Nat.le_of_ble_eq_true rfl) (q_gf_of m_o rfl)) ?_
                                refine xv (x_iload 170 d_X8_order__168 rfl rfl) ?_
                                refine xv (x_iaload 171 d_X8_order__170 rfl ((m_g4 (by omega) (by omega)).trans (rfl : _ = some (Value.int (zi a))))) ?_
                                refine xv (x_iadd 172 d_X8_order__171 rfl) ?_
                                refine xv (x_iaload 173 d_X8_order__172 rfl ((m_g1 (by omega) (by omega)).trans (rfl : _ = some (Value.int (zi ((M 1) (8 + a))))))) ?_
                                have q_50 : -1000000 ≤ (M 1) (8 + a) ∧ (M 1) (8 + a) ≤ 1000000 := hr _
                                refine v_if_eq 190 176 d_X8_order__173 rfl rfl (by omega) (by omega) (fun k173 => ?_) (fun k173 => ?_)
                                · refine xv (x_iinc 193 d_X8_order__190 rfl rfl) ?_
                                  show Xv E q_m_X8_order_ 193 [Value.ref am, Value.int (zi d), Value.int (zi a), Value.int (zi b), Value.int (zi c), Value.int (zi 2), Value.int (zi (0 + 1))] [] (q_mw h am (uM (uM (uM (uM M 0 5 0) 4 0 a) 4 1 b) 4 2 c)) Q
                                  refine xv (x_goto 151 d_X8_order__193 rfl) ?_
                                  refine xv (x_iload 153 d_X8_order__151 rfl rfl) ?_
                                  refine xv (x_iload 155 d_X8_order__153 rfl rfl) ?_
                                  refine v_icmp_ge 196 158 d_X8_order__155 rfl rfl (by omega) (by omega) (by omega) (by omega) (fun k155 => ?_) (fun k155 => ?_)
                                  · omega
                                  · refine xv (x_aload_n 159 d_X8_order__158 rfl rfl) ?_
                                    refine xv (x_getfield 162 d_X8_order__159 rfl f_8_9 (Nat.le_of_ble_eq_true rfl) (Nat.le_of_ble_eq_true rfl) (q_gf_of m_o rfl)) ?_
                                    refine xv (x_bipush 164 d_X8_order__162 rfl rfl) ?_
                                    refine xv (x_aload_n 165 d_X8_order__164 rfl rfl) ?_
                                    refine xv (x_getfield 168 d_X8_order__165 rfl f_8_19 (Nat.le_of_ble_eq_true rfl) (Nat.le_of_ble_eq_true rfl) (q_gf_of m_o rfl)) ?_
                                    refine xv (x_iload 170 d_X8_order__168 rfl rfl) ?_
                                    refine xv (x_iaload 171 d_X8_order__170 rfl ((m_g4 (by omega) (by omega)).trans (rfl : _ = some (Value.int (zi b))))) ?_
                                    refine xv (x_iadd 172 d_X8_order__171 rfl) ?_
                                    refine xv (x_iaload 173 d_X8_order__172 rfl ((m_g1 (by omega) (by omega)).trans (rfl : _ = some (Value.int (zi ((M 1) (8 + b))))))) ?_
                                    have q_51 : -1000000 ≤ (M 1) (8 + b) ∧ (M 1) (8 + b) ≤ 1000000 := hr _
                                    refine v_if_eq 190 176 d_X8_order__173 rfl rfl (by omega) (by omega) (fun k173 => ?_) (fun k173 => ?_)
                                    · refine xv (x_iinc 193 d_X8_order__190 rfl rfl) ?_
                                      show Xv E q_m_X8_order_ 193 [Value.ref am, Value.int (zi d), Value.int (zi a), Value.int (zi b), Value.int (zi c), Value.int (zi 2), Value.int (zi ((0 + 1) + 1))] [] (q_mw h am (uM (uM (uM (uM M 0 5 0) 4 0 a) 4 1 b) 4 2 c)) Q
                                      refine xv (x_goto 151 d_X8_order__193 rfl) ?_
                                      refine xv (x_iload 153 d_X8_order__151 rfl rfl) ?_
                                      refine xv (x_iload 155 d_X8_order__153 rfl rfl) ?_
                                      refine v_icmp_ge 196 158 d_X8_order__155 rfl rfl (by omega) (by omega) (by omega) (by omega) (fun k155 => ?_) (fun k155 => ?_)
                                      · refine xv (x_aload_n 197 d_X8_order__196 rfl rfl) ?_
                                        obtain ⟨r197, h197, e197, z197, y197⟩ := S_X8_change (E := E) (h := h) (am := am) (M := (uM (uM (uM (uM M 0 5 0) 4 0 a) 4 1 b) 4 2 c)) hc
                                        subst z197
                                        subst y197
                                        refine xv (x_inv0 200 (as := []) d_X8_order__197 rfl c_8_100 rfl (Nat.le_of_ble_eq_true rfl) (Nat.le_of_ble_eq_true rfl) m_o (Nat.le_of_ble_eq_true rfl) (Nat.le_of_ble_eq_true rfl) rfl e197) ?_
                                        generalize hM2 : mch (uM (uM (uM (uM M 0 5 0) 4 0 a) 4 1 b) 4 2 c) = M2
                                        have e2 : M2 1 = M 1 := by rw [← hM2]; exact mch_1
                                        have e4 : M2 4 = (u1 (u1 (u1 (M 4) 0 a) 1 b) 2 c) := by rw [← hM2]; exact mch_s (by decide) (by decide)
                                        have eM : M2 = uA (uA M2 1 (M 1)) 4 (u1 (u1 (u1 (M 4) 0 a) 1 b) 2 c) := by rw [← e2, uA_self, ← e4, uA_self]
                                        rw [eM]
                                        show Xv E q_m_X8_order_ 200 [Value.ref am, Value.int (zi d), Value.int (zi a), Value.int (zi b), Value.int (zi c), Value.int (zi 2), Value.int (zi ((0 + 1) + 1))] [] (q_mw h am (uA (uA M2 1 (M 1)) 4 (u1 (u1 (u1 (M 4) 0 a) 1 b) 2 c))) Q
                                        refine xv (x_aload_n 201 d_X8_order__200 rfl rfl) ?_
                                        refine xv (x_getfield 204 d_X8_order__201 rfl f_8_9 (Nat.le_of_ble_eq_true rfl) (Nat.le_of_ble_eq_true rfl) (q_gf_of m_o rfl)) ?_
                                        refine xv (x_iconst 205 d_X8_order__204 rfl) ?_
                                        refine xv (x_iaload 206 d_X8_order__205 rfl ((m_g1 (by omega) (by omega)).trans (rfl : _ = some (Value.int (zi ((M 1) 4)))))) ?_
                                        have q_52 : -1000000 ≤ (M 1) 4 ∧ (M 1) 4 ≤ 1000000 := hr _
                                        refine xv (x_istore 208 d_X8_order__206 rfl (Nat.le_of_ble_eq_true rfl)) ?_
                                        show Xv E q_m_X8_order_ 208 [Value.ref am, Value.int (zi d), Value.int (zi a), Value.int (zi b), Value.int (zi c), Value.int (zi 2), Value.int (zi ((M 1) 4))] [] (q_mw h am (uA (uA M2 1 (M 1)) 4 (u1 (u1 (u1 (M 4) 0 a) 1 b) 2 c))) Q
                                        refine xv (x_aload_n 209 d_X8_order__208 rfl rfl) ?_
                                        refine xv (x_getfield 212 d_X8_order__209 rfl f_8_9 (Nat.le_of_ble_eq_true rfl) (Nat.le_of_ble_eq_true rfl) (q_gf_of m_o rfl)) ?_
                                        refine xv (x_iload 214 d_X8_order__212 rfl rfl) ?_
                                        refine xv (x_ins1 217 (as := [Value.int (zi ((M 1) 4))]) d_X8_order__214 rfl c_8_106 rfl (Nat.le_of_ble_eq_true rfl) (Nat.le_of_ble_eq_true rfl) (Nat.le_of_ble_eq_true rfl) rfl (S_X8_order (E := E) (h := h) (am := am) (M := (uA (uA M2 1 (M 1)) 4 (u1 (u1 (u1 (M 4) 0 a) 1 b) 2 c))))) ?_
                                        show Xv E q_m_X8_order_ 217 [Value.ref am, Value.int (zi d), Value.int (zi a), Value.int (zi b), Value.int (zi c), Value.int (zi 2), Value.int (zi ((M 1) 4))] [Value.int (zi (320 + 8 * ((M 1) 4))), Value.ref (am + 1)] (q_mw h am (uA (uA M2 1 (M 1)) 4 (u1 (u1 (u1 (M 4) 0 a) 1 b) 2 c))) Q
                                        refine xv (x_iconst 218 d_X8_order__217 rfl) ?_
                                        refine xv (x_iadd 219 d_X8_order__218 rfl) ?_
                                        refine xv (x_iload_n 220 d_X8_order__219 rfl rfl) ?_
                                        refine xv (x_iastore 221 d_X8_order__220 rfl (m_s1 (by omega) (by omega))) ?_
                                        show Xv E q_m_X8_order_ 221 [Value.ref am, Value.int (zi d), Value.int (zi a), Value.int (zi b), Value.int (zi c), Value.int (zi 2), Value.int (zi ((M 1) 4))] [] (q_mw h am (uM (uA (uA M2 1 (M 1)) 4 (u1 (u1 (u1 (M 4) 0 a) 1 b) 2 c)) 1 ((320 + 8 * ((M 1) 4)) + 0) d)) Q
                                        refine xv (x_aload_n 222 d_X8_order__221 rfl rfl) ?_
                                        refine xv (x_getfield 225 d_X8_order__222 rfl f_8_9 (Nat.le_of_ble_eq_true rfl) (Nat.le_of_ble_eq_true rfl) (q_gf_of m_o rfl)) ?_
                                        refine xv (x_iload 227 d_X8_order__225 rfl rfl) ?_
                                        refine xv (x_ins1 230 (as := [Value.int (zi ((M 1) 4))]) d_X8_order__227 rfl c_8_106 rfl (Nat.le_of_ble_eq_true rfl) (Nat.le_of_ble_eq_true rfl) (Nat.le_of_ble_eq_true rfl) rfl (S_X8_order (E := E) (h := h) (am := am) (M := (uM (uA (uA M2 1 (M 1)) 4 (u1 (u1 (u1 (M 4) 0 a) 1 b) 2 c)) 1 ((320 + 8 * ((M 1) 4)) + 0) d)))) ?_
                                        show Xv E q_m_X8_order_ 230 [Value.ref am, Value.int (zi d), Value.int (zi a), Value.int (zi b), Value.int (zi c), Value.int (zi 2), Value.int (zi ((M 1) 4))] [Value.int (zi (320 + 8 * ((M 1) 4))), Value.ref (am + 1)] (q_mw h am (uM (uA (uA M2 1 (M 1)) 4 (u1 (u1 (u1 (M 4) 0 a) 1 b) 2 c)) 1 ((320 + 8 * ((M 1) 4)) + 0) d)) Q
                                        refine xv (x_iconst 231 d_X8_order__230 rfl) ?_
                                        refine xv (x_iadd 232 d_X8_order__231 rfl) ?_
                                        refine xv (x_iload 234 d_X8_order__232 rfl rfl) ?_
                                        refine xv (x_iastore 235 d_X8_order__234 rfl (m_s1 (by omega) (by omega))) ?_
                                        show Xv E q_m_X8_order_ 235 [Value.ref am, Value.int (zi d), Value.int (zi a), Value.int (zi b), Value.int (zi c), Value.int (zi 2), Value.int (zi ((M 1) 4))] [] (q_mw h am (uM (uM (uA (uA M2 1 (M 1)) 4 (u1 (u1 (u1 (M 4) 0 a) 1 b) 2 c)) 1 ((320 + 8 * ((M 1) 4)) + 0) d) 1 ((320 + 8 * ((M 1) 4)) + 1) 2)) Q
                                        refine xv (x_aload_n 236 d_X8_order__235 rfl rfl) ?_
                                        refine xv (x_getfield 239 d_X8_order__236 rfl f_8_9 (Nat.le_of_ble_eq_true rfl) (Nat.le_of_ble_eq_true rfl) (q_gf_of m_o rfl)) ?_
                                        refine xv (x_iload 241 d_X8_order__239 rfl rfl) ?_
                                        refine xv (x_ins1 244 (as := [Value.int (zi ((M 1) 4))]) d_X8_order__241 rfl c_8_106 rfl (Nat.le_of_ble_eq_true rfl) (Nat.le_of_ble_eq_true rfl) (Nat.le_of_ble_eq_true rfl) rfl (S_X8_order (E := E) (h := h) (am := am) (M := (uM (uM (uA (uA M2 1 (M 1)) 4 (u1 (u1 (u1 (M 4) 0 a) 1 b) 2 c)) 1 ((320 + 8 * ((M 1) 4)) + 0) d) 1 ((320 + 8 * ((M 1) 4)) + 1) 2)))) ?_
                                        show Xv E q_m_X8_order_ 244 [Value.ref am, Value.int (zi d), Value.int (zi a), Value.int (zi b), Value.int (zi c), Value.int (zi 2), Value.int (zi ((M 1) 4))] [Value.int (zi (320 + 8 * ((M 1) 4))), Value.ref (am + 1)] (q_mw h am (uM (uM (uA (uA M2 1 (M 1)) 4 (u1 (u1 (u1 (M 4) 0 a) 1 b) 2 c)) 1 ((320 + 8 * ((M 1) 4)) + 0) d) 1 ((320 + 8 * ((M 1) 4)) + 1) 2)) Q
                                        refine xv (x_iconst 245 d_X8_order__244 rfl) ?_
                                        refine xv (x_iadd 246 d_X8_order__245 rfl) ?_
                                        refine xv (x_iconst 247 d_X8_order__246 rfl) ?_
                                        refine xv (x_iastore 248 d_X8_order__247 rfl (m_s1 (by omega) (by omega))) ?_
                                        show Xv E q_m_X8_order_ 248 [Value.ref am, Value.int (zi d), Value.int (zi a), Value.int (zi b), Value.int (zi c), Value.int (zi 2), Value.int (zi ((M 1) 4))] [] (q_mw h am (uM (uM (uM (uA (uA M2 1 (M 1)) 4 (u1 (u1 (u1 (M 4) 0 a) 1 b) 2 c)) 1 ((320 + 8 * ((M 1) 4)) + 0) d) 1 ((320 + 8 * ((M 1) 4)) + 1) 2) 1 ((320 + 8 * ((M 1) 4)) + 2) 0)) Q
                                        refine xv (x_aload_n 249 d_X8_order__248 rfl rfl) ?_
                                        refine xv (x_getfield 252 d_X8_order__249 rfl f_8_9 (Nat.le_of_ble_eq_true rfl) (Nat.le_of_ble_eq_true rfl) (q_gf_of m_o rfl)) ?_
                                        refine xv (x_iload 254 d_X8_order__252 rfl rfl) ?_
                                        refine xv (x_ins1 257 (as := [Value.int (zi ((M 1) 4))]) d_X8_order__254 rfl c_8_106 rfl (Nat.le_of_ble_eq_true rfl) (Nat.le_of_ble_eq_true rfl) (Nat.le_of_ble_eq_true rfl) rfl (S_X8_order (E := E) (h := h) (am := am) (M := (uM (uM (uM (uA (uA M2 1 (M 1)) 4 (u1 (u1 (u1 (M 4) 0 a) 1 b) 2 c)) 1 ((320 + 8 * ((M 1) 4)) + 0) d) 1 ((320 + 8 * ((M 1) 4)) + 1) 2) 1 ((320 + 8 * ((M 1) 4)) + 2) 0)))) ?_
                                        show Xv E q_m_X8_order_ 257 [Value.ref am, Value.int (zi d), Value.int (zi a), Value.int (zi b), Value.int (zi c), Value.int (zi 2), Value.int (zi ((M 1) 4))] [Value.int (zi (320 + 8 * ((M 1) 4))), Value.ref (am + 1)] (q_mw h am (uM (uM (uM (uA (uA M2 1 (M 1)) 4 (u1 (u1 (u1 (M 4) 0 a) 1 b) 2 c)) 1 ((320 + 8 * ((M 1) 4)) + 0) d) 1 ((320 + 8 * ((M 1) 4)) + 1) 2) 1 ((320 + 8 * ((M 1) 4)) + 2) 0)) Q
                                        refine xv (x_iconst 258 d_X8_order__257 rfl) ?_
                                        refine xv (x_iadd 259 d_X8_order__258 rfl) ?_
                                        refine xv (x_iconst 260 d_X8_order__259 rfl) ?_
                                        refine xv (x_iastore 261 d_X8_order__260 rfl (m_s1 (by omega) (by omega))) ?_
                                        show Xv E q_m_X8_order_ 261 [Value.ref am, Value.int (zi d), Value.int (zi a), Value.int (zi b), Value.int (zi c), Value.int (zi 2), Value.int (zi ((M 1) 4))] [] (q_mw h am (uM (uM (uM (uM (uA (uA M2 1 (M 1)) 4 (u1 (u1 (u1 (M 4) 0 a) 1 b) 2 c)) 1 ((320 + 8 * ((M 1) 4)) + 0) d) 1 ((320 + 8 * ((M 1) 4)) + 1) 2) 1 ((320 + 8 * ((M 1) 4)) + 2) 0) 1 ((320 + 8 * ((M 1) 4)) + 3) (-1))) Q
                                        refine xv (x_aload_n 262 d_X8_order__261 rfl rfl) ?_
                                        refine xv (x_getfield 265 d_X8_order__262 rfl f_8_9 (Nat.le_of_ble_eq_true rfl) (Nat.le_of_ble_eq_true rfl) (q_gf_of m_o rfl)) ?_
                                        refine xv (x_iload 267 d_X8_order__265 rfl rfl) ?_
                                        refine xv (x_ins1 270 (as := [Value.int (zi ((M 1) 4))]) d_X8_order__267 rfl c_8_106 rfl (Nat.le_of_ble_eq_true rfl) (Nat.le_of_ble_eq_true rfl) (Nat.le_of_ble_eq_true rfl) rfl (S_X8_order (E := E) (h := h) (am := am) (M := (uM (uM (uM (uM (uA (uA M2 1 (M 1)) 4 (u1 (u1 (u1 (M 4) 0 a) 1 b) 2 c)) 1 ((320 + 8 * ((M 1) 4)) + 0) d) 1 ((320 + 8 * ((M 1) 4)) + 1) 2) 1 ((320 + 8 * ((M 1) 4)) + 2) 0) 1 ((320 + 8 * ((M 1) 4)) + 3) (-1))))) ?_
                                        show Xv E q_m_X8_order_ 270 [Value.ref am, Value.int (zi d), Value.int (zi a), Value.int (zi b), Value.int (zi c), Value.int (zi 2), Value.int (zi ((M 1) 4))] [Value.int (zi (320 + 8 * ((M 1) 4))), Value.ref (am + 1)] (q_mw h am (uM (uM (uM (uM (uA (uA M2 1 (M 1)) 4 (u1 (u1 (u1 (M 4) 0 a) 1 b) 2 c)) 1 ((320 + 8 * ((M 1) 4)) + 0) d) 1 ((320 + 8 * ((M 1) 4)) + 1) 2) 1 ((320 + 8 * ((M 1) 4)) + 2) 0) 1 ((320 + 8 * ((M 1) 4)) + 3) (-1))) Q
                                        refine xv (x_iconst 271 d_X8_order__270 rfl) ?_
                                        refine xv (x_iadd 272 d_X8_order__271 rfl) ?_
                                        refine xv (x_iconst 273 d_X8_order__272 rfl) ?_
                                        refine xv (x_iastore 274 d_X8_order__273 rfl (m_s1 (by omega) (by omega))) ?_
                                        show Xv E q_m_X8_order_ 274 [Value.ref am, Value.int (zi d), Value.int (zi a), Value.int (zi b), Value.int (zi c), Value.int (zi 2), Value.int (zi ((M 1) 4))] [] (q_mw h am (uM (uM (uM (uM (uM (uA (uA M2 1 (M 1)) 4 (u1 (u1 (u1 (M 4) 0 a) 1 b) 2 c)) 1 ((320 + 8 * ((M 1) 4)) + 0) d) 1 ((320 + 8 * ((M 1) 4)) + 1) 2) 1 ((320 + 8 * ((M 1) 4)) + 2) 0) 1 ((320 + 8 * ((M 1) 4)) + 3) (-1)) 1 ((320 + 8 * ((M 1) 4)) + 4) (-1))) Q
                                        refine xv (x_aload_n 275 d_X8_order__274 rfl rfl) ?_
                                        refine xv (x_getfield 278 d_X8_order__275 rfl f_8_19 (Nat.le_of_ble_eq_true rfl) (Nat.le_of_ble_eq_true rfl) (q_gf_of m_o rfl)) ?_
                                        refine xv (x_iconst 279 d_X8_order__278 rfl) ?_
                                        refine xv (x_aload_n 280 d_X8_order__279 rfl rfl) ?_
                                        refine xv (x_getfield 283 d_X8_order__280 rfl f_8_9 (Nat.le_of_ble_eq_true rfl) (Nat.le_of_ble_eq_true rfl) (q_gf_of m_o rfl)) ?_
                                        refine xv (x_iload 285 d_X8_order__283 rfl rfl) ?_
                                        refine xv (x_ins1 288 (as := [Value.int (zi ((M 1) 4))]) d_X8_order__285 rfl c_8_106 rfl (Nat.le_of_ble_eq_true rfl) (Nat.le_of_ble_eq_true rfl) (Nat.le_of_ble_eq_true rfl) rfl (S_X8_order (E := E) (h := h) (am := am) (M := (uM (uM (uM (uM (uM (uA (uA M2 1 (M 1)) 4 (u1 (u1 (u1 (M 4) 0 a) 1 b) 2 c)) 1 ((320 + 8 * ((M 1) 4)) + 0) d) 1 ((320 + 8 * ((M 1) 4)) + 1) 2) 1 ((320 + 8 * ((M 1) 4)) + 2) 0) 1 ((320 + 8 * ((M 1) 4)) + 3) (-1)) 1 ((320 + 8 * ((M 1) 4)) + 4) (-1))))) ?_
                                        show Xv E q_m_X8_order_ 288 [Value.ref am, Value.int (zi d), Value.int (zi a), Value.int (zi b), Value.int (zi c), Value.int (zi 2), Value.int (zi ((M 1) 4))] [Value.int (zi (320 + 8 * ((M 1) 4))), Value.ref (am + 1), Value.int (zi 0), Value.ref (am + 4)] (q_mw h am (uM (uM (uM (uM (uM (uA (uA M2 1 (M 1)) 4 (u1 (u1 (u1 (M 4) 0 a) 1 b) 2 c)) 1 ((320 + 8 * ((M 1) 4)) + 0) d) 1 ((320 + 8 * ((M 1) 4)) + 1) 2) 1 ((320 + 8 * ((M 1) 4)) + 2) 0) 1 ((320 + 8 * ((M 1) 4)) + 3) (-1)) 1 ((320 + 8 * ((M 1) 4)) + 4) (-1))) Q
                                        refine xv (x_iconst 289 d_X8_order__288 rfl) ?_
                                        refine xv (x_iadd 290 d_X8_order__289 rfl) ?_
                                        refine xv (x_iconst 291 d_X8_order__290 rfl) ?_
                                        refine xv (x_copy 294 d_X8_order__291 rfl rfl rfl (Nat.le_of_ble_eq_true rfl) (Nat.le_of_ble_eq_true rfl) (Nat.le_of_ble_eq_true rfl) (m_cpy 4 1 m_a4 m_a1 m_w1 (by omega) (by omega) (by omega) (by omega) (by omega) (by decide) (by decide))) ?_
                                        show Xv E q_m_X8_order_ 294 [Value.ref am, Value.int (zi d), Value.int (zi a), Value.int (zi b), Value.int (zi c), Value.int (zi 2), Value.int (zi ((M 1) 4))] [] (q_mw h am (uA (uM (uM (uM (uM (uM (uA (uA M2 1 (M 1)) 4 (u1 (u1 (u1 (M 4) 0 a) 1 b) 2 c)) 1 ((320 + 8 * ((M 1) 4)) + 0) d) 1 ((320 + 8 * ((M 1) 4)) + 1) 2) 1 ((320 + 8 * ((M 1) 4)) + 2) 0) 1 ((320 + 8 * ((M 1) 4)) + 3) (-1)) 1 ((320 + 8 * ((M 1) 4)) + 4) (-1)) 1 (cpI (u1 (u1 (u1 (M 4) 0 a) 1 b) 2 c) (u1 (u1 (u1 (u1 (u1 (M 1) ((320 + 8 * ((M 1) 4)) + 0) d) ((320 + 8 * ((M 1) 4)) + 1) 2) ((320 + 8 * ((M 1) 4)) + 2) 0) ((320 + 8 * ((M 1) 4)) + 3) (-1)) ((320 + 8 * ((M 1) 4)) + 4) (-1)) 0 ((320 + 8 * ((M 1) 4)) + 5) 3))) Q
                                        refine xv (x_aload_n 295 d_X8_order__294 rfl rfl) ?_
                                        refine xv (x_getfield 298 d_X8_order__295 rfl f_8_9 (Nat.le_of_ble_eq_true rfl) (Nat.le_of_ble_eq_true rfl) (q_gf_of m_o rfl)) ?_
                                        refine xv (x_iconst 299 d_X8_order__298 rfl) ?_
                                        refine xv (x_dup2 300 d_X8_order__299 rfl rfl rfl) ?_
                                        refine xv (x_iaload 301 d_X8_order__300 rfl ((m_g1 (by omega) (by omega)).trans (rfl : _ = some (Value.int (zi ((cpI (u1 (u1 (u1 (M 4) 0 a) 1 b) 2 c) (u1 (u1 (u1 (u1 (u1 (M 1) ((320 + 8 * ((M 1) 4)) + 0) d) ((320 + 8 * ((M 1) 4)) + 1) 2) ((320 + 8 * ((M 1) 4)) + 2) 0) ((320 + 8 * ((M 1) 4)) + 3) (-1)) ((320 + 8 * ((M 1) 4)) + 4) (-1)) 0 ((320 + 8 * ((M 1) 4)) + 5) 3) 4)))))) ?_
                                        refine xv (x_iconst 302 d_X8_order__301 rfl) ?_
                                        refine xv (x_iadd 303 d_X8_order__302 rfl) ?_
                                        refine xv (x_iastore 304 d_X8_order__303 rfl (m_s1 (by omega) (by omega))) ?_
                                        show Xv E q_m_X8_order_ 304 [Value.ref am, Value.int (zi d), Value.int (zi a), Value.int (zi b), Value.int (zi c), Value.int (zi 2), Value.int (zi ((M 1) 4))] [] (q_mw h am (uM (uA (uM (uM (uM (uM (uM (uA (uA M2 1 (M 1)) 4 (u1 (u1 (u1 (M 4) 0 a) 1 b) 2 c)) 1 ((320 + 8 * ((M 1) 4)) + 0) d) 1 ((320 + 8 * ((M 1) 4)) + 1) 2) 1 ((320 + 8 * ((M 1) 4)) + 2) 0) 1 ((320 + 8 * ((M 1) 4)) + 3) (-1)) 1 ((320 + 8 * ((M 1) 4)) + 4) (-1)) 1 (cpI (u1 (u1 (u1 (M 4) 0 a) 1 b) 2 c) (u1 (u1 (u1 (u1 (u1 (M 1) ((320 + 8 * ((M 1) 4)) + 0) d) ((320 + 8 * ((M 1) 4)) + 1) 2) ((320 + 8 * ((M 1) 4)) + 2) 0) ((320 + 8 * ((M 1) 4)) + 3) (-1)) ((320 + 8 * ((M 1) 4)) + 4) (-1)) 0 ((320 + 8 * ((M 1) 4)) + 5) 3)) 1 4 (((cpI (u1 (u1 (u1 (M 4) 0 a) 1 b) 2 c) (u1 (u1 (u1 (u1 (u1 (M 1) ((320 + 8 * ((M 1) 4)) + 0) d) ((320 + 8 * ((M 1) 4)) + 1) 2) ((320 + 8 * ((M 1) 4)) + 2) 0) ((320 + 8 * ((M 1) 4)) + 3) (-1)) ((320 + 8 * ((M 1) 4)) + 4) (-1)) 0 ((320 + 8 * ((M 1) 4)) + 5) 3) 4) + 1))) Q
                                        refine xv (x_iload 306 d_X8_order__304 rfl rfl) ?_
                                        refine xv_r (x_ireturn d_X8_order__306 rfl rfl) ?_
                                        have er : mOrd (M 1) d a b c = (0, 0) := by first | (exfalso; omega) | (unfold mOrd; repeat (first | rw [if_pos (by omega)] | rw [if_neg (by omega)]))
                                        have ec : cntO b c = 2 := by first | (exfalso; omega) | (unfold cntO; repeat (first | rw [if_pos (by omega)] | rw [if_neg (by omega)]))
                                        refine hQ _ _ ?_
                                        unfold mMu2
                                        rw [er, if_pos rfl, ec]
                                        refine ⟨rfl, ?_⟩
                                        unfold lnO
                                        rw [hM2, ← eM]
                                        simp only [uM_uA, uA_uA, uA_eq]
                                        rfl
                                      · omega
                                    · refine xv (x_aload_n 177 d_X8_order__176 rfl rfl) ?_
                                      refine xv (x_bipush 179 d_X8_order__177 rfl rfl) ?_
                                      refine xv (x_aload_n 180 d_X8_order__179 rfl rfl) ?_
                                      refine xv (x_getfield 183 d_X8_order__180 rfl f_8_19 (Nat.le_of_ble_eq_true rfl) (Nat.le_of_ble_eq_true rfl) (q_gf_of m_o rfl)) ?_
                                      refine xv (x_iload 185 d_X8_order__183 rfl rfl) ?_
                                      refine xv (x_iaload 186 d_X8_order__185 rfl ((m_g4 (by omega) (by omega)).trans (rfl : _ = some (Value.int (zi b))))) ?_
                                      obtain ⟨r186, h186, e186, z186, y186⟩ := S_X8_refuse (E := E) (h := h) (am := am) (M := (uM (uM (uM (uM M 0 5 0) 4 0 a) 4 1 b) 4 2 c)) (y := 12) (z := b) 
                                      subst z186
                                      subst y186
                                      refine xv (x_inv1 189 (as := [Value.int (zi 12), Value.int (zi b)]) d_X8_order__186 rfl c_8_90 rfl (Nat.le_of_ble_eq_true rfl) (Nat.le_of_ble_eq_true rfl) m_o (Nat.le_of_ble_eq_true rfl) (Nat.le_of_ble_eq_true rfl) rfl e186) ?_
                                      show Xv E q_m_X8_order_ 189 [Value.ref am, Value.int (zi d), Value.int (zi a), Value.int (zi b), Value.int (zi c), Value.int (zi 2), Value.int (zi (0 + 1))] [Value.int (zi 0)] (q_mw h am (uM (uM (uM (uM (uM (uM (uM M 0 5 0) 4 0 a) 4 1 b) 4 2 c) 0 5 1) 0 6 12) 0 7 b)) Q
                                      refine xv_r (x_ireturn d_X8_order__189 rfl rfl) ?_
                                      have er : mOrd (M 1) d a b c = (12, b) := by first | (exfalso; omega) | (unfold mOrd; repeat (first | rw [if_pos (by omega)] | rw [if_neg (by omega)]))
                                      refine hQ _ _ ?_
                                      unfold mMu2
                                      rw [er]
                                      exact ⟨rfl, rfl⟩
                                · refine xv (x_aload_n 177 d_X8_order__176 rfl rfl) ?_
                                  refine xv (x_bipush 179 d_X8_order__177 rfl rfl) ?_
                                  refine xv (x_aload_n 180 d_X8_order__179 rfl rfl) ?_
                                  refine xv (x_getfield 183 d_X8_order__180 rfl f_8_19 (Nat.le_of_ble_eq_true rfl) (Nat.le_of_ble_eq_true rfl) (q_gf_of m_o rfl)) ?_
                                  refine xv (x_iload 185 d_X8_order__183 rfl rfl) ?_
                                  refine xv (x_iaload 186 d_X8_order__185 rfl ((m_g4 (by omega) (by omega)).trans (rfl : _ = some (Value.int (zi a))))) ?_
                                  obtain ⟨r186, h186, e186, z186, y186⟩ := S_X8_refuse (E := E) (h := h) (am := am) (M := (uM (uM (uM (uM M 0 5 0) 4 0 a) 4 1 b) 4 2 c)) (y := 12) (z := a) 
                                  subst z186
                                  subst y186
                                  refine xv (x_inv1 189 (as := [Value.int (zi 12), Value.int (zi a)]) d_X8_order__186 rfl c_8_90 rfl (Nat.le_of_ble_eq_true rfl) (Nat.le_of_ble_eq_true rfl) m_o (Nat.le_of_ble_eq_true rfl) (Nat.le_of_ble_eq_true rfl) rfl e186) ?_
                                  show Xv E q_m_X8_order_ 189 [Value.ref am, Value.int (zi d), Value.int (zi a), Value.int (zi b), Value.int (zi c), Value.int (zi 2), Value.int (zi 0)] [Value.int (zi 0)] (q_mw h am (uM (uM (uM (uM (uM (uM (uM M 0 5 0) 4 0 a) 4 1 b) 4 2 c) 0 5 1) 0 6 12) 0 7 a)) Q
                                  refine xv_r (x_ireturn d_X8_order__189 rfl rfl) ?_
                                  have er : mOrd (M 1) d a b c = (12, a) := by first | (exfalso; omega) | (unfold mOrd; repeat (first | rw [if_pos (by omega)] | rw [if_neg (by omega)]))
                                  refine hQ _ _ ?_
                                  unfold mMu2
                                  rw [er]
                                  exact ⟨rfl, rfl⟩
                            · refine xv (x_aload_n 142 d_X8_order__141 rfl rfl) ?_
                              refine xv (x_iconst 143 d_X8_order__142 rfl) ?_
                              refine xv (x_iconst 144 d_X8_order__143 rfl) ?_
                              obtain ⟨r144, h144, e144, z144, y144⟩ := S_X8_refuse (E := E) (h := h) (am := am) (M := (uM (uM (uM (uM M 0 5 0) 4 0 a) 4 1 b) 4 2 c)) (y := 3) (z := 0) 
                              subst z144
                              subst y144
                              refine xv (x_inv1 147 (as := [Value.int (zi 3), Value.int (zi 0)]) d_X8_order__144 rfl c_8_90 rfl (Nat.le_of_ble_eq_true rfl) (Nat.le_of_ble_eq_true rfl) m_o (Nat.le_of_ble_eq_true rfl) (Nat.le_of_ble_eq_true rfl) rfl e144) ?_
                              show Xv E q_m_X8_order_ 147 [Value.ref am, Value.int (zi d), Value.int (zi a), Value.int (zi b), Value.int (zi c), Value.int (zi 2), Value.int (zi (((0 + 1) + 1) + 1))] [Value.int (zi 0)] (q_mw h am (uM (uM (uM (uM (uM (uM (uM M 0 5 0) 4 0 a) 4 1 b) 4 2 c) 0 5 1) 0 6 3) 0 7 0)) Q
                              refine xv_r (x_ireturn d_X8_order__147 rfl rfl) ?_
                              have er : mOrd (M 1) d a b c = (3, 0) := by first | (exfalso; omega) | (unfold mOrd; repeat (first | rw [if_pos (by omega)] | rw [if_neg (by omega)]))
                              refine hQ _ _ ?_
                              unfold mMu2
                              rw [er]
                              exact ⟨rfl, rfl⟩
                          · refine xv (x_iload 119 d_X8_order__117 rfl rfl) ?_
                            refine xv (x_iconst 120 d_X8_order__119 rfl) ?_
                            refine v_icmp_eq 130 123 d_X8_order__120 rfl rfl (by omega) (by omega) (by omega) (by omega) (fun k120 => ?_) (fun k120 => ?_)
                            · refine xv (x_aload_n 131 d_X8_order__130 rfl rfl) ?_
                              refine xv (x_getfield 134 d_X8_order__131 rfl f_8_9 (Nat.le_of_ble_eq_true rfl) (Nat.le_of_ble_eq_true rfl) (q_gf_of m_o rfl)) ?_
                              refine xv (x_iconst 135 d_X8_order__134 rfl) ?_
                              refine xv (x_iaload 136 d_X8_order__135 rfl ((m_g1 (by omega) (by omega)).trans (rfl : _ = some (Value.int (zi ((M 1) 4)))))) ?_
                              have q_53 : -1000000 ≤ (M 1) 4 ∧ (M 1) 4 ≤ 1000000 := hr _
                              refine xv (x_bipush 138 d_X8_order__136 rfl rfl) ?_
                              refine v_icmp_ne 148 141 d_X8_order__138 rfl rfl (by omega) (by omega) (by omega) (by omega) (fun k138 => ?_) (fun k138 => ?_)
                              · refine xv (x_iconst 149 d_X8_order__148 rfl) ?_
                                refine xv (x_istore 151 d_X8_order__149 rfl (Nat.le_of_ble_eq_true rfl)) ?_
                                show Xv E q_m_X8_order_ 151 [Value.ref am, Value.int (zi d), Value.int (zi a), Value.int (zi b), Value.int (zi c), Value.int (zi 2), Value.int (zi 0)] [] (q_mw h am (uM (uM (uM (uM M 0 5 0) 4 0 a) 4 1 b) 4 2 c)) Q
                                refine xv (x_iload 153 d_X8_order__151 rfl rfl) ?_
                                refine xv (x_iload 155 d_X8_order__153 rfl rfl) ?_
                                refine v_icmp_ge 196 158 d_X8_order__155 rfl rfl (by omega) (by omega) (by omega) (by omega) (fun k155 => ?_) (fun k155 => ?_)
                                · omega
                                · refine xv (x_aload_n 159 d_X8_order__158 rfl rfl) ?_
                                  refine xv (x_getfield 162 d_X8_order__159 rfl f_8_9 (Nat.le_of_ble_eq_true rfl) (Nat.le_of_ble_eq_true rfl) (q_gf_of m_o rfl)) ?_
                                  refine xv (x_bipush 164 d_X8_order__162 rfl rfl) ?_
                                  refine xv (x_aload_n 165 d_X8_order__164 rfl rfl) ?_
                                  refine xv (x_getfield 168 d_X8_order__165 rfl f_8_19 (Nat.le_of_ble_eq_true rfl) (Nat.le_of_ble_eq_true rfl) (q_gf_of m_o rfl)) ?_
                                  refine xv (x_iload 170 d_X8_order__168 rfl rfl) ?_
                                  refine xv (x_iaload 171 d_X8_order__170 rfl ((m_g4 (by omega) (by omega)).trans (rfl : _ = some (Value.int (zi a))))) ?_
                                  refine xv (x_iadd 172 d_X8_order__171 rfl) ?_
                                  refine xv (x_iaload 173 d_X8_order__172 rfl ((m_g1 (by omega) (by omega)).trans (rfl : _ = some (Value.int (zi ((M 1) (8 + a))))))) ?_
                                  have q_54 : -1000000 ≤ (M 1) (8 + a) ∧ (M 1) (8 + a) ≤ 1000000 := hr _
                                  refine v_if_eq 190 176 d_X8_order__173 rfl rfl (by omega) (by omega) (fun k173 => ?_) (fun k173 => ?_)
                                  · refine xv (x_iinc 193 d_X8_order__190 rfl rfl) ?_
                                    show Xv E q_m_X8_order_ 193 [Value.ref am, Value.int (zi d), Value.int (zi a), Value.int (zi b), Value.int (zi c), Value.int (zi 2), Value.int (zi (0 + 1))] [] (q_mw h am (uM (uM (uM (uM M 0 5 0) 4 0 a) 4 1 b) 4 2 c)) Q
                                    refine xv (x_goto 151 d_X8_order__193 rfl) ?_
                                    refine xv (x_iload 153 d_X8_order__151 rfl rfl) ?_
                                    refine xv (x_iload 155 d_X8_order__153 rfl rfl) ?_
                                    refine v_icmp_ge 196 158 d_X8_order__155 rfl rfl (by omega) (by omega) (by omega) (by omega) (fun k155 => ?_) (fun k155 => ?_)
                                    · omega
                                    · refine xv (x_aload_n 159 d_X8_order__158 rfl rfl) ?_
                                      refine xv (x_getfield 162 d_X8_order__159 rfl f_8_9 (Nat.le_of_ble_eq_true rfl) (Nat.le_of_ble_eq_true rfl) (q_gf_of m_o rfl)) ?_
                                      refine xv (x_bipush 164 d_X8_order__162 rfl rfl) ?_
                                      refine xv (x_aload_n 165 d_X8_order__164 rfl rfl) ?_
                                      refine xv (x_getfield 168 d_X8_order__165 rfl f_8_19 (Nat.le_of_ble_eq_true rfl) (Nat.le_of_ble_eq_true rfl) (q_gf_of m_o rfl)) ?_
                                      refine xv (x_iload 170 d_X8_order__168 rfl rfl) ?_
                                      refine xv (x_iaload 171 d_X8_order__170 rfl ((m_g4 (by omega) (by omega)).trans (rfl : _ = some (Value.int (zi b))))) ?_
                                      refine xv (x_iadd 172 d_X8_order__171 rfl) ?_
                                      refine xv (x_iaload 173 d_X8_order__172 rfl ((m_g1 (by omega) (by omega)).trans (rfl : _ = some (Value.int (zi ((M 1) (8 + b))))))) ?_
                                      have q_55 : -1000000 ≤ (M 1) (8 + b) ∧ (M 1) (8 + b) ≤ 1000000 := hr _
                                      refine v_if_eq 190 176 d_X8_order__173 rfl rfl (by omega) (by omega) (fun k173 => ?_) (fun k173 => ?_)
                                      · refine xv (x_iinc 193 d_X8_order__190 rfl rfl) ?_
                                        show Xv E q_m_X8_order_ 193 [Value.ref am, Value.int (zi d), Value.int (zi a), Value.int (zi b), Value.int (zi c), Value.int (zi 2), Value.int (zi ((0 + 1) + 1))] [] (q_mw h am (uM (uM (uM (uM M 0 5 0) 4 0 a) 4 1 b) 4 2 c)) Q
                                        refine xv (x_goto 151 d_X8_order__193 rfl) ?_
                                        refine xv (x_iload 153 d_X8_order__151 rfl rfl) ?_
                                        refine xv (x_iload 155 d_X8_order__153 rfl rfl) ?_
                                        refine v_icmp_ge 196 158 d_X8_order__155 rfl rfl (by omega) (by omega) (by omega) (by omega) (fun k155 => ?_) (fun k155 => ?_)
                                        · refine xv (x_aload_n 197 d_X8_order__196 rfl rfl) ?_
                                          obtain ⟨r197, h197, e197, z197, y197⟩ := S_X8_change (E := E) (h := h) (am := am) (M := (uM (uM (uM (uM M 0 5 0) 4 0 a) 4 1 b) 4 2 c)) hc
                                          subst z197
                                          subst y197
                                          refine xv (x_inv0 200 (as := []) d_X8_order__197 rfl c_8_100 rfl (Nat.le_of_ble_eq_true rfl) (Nat.le_of_ble_eq_true rfl) m_o (Nat.le_of_ble_eq_true rfl) (Nat.le_of_ble_eq_true rfl) rfl e197) ?_
                                          generalize hM2 : mch (uM (uM (uM (uM M 0 5 0) 4 0 a) 4 1 b) 4 2 c) = M2
                                          have e2 : M2 1 = M 1 := by rw [← hM2]; exact mch_1
                                          have e4 : M2 4 = (u1 (u1 (u1 (M 4) 0 a) 1 b) 2 c) := by rw [← hM2]; exact mch_s (by decide) (by decide)
                                          have eM : M2 = uA (uA M2 1 (M 1)) 4 (u1 (u1 (u1 (M 4) 0 a) 1 b) 2 c) := by rw [← e2, uA_self, ← e4, uA_self]
                                          rw [eM]
                                          show Xv E q_m_X8_order_ 200 [Value.ref am, Value.int (zi d), Value.int (zi a), Value.int (zi b), Value.int (zi c), Value.int (zi 2), Value.int (zi ((0 + 1) + 1))] [] (q_mw h am (uA (uA M2 1 (M 1)) 4 (u1 (u1 (u1 (M 4) 0 a) 1 b) 2 c))) Q
                                          refine xv (x_aload_n 201 d_X8_order__200 rfl rfl) ?_
                                          refine xv (x_getfield 204 d_X8_order__201 rfl f_8_9 (Nat.le_of_ble_eq_true rfl) (Nat.le_of_ble_eq_true rfl) (q_gf_of m_o rfl)) ?_
                                          refine xv (x_iconst 205 d_X8_order__204 rfl) ?_
                                          refine xv (x_iaload 206 d_X8_order__205 rfl ((m_g1 (by omega) (by omega)).trans (rfl : _ = some (Value.int (zi ((M 1) 4)))))) ?_
                                          have q_56 : -1000000 ≤ (M 1) 4 ∧ (M 1) 4 ≤ 1000000 := hr _
                                          refine xv (x_istore 208 d_X8_order__206 rfl (Nat.le_of_ble_eq_true rfl)) ?_
                                          show Xv E q_m_X8_order_ 208 [Value.ref am, Value.int (zi d), Value.int (zi a), Value.int (zi b), Value.int (zi c), Value.int (zi 2), Value.int (zi ((M 1) 4))] [] (q_mw h am (uA (uA M2 1 (M 1)) 4 (u1 (u1 (u1 (M 4) 0 a) 1 b) 2 c))) Q
                                          refine xv (x_aload_n 209 d_X8_order__208 rfl rfl) ?_
                                          refine xv (x_getfield 212 d_X8_order__209 rfl f_8_9 (Nat.le_of_ble_eq_true rfl) (Nat.le_of_ble_eq_true rfl) (q_gf_of m_o rfl)) ?_
                                          refine xv (x_iload 214 d_X8_order__212 rfl rfl) ?_
                                          refine xv (x_ins1 217 (as := [Value.int (zi ((M 1) 4))]) d_X8_order__214 rfl c_8_106 rfl (Nat.le_of_ble_eq_true rfl) (Nat.le_of_ble_eq_true rfl) (Nat.le_of_ble_eq_true rfl) rfl (S_X8_order (E := E) (h := h) (am := am) (M := (uA (uA M2 1 (M 1)) 4 (u1 (u1 (u1 (M 4) 0 a) 1 b) 2 c))))) ?_
                                          show Xv E q_m_X8_order_ 217 [Value.ref am, Value.int (zi d), Value.int (zi a), Value.int (zi b), Value.int (zi c), Value.int (zi 2), Value.int (zi ((M 1) 4))] [Value.int (zi (320 + 8 * ((M 1) 4))), Value.ref (am + 1)] (q_mw h am (uA (uA M2 1 (M 1)) 4 (u1 (u1 (u1 (M 4) 0 a) 1 b) 2 c))) Q
                                          refine xv (x_iconst 218 d_X8_order__217 rfl) ?_
                                          refine xv (x_iadd 219 d_X8_order__218 rfl) ?_
                                          refine xv (x_iload_n 220 d_X8_order__219 rfl rfl) ?_
                                          refine xv (x_iastore 221 d_X8_order__220 rfl (m_s1 (by omega) (by omega))) ?_
                                          show Xv E q_m_X8_order_ 221 [Value.ref am, Value.int (zi d), Value.int (zi a), Value.int (zi b), Value.int (zi c), Value.int (zi 2), Value.int (zi ((M 1) 4))] [] (q_mw h am (uM (uA (uA M2 1 (M 1)) 4 (u1 (u1 (u1 (M 4) 0 a) 1 b) 2 c)) 1 ((320 + 8 * ((M 1) 4)) + 0) d)) Q
                                          refine xv (x_aload_n 222 d_X8_order__221 rfl rfl) ?_
                                          refine xv (x_getfield 225 d_X8_order__222 rfl f_8_9 (Nat.le_of_ble_eq_true rfl) (Nat.le_of_ble_eq_true rfl) (q_gf_of m_o rfl)) ?_
                                          refine xv (x_iload 227 d_X8_order__225 rfl rfl) ?_
                                          refine xv (x_ins1 230 (as := [Value.int (zi ((M 1) 4))]) d_X8_order__227 rfl c_8_106 rfl (Nat.le_of_ble_eq_true rfl) (Nat.le_of_ble_eq_true rfl) (Nat.le_of_ble_eq_true rfl) rfl (S_X8_order (E := E) (h := h) (am := am) (M := (uM (uA (uA M2 1 (M 1)) 4 (u1 (u1 (u1 (M 4) 0 a) 1 b) 2 c)) 1 ((320 + 8 * ((M 1) 4)) + 0) d)))) ?_
                                          show Xv E q_m_X8_order_ 230 [Value.ref am, Value.int (zi d), Value.int (zi a), Value.int (zi b), Value.int (zi c), Value.int (zi 2), Value.int (zi ((M 1) 4))] [Value.int (zi (320 + 8 * ((M 1) 4))), Value.ref (am + 1)] (q_mw h am (uM (uA (uA M2 1 (M 1)) 4 (u1 (u1 (u1 (M 4) 0 a) 1 b) 2 c)) 1 ((320 + 8 * ((M 1) 4)) + 0) d)) Q
                                          refine xv (x_iconst 231 d_X8_order__230 rfl) ?_
                                          refine xv (x_iadd 232 d_X8_order__231 rfl) ?_
                                          refine xv (x_iload 234 d_X8_order__232 rfl rfl) ?_
                                          refine xv (x_iastore 235 d_X8_order__234 rfl (m_s1 (by omega) (by omega))) ?_
                                          show Xv E q_m_X8_order_ 235 [Value.ref am, Value.int (zi d), Value.int (zi a), Value.int (zi b), Value.int (zi c), Value.int (zi 2), Value.int (zi ((M 1) 4))] [] (q_mw h am (uM (uM (uA (uA M2 1 (M 1)) 4 (u1 (u1 (u1 (M 4) 0 a) 1 b) 2 c)) 1 ((320 + 8 * ((M 1) 4)) + 0) d) 1 ((320 + 8 * ((M 1) 4)) + 1) 2)) Q
                                          refine xv (x_aload_n 236 d_X8_order__235 rfl rfl) ?_
                                          refine xv (x_getfield 239 d_X8_order__236 rfl f_8_9 (Nat.le_of_ble_eq_true rfl) (Nat.le_of_ble_eq_true rfl) (q_gf_of m_o rfl)) ?_
                                          refine xv (x_iload 241 d_X8_order__239 rfl rfl) ?_
                                          refine xv (x_ins1 244 (as := [Value.int (zi ((M 1) 4))]) d_X8_order__241 rfl c_8_106 rfl (Nat.le_of_ble_eq_true rfl) (Nat.le_of_ble_eq_true rfl) (Nat.le_of_ble_eq_true rfl) rfl (S_X8_order (E := E) (h := h) (am := am) (M := (uM (uM (uA (uA M2 1 (M 1)) 4 (u1 (u1 (u1 (M 4) 0 a) 1 b) 2 c)) 1 ((320 + 8 * ((M 1) 4)) + 0) d) 1 ((320 + 8 * ((M 1) 4)) + 1) 2)))) ?_
                                          show Xv E q_m_X8_order_ 244 [Value.ref am, Value.int (zi d), Value.int (zi a), Value.int (zi b), Value.int (zi c), Value.int (zi 2), Value.int (zi ((M 1) 4))] [Value.int (zi (320 + 8 * ((M 1) 4))), Value.ref (am + 1)] (q_mw h am (uM (uM (uA (uA M2 1 (M 1)) 4 (u1 (u1 (u1 (M 4) 0 a) 1 b) 2 c)) 1 ((320 + 8 * ((M 1) 4)) + 0) d) 1 ((320 + 8 * ((M 1) 4)) + 1) 2)) Q
                                          refine xv (x_iconst 245 d_X8_order__244 rfl) ?_
                                          refine xv (x_iadd 246 d_X8_order__245 rfl) ?_
                                          refine xv (x_iconst 247 d_X8_order__246 rfl) ?_
                                          refine xv (x_iastore 248 d_X8_order__247 rfl (m_s1 (by omega) (by omega))) ?_
                                          show Xv E q_m_X8_order_ 248 [Value.ref am, Value.int (zi d), Value.int (zi a), Value.int (zi b), Value.int (zi c), Value.int (zi 2), Value.int (zi ((M 1) 4))] [] (q_mw h am (uM (uM (uM (uA (uA M2 1 (M 1)) 4 (u1 (u1 (u1 (M 4) 0 a) 1 b) 2 c)) 1 ((320 + 8 * ((M 1) 4)) + 0) d) 1 ((320 + 8 * ((M 1) 4)) + 1) 2) 1 ((320 + 8 * ((M 1) 4)) + 2) 0)) Q
                                          refine xv (x_aload_n 249 d_X8_order__248 rfl rfl) ?_
                                          refine xv (x_getfield 252 d_X8_order__249 rfl f_8_9 (Nat.le_of_ble_eq_true rfl) (Nat.le_of_ble_eq_true rfl) (q_gf_of m_o rfl)) ?_
                                          refine xv (x_iload 254 d_X8_order__252 rfl rfl) ?_
                                          refine xv (x_ins1 257 (as := [Value.int (zi ((M 1) 4))]) d_X8_order__254 rfl c_8_106 rfl (Nat.le_of_ble_eq_true rfl) (Nat.le_of_ble_eq_true rfl) (Nat.le_of_ble_eq_true rfl) rfl (S_X8_order (E := E) (h := h) (am := am) (M := (uM (uM (uM (uA (uA M2 1 (M 1)) 4 (u1 (u1 (u1 (M 4) 0 a) 1 b) 2 c)) 1 ((320 + 8 * ((M 1) 4)) + 0) d) 1 ((320 + 8 * ((M 1) 4)) + 1) 2) 1 ((320 + 8 * ((M 1) 4)) + 2) 0)))) ?_
                                          show Xv E q_m_X8_order_ 257 [Value.ref am, Value.int (zi d), Value.int (zi a), Value.int (zi b), Value.int (zi c), Value.int (zi 2), Value.int (zi ((M 1) 4))] [Value.int (zi (320 + 8 * ((M 1) 4))), Value.ref (am + 1)] (q_mw h am (uM (uM (uM (uA (uA M2 1 (M 1)) 4 (u1 (u1 (u1 (M 4) 0 a) 1 b) 2 c)) 1 ((320 + 8 * ((M 1) 4)) + 0) d) 1 ((320 + 8 * ((M 1) 4)) + 1) 2) 1 ((320 + 8 * ((M 1) 4)) + 2) 0)) Q
                                          refine xv (x_iconst 258 d_X8_order__257 rfl) ?_
                                          refine xv (x_iadd 259 d_X8_order__258 rfl) ?_
                                          refine xv (x_iconst 260 d_X8_order__259 rfl) ?_
                                          refine xv (x_iastore 261 d_X8_order__260 rfl (m_s1 (by omega) (by omega))) ?_
                                          show Xv E q_m_X8_order_ 261 [Value.ref am, Value.int (zi d), Value.int (zi a), Value.int (zi b), Value.int (zi c), Value.int (zi 2), Value.int (zi ((M 1) 4))] [] (q_mw h am (uM (uM (uM (uM (uA (uA M2 1 (M 1)) 4 (u1 (u1 (u1 (M 4) 0 a) 1 b) 2 c)) 1 ((320 + 8 * ((M 1) 4)) + 0) d) 1 ((320 + 8 * ((M 1) 4)) + 1) 2) 1 ((320 + 8 * ((M 1) 4)) + 2) 0) 1 ((320 + 8 * ((M 1) 4)) + 3) (-1))) Q
                                          refine xv (x_aload_n 262 d_X8_order__261 rfl rfl) ?_
                                          refine xv (x_getfield 265 d_X8_order__262 rfl f_8_9 (Nat.le_of_ble_eq_true rfl) (Nat.le_of_ble_eq_true rfl) (q_gf_of m_o rfl)) ?_
                                          refine xv (x_iload 267 d_X8_order__265 rfl rfl) ?_
                                          refine xv (x_ins1 270 (as := [Value.int (zi ((M 1) 4))]) d_X8_order__267 rfl c_8_106 rfl (Nat.le_of_ble_eq_true rfl) (Nat.le_of_ble_eq_true rfl) (Nat.le_of_ble_eq_true rfl) rfl (S_X8_order (E := E) (h := h) (am := am) (M := (uM (uM (uM (uM (uA (uA M2 1 (M 1)) 4 (u1 (u1 (u1 (M 4) 0 a) 1 b) 2 c)) 1 ((320 + 8 * ((M 1) 4)) + 0) d) 1 ((320 + 8 * ((M 1) 4)) + 1) 2) 1 ((320 + 8 * ((M 1) 4)) + 2) 0) 1 ((320 + 8 * ((M 1) 4)) + 3) (-1))))) ?_
                                          show Xv E q_m_X8_order_ 270 [Value.ref am, Value.int (zi d), Value.int (zi a), Value.int (zi b), Value.int (zi c), Value.int (zi 2), Value.int (zi ((M 1) 4))] [Value.int (zi (320 + 8 * ((M 1) 4))), Value.ref (am + 1)] (q_mw h am (uM (uM (uM (uM (uA (uA M2 1 (M 1)) 4 (u1 (u1 (u1 (M 4) 0 a) 1 b) 2 c)) 1 ((320 + 8 * ((M 1) 4)) + 0) d) 1 ((320 + 8 * ((M 1) 4)) + 1) 2) 1 ((320 + 8 * ((M 1) 4)) + 2) 0) 1 ((320 + 8 * ((M 1) 4)) + 3) (-1))) Q
                                          refine xv (x_iconst 271 d_X8_order__270 rfl) ?_
                                          refine xv (x_iadd 272 d_X8_order__271 rfl) ?_
                                          refine xv (x_iconst 273 d_X8_order__272 rfl) ?_
                                          refine xv (x_iastore 274 d_X8_order__273 rfl (m_s1 (by omega) (by omega))) ?_
                                          show Xv E q_m_X8_order_ 274 [Value.ref am, Value.int (zi d), Value.int (zi a), Value.int (zi b), Value.int (zi c), Value.int (zi 2), Value.int (zi ((M 1) 4))] [] (q_mw h am (uM (uM (uM (uM (uM (uA (uA M2 1 (M 1)) 4 (u1 (u1 (u1 (M 4) 0 a) 1 b) 2 c)) 1 ((320 + 8 * ((M 1) 4)) + 0) d) 1 ((320 + 8 * ((M 1) 4)) + 1) 2) 1 ((320 + 8 * ((M 1) 4)) + 2) 0) 1 ((320 + 8 * ((M 1) 4)) + 3) (-1)) 1 ((320 + 8 * ((M 1) 4)) + 4) (-1))) Q
                                          refine xv (x_aload_n 275 d_X8_order__274 rfl rfl) ?_
                                          refine xv (x_getfield 278 d_X8_order__275 rfl f_8_19 (Nat.le_of_ble_eq_true rfl) (Nat.le_of_ble_eq_true rfl) (q_gf_of m_o rfl)) ?_
                                          refine xv (x_iconst 279 d_X8_order__278 rfl) ?_
                                          refine xv (x_aload_n 280 d_X8_order__279 rfl rfl) ?_
                                          refine xv (x_getfield 283 d_X8_order__280 rfl f_8_9 (Nat.le_of_ble_eq_true rfl) (Nat.le_of_ble_eq_true rfl) (q_gf_of m_o rfl)) ?_
                                          refine xv (x_iload 285 d_X8_order__283 rfl rfl) ?_
                                          refine xv (x_ins1 288 (as := [Value.int (zi ((M 1) 4))]) d_X8_order__285 rfl c_8_106 rfl (Nat.le_of_ble_eq_true rfl) (Nat.le_of_ble_eq_true rfl) (Nat.le_of_ble_eq_true rfl) rfl (S_X8_order (E := E) (h := h) (am := am) (M := (uM (uM (uM (uM (uM (uA (uA M2 1 (M 1)) 4 (u1 (u1 (u1 (M 4) 0 a) 1 b) 2 c)) 1 ((320 + 8 * ((M 1) 4)) + 0) d) 1 ((320 + 8 * ((M 1) 4)) + 1) 2) 1 ((320 + 8 * ((M 1) 4)) + 2) 0) 1 ((320 + 8 * ((M 1) 4)) + 3) (-1)) 1 ((320 + 8 * ((M 1) 4)) + 4) (-1))))) ?_
                                          show Xv E q_m_X8_order_ 288 [Value.ref am, Value.int (zi d), Value.int (zi a), Value.int (zi b), Value.int (zi c), Value.int (zi 2), Value.int (zi ((M 1) 4))] [Value.int (zi (320 + 8 * ((M 1) 4))), Value.ref (am + 1), Value.int (zi 0), Value.ref (am + 4)] (q_mw h am (uM (uM (uM (uM (uM (uA (uA M2 1 (M 1)) 4 (u1 (u1 (u1 (M 4) 0 a) 1 b) 2 c)) 1 ((320 + 8 * ((M 1) 4)) + 0) d) 1 ((320 + 8 * ((M 1) 4)) + 1) 2) 1 ((320 + 8 * ((M 1) 4)) + 2) 0) 1 ((320 + 8 * ((M 1) 4)) + 3) (-1)) 1 ((320 + 8 * ((M 1) 4)) + 4) (-1))) Q
                                          refine xv (x_iconst 289 d_X8_order__288 rfl) ?_
                                          refine xv (x_iadd 290 d_X8_order__289 rfl) ?_
                                          refine xv (x_iconst 291 d_X8_order__290 rfl) ?_
                                          refine xv (x_copy 294 d_X8_order__291 rfl rfl rfl (Nat.le_of_ble_eq_true rfl) (Nat.le_of_ble_eq_true rfl) (Nat.le_of_ble_eq_true rfl) (m_cpy 4 1 m_a4 m_a1 m_w1 (by omega) (by omega) (by omega) (by omega) (by omega) (by decide) (by decide))) ?_
                                          show Xv E q_m_X8_order_ 294 [Value.ref am, Value.int (zi d), Value.int (zi a), Value.int (zi b), Value.int (zi c), Value.int (zi 2), Value.int (zi ((M 1) 4))] [] (q_mw h am (uA (uM (uM (uM (uM (uM (uA (uA M2 1 (M 1)) 4 (u1 (u1 (u1 (M 4) 0 a) 1 b) 2 c)) 1 ((320 + 8 * ((M 1) 4)) + 0) d) 1 ((320 + 8 * ((M 1) 4)) + 1) 2) 1 ((320 + 8 * ((M 1) 4)) + 2) 0) 1 ((320 + 8 * ((M 1) 4)) + 3) (-1)) 1 ((320 + 8 * ((M 1) 4)) + 4) (-1)) 1 (cpI (u1 (u1 (u1 (M 4) 0 a) 1 b) 2 c) (u1 (u1 (u1 (u1 (u1 (M 1) ((320 + 8 * ((M 1) 4)) + 0) d) ((320 + 8 * ((M 1) 4)) + 1) 2) ((320 + 8 * ((M 1) 4)) + 2) 0) ((320 + 8 * ((M 1) 4)) + 3) (-1)) ((320 + 8 * ((M 1) 4)) + 4) (-1)) 0 ((320 + 8 * ((M 1) 4)) + 5) 3))) Q
                                          refine xv (x_aload_n 295 d_X8_order__294 rfl rfl) ?_
                                          refine xv (x_getfield 298 d_X8_order__295 rfl f_8_9 (Nat.le_of_ble_eq_true rfl) (Nat.le_of_ble_eq_true rfl) (q_gf_of m_o rfl)) ?_
                                          refine xv (x_iconst 299 d_X8_order__298 rfl) ?_
                                          refine xv (x_dup2 300 d_X8_order__299 rfl rfl rfl) ?_
                                          refine xv (x_iaload 301 d_X8_order__300 rfl ((m_g1 (by omega) (by omega)).trans (rfl : _ = some (Value.int (zi ((cpI (u1 (u1 (u1 (M 4) 0 a) 1 b) 2 c) (u1 (u1 (u1 (u1 (u1 (M 1) ((320 + 8 * ((M 1) 4)) + 0) d) ((320 + 8 * ((M 1) 4)) + 1) 2) ((320 + 8 * ((M 1) 4)) + 2) 0) ((320 + 8 * ((M 1) 4)) + 3) (-1)) ((320 + 8 * ((M 1) 4)) + 4) (-1)) 0 ((320 + 8 * ((M 1) 4)) + 5) 3) 4)))))) ?_
                                          refine xv (x_iconst 302 d_X8_order__301 rfl) ?_
                                          refine xv (x_iadd 303 d_X8_order__302 rfl) ?_
                                          refine xv (x_iastore 304 d_X8_order__303 rfl (m_s1 (by omega) (by omega))) ?_
                                          show Xv E q_m_X8_order_ 304 [Value.ref am, Value.int (zi d), Value.int (zi a), Value.int (zi b), Value.int (zi c), Value.int (zi 2), Value.int (zi ((M 1) 4))] [] (q_mw h am (uM (uA (uM (uM (uM (uM (uM (uA (uA M2 1 (M 1)) 4 (u1 (u1 (u1 (M 4) 0 a) 1 b) 2 c)) 1 ((320 + 8 * ((M 1) 4)) + 0) d) 1 ((320 + 8 * ((M 1) 4)) + 1) 2) 1 ((320 + 8 * ((M 1) 4)) + 2) 0) 1 ((320 + 8 * ((M 1) 4)) + 3) (-1)) 1 ((320 + 8 * ((M 1) 4)) + 4) (-1)) 1 (cpI (u1 (u1 (u1 (M 4) 0 a) 1 b) 2 c) (u1 (u1 (u1 (u1 (u1 (M 1) ((320 + 8 * ((M 1) 4)) + 0) d) ((320 + 8 * ((M 1) 4)) + 1) 2) ((320 + 8 * ((M 1) 4)) + 2) 0) ((320 + 8 * ((M 1) 4)) + 3) (-1)) ((320 + 8 * ((M 1) 4)) + 4) (-1)) 0 ((320 + 8 * ((M 1) 4)) + 5) 3)) 1 4 (((cpI (u1 (u1 (u1 (M 4) 0 a) 1 b) 2 c) (u1 (u1 (u1 (u1 (u1 (M 1) ((320 + 8 * ((M 1) 4)) + 0) d) ((320 + 8 * ((M 1) 4)) + 1) 2) ((320 + 8 * ((M 1) 4)) + 2) 0) ((320 + 8 * ((M 1) 4)) + 3) (-1)) ((320 + 8 * ((M 1) 4)) + 4) (-1)) 0 ((320 + 8 * ((M 1) 4)) + 5) 3) 4) + 1))) Q
                                          refine xv (x_iload 306 d_X8_order__304 rfl rfl) ?_
                                          refine xv_r (x_ireturn d_X8_order__306 rfl rfl) ?_
                                          have er : mOrd (M 1) d a b c = (0, 0) := by first | (exfalso; omega) | (unfold mOrd; repeat (first | rw [if_pos (by omega)] | rw [if_neg (by omega)]))
                                          have ec : cntO b c = 2 := by first | (exfalso; omega) | (unfold cntO; repeat (first | rw [if_pos (by omega)] | rw [if_neg (by omega)]))
                                          refine hQ _ _ ?_
                                          unfold mMu2
                                          rw [er, if_pos rfl, ec]
                                          refine ⟨rfl, ?_⟩
                                          unfold lnO
                                          rw [hM2, ← eM]
                                          simp only [uM_uA, uA_uA, uA_eq]
                                          rfl
                                        · omega
                                      · refine xv (x_aload_n 177 d_X8_order__176 rfl rfl) ?_
                                        refine xv (x_bipush 179 d_X8_order__177 rfl rfl) ?_
                                        refine xv (x_aload_n 180 d_X8_order__179 rfl rfl) ?_
                                        refine xv (x_getfield 183 d_X8_order__180 rfl f_8_19 (Nat.le_of_ble_eq_true rfl) (Nat.le_of_ble_eq_true rfl) (q_gf_of m_o rfl)) ?_
                                        refine xv (x_iload 185 d_X8_order__183 rfl rfl) ?_
                                        refine xv (x_iaload 186 d_X8_order__185 rfl ((m_g4 (by omega) (by omega)).trans (rfl : _ = some (Value.int (zi b))))) ?_
                                        obtain ⟨r186, h186, e186, z186, y186⟩ := S_X8_refuse (E := E) (h := h) (am := am) (M := (uM (uM (uM (uM M 0 5 0) 4 0 a) 4 1 b) 4 2 c)) (y := 12) (z := b) 
                                        subst z186
                                        subst y186
                                        refine xv (x_inv1 189 (as := [Value.int (zi 12), Value.int (zi b)]) d_X8_order__186 rfl c_8_90 rfl (Nat.le_of_ble_eq_true rfl) (Nat.le_of_ble_eq_true rfl) m_o (Nat.le_of_ble_eq_true rfl) (Nat.le_of_ble_eq_true rfl) rfl e186) ?_
                                        show Xv E q_m_X8_order_ 189 [Value.ref am, Value.int (zi d), Value.int (zi a), Value.int (zi b), Value.int (zi c), Value.int (zi 2), Value.int (zi (0 + 1))] [Value.int (zi 0)] (q_mw h am (uM (uM (uM (uM (uM (uM (uM M 0 5 0) 4 0 a) 4 1 b) 4 2 c) 0 5 1) 0 6 12) 0 7 b)) Q
                                        refine xv_r (x_ireturn d_X8_order__189 rfl rfl) ?_
                                        have er : mOrd (M 1) d a b c = (12, b) := by first | (exfalso; omega) | (unfold mOrd; repeat (first | rw [if_pos (by omega)] | rw [if_neg (by omega)]))
                                        refine hQ _ _ ?_
                                        unfold mMu2
                                        rw [er]
                                        exact ⟨rfl, rfl⟩
                                  · refine xv (x_aload_n 177 d_X8_order__176 rfl rfl) ?_
                                    refine xv (x_bipush 179 d_X8_order__177 rfl rfl) ?_
                                    refine xv (x_aload_n 180 d_X8_order__179 rfl rfl) ?_
                                    refine xv (x_getfield 183 d_X8_order__180 rfl f_8_19 (Nat.le_of_ble_eq_true rfl) (Nat.le_of_ble_eq_true rfl) (q_gf_of m_o rfl)) ?_
                                    refine xv (x_iload 185 d_X8_order__183 rfl rfl) ?_
                                    refine xv (x_iaload 186 d_X8_order__185 rfl ((m_g4 (by omega) (by omega)).trans (rfl : _ = some (Value.int (zi a))))) ?_
                                    obtain ⟨r186, h186, e186, z186, y186⟩ := S_X8_refuse (E := E) (h := h) (am := am) (M := (uM (uM (uM (uM M 0 5 0) 4 0 a) 4 1 b) 4 2 c)) (y := 12) (z := a) 
                                    subst z186
                                    subst y186
                                    refine xv (x_inv1 189 (as := [Value.int (zi 12), Value.int (zi a)]) d_X8_order__186 rfl c_8_90 rfl (Nat.le_of_ble_eq_true rfl) (Nat.le_of_ble_eq_true rfl) m_o (Nat.le_of_ble_eq_true rfl) (Nat.le_of_ble_eq_true rfl) rfl e186) ?_
                                    show Xv E q_m_X8_order_ 189 [Value.ref am, Value.int (zi d), Value.int (zi a), Value.int (zi b), Value.int (zi c), Value.int (zi 2), Value.int (zi 0)] [Value.int (zi 0)] (q_mw h am (uM (uM (uM (uM (uM (uM (uM M 0 5 0) 4 0 a) 4 1 b) 4 2 c) 0 5 1) 0 6 12) 0 7 a)) Q
                                    refine xv_r (x_ireturn d_X8_order__189 rfl rfl) ?_
                                    have er : mOrd (M 1) d a b c = (12, a) := by first | (exfalso; omega) | (unfold mOrd; repeat (first | rw [if_pos (by omega)] | rw [if_neg (by omega)]))
                                    refine hQ _ _ ?_
                                    unfold mMu2
                                    rw [er]
                                    exact ⟨rfl, rfl⟩
                              · refine xv (x_aload_n 142 d_X8_order__141 rfl rfl) ?_
                                refine xv (x_iconst 143 d_X8_order__142 rfl) ?_
                                refine xv (x_iconst 144 d_X8_order__143 rfl) ?_
                                obtain ⟨r144, h144, e144, z144, y144⟩ := S_X8_refuse (E := E) (h := h) (am := am) (M := (uM (uM (uM (uM M 0 5 0) 4 0 a) 4 1 b) 4 2 c)) (y := 3) (z := 0) 
                                subst z144
                                subst y144
                                refine xv (x_inv1 147 (as := [Value.int (zi 3), Value.int (zi 0)]) d_X8_order__144 rfl c_8_90 rfl (Nat.le_of_ble_eq_true rfl) (Nat.le_of_ble_eq_true rfl) m_o (Nat.le_of_ble_eq_true rfl) (Nat.le_of_ble_eq_true rfl) rfl e144) ?_
                                show Xv E q_m_X8_order_ 147 [Value.ref am, Value.int (zi d), Value.int (zi a), Value.int (zi b), Value.int (zi c), Value.int (zi 2), Value.int (zi (((0 + 1) + 1) + 1))] [Value.int (zi 0)] (q_mw h am (uM (uM (uM (uM (uM (uM (uM M 0 5 0) 4 0 a) 4 1 b) 4 2 c) 0 5 1) 0 6 3) 0 7 0)) Q
                                refine xv_r (x_ireturn d_X8_order__147 rfl rfl) ?_
                                have er : mOrd (M 1) d a b c = (3, 0) := by first | (exfalso; omega) | (unfold mOrd; repeat (first | rw [if_pos (by omega)] | rw [if_neg (by omega)]))
                                refine hQ _ _ ?_
                                unfold mMu2
                                rw [er]
                                exact ⟨rfl, rfl⟩
                            · refine xv (x_aload_n 124 d_X8_order__123 rfl rfl) ?_
                              refine xv (x_iconst 125 d_X8_order__124 rfl) ?_
                              refine xv (x_iconst 126 d_X8_order__125 rfl) ?_
                              obtain ⟨r126, h126, e126, z126, y126⟩ := S_X8_refuse (E := E) (h := h) (am := am) (M := (uM (uM (uM (uM M 0 5 0) 4 0 a) 4 1 b) 4 2 c)) (y := 2) (z := 0) 
                              subst z126
                              subst y126
                              refine xv (x_inv1 129 (as := [Value.int (zi 2), Value.int (zi 0)]) d_X8_order__126 rfl c_8_90 rfl (Nat.le_of_ble_eq_true rfl) (Nat.le_of_ble_eq_true rfl) m_o (Nat.le_of_ble_eq_true rfl) (Nat.le_of_ble_eq_true rfl) rfl e126) ?_
                              show Xv E q_m_X8_order_ 129 [Value.ref am, Value.int (zi d), Value.int (zi a), Value.int (zi b), Value.int (zi c), Value.int (zi 2), Value.int (zi (((0 + 1) + 1) + 1))] [Value.int (zi 0)] (q_mw h am (uM (uM (uM (uM (uM (uM (uM M 0 5 0) 4 0 a) 4 1 b) 4 2 c) 0 5 1) 0 6 2) 0 7 0)) Q
                              refine xv_r (x_ireturn d_X8_order__129 rfl rfl) ?_
                              have er : mOrd (M 1) d a b c = (2, 0) := by first | (exfalso; omega) | (unfold mOrd; repeat (first | rw [if_pos (by omega)] | rw [if_neg (by omega)]))
                              refine hQ _ _ ?_
                              unfold mMu2
                              rw [er]
                              exact ⟨rfl, rfl⟩
                      · omega
                    · refine xv (x_aload_n 89 d_X8_order__88 rfl rfl) ?_
                      refine xv (x_iconst 90 d_X8_order__89 rfl) ?_
                      refine xv (x_iconst 91 d_X8_order__90 rfl) ?_
                      obtain ⟨r91, h91, e91, z91, y91⟩ := S_X8_refuse (E := E) (h := h) (am := am) (M := (uM (uM (uM (uM M 0 5 0) 4 0 a) 4 1 b) 4 2 c)) (y := 1) (z := 0) 
                      subst z91
                      subst y91
                      refine xv (x_inv1 94 (as := [Value.int (zi 1), Value.int (zi 0)]) d_X8_order__91 rfl c_8_90 rfl (Nat.le_of_ble_eq_true rfl) (Nat.le_of_ble_eq_true rfl) m_o (Nat.le_of_ble_eq_true rfl) (Nat.le_of_ble_eq_true rfl) rfl e91) ?_
                      show Xv E q_m_X8_order_ 94 [Value.ref am, Value.int (zi d), Value.int (zi a), Value.int (zi b), Value.int (zi c), Value.int (zi 2), Value.int (zi ((0 + 1) + 1))] [Value.int (zi 0)] (q_mw h am (uM (uM (uM (uM (uM (uM (uM M 0 5 0) 4 0 a) 4 1 b) 4 2 c) 0 5 1) 0 6 1) 0 7 0)) Q
                      refine xv_r (x_ireturn d_X8_order__94 rfl rfl) ?_
                      have er : mOrd (M 1) d a b c = (1, 0) := by first | (exfalso; omega) | (unfold mOrd; repeat (first | rw [if_pos (by omega)] | rw [if_neg (by omega)]))
                      refine hQ _ _ ?_
                      unfold mMu2
                      rw [er]
                      exact ⟨rfl, rfl⟩
            · replace k69 := bI_0.mp k69
              refine xv (x_iload 74 d_X8_order__72 rfl rfl) ?_
              refine v_if_eq 88 77 d_X8_order__74 rfl rfl (by omega) (by omega) (fun k74 => ?_) (fun k74 => ?_)
              · omega
              · refine xv (x_aload_n 78 d_X8_order__77 rfl rfl) ?_
                refine xv (x_getfield 81 d_X8_order__78 rfl f_8_19 (Nat.le_of_ble_eq_true rfl) (Nat.le_of_ble_eq_true rfl) (q_gf_of m_o rfl)) ?_
                refine xv (x_iload 83 d_X8_order__81 rfl rfl) ?_
                refine xv (x_iaload 84 d_X8_order__83 rfl ((m_g4 (by omega) (by omega)).trans (rfl : _ = some (Value.int (zi b))))) ?_
                refine xv (x_iconst 85 d_X8_order__84 rfl) ?_
                refine v_icmp_eq 95 88 d_X8_order__85 rfl rfl (by omega) (by omega) (by omega) (by omega) (fun k85 => ?_) (fun k85 => ?_)
                · refine xv (x_iinc 98 d_X8_order__95 rfl rfl) ?_
                  show Xv E q_m_X8_order_ 98 [Value.ref am, Value.int (zi d), Value.int (zi a), Value.int (zi b), Value.int (zi c), Value.int (zi 2), Value.int (zi ((0 + 1) + 1))] [] (q_mw h am (uM (uM (uM (uM M 0 5 0) 4 0 a) 4 1 b) 4 2 c)) Q
                  refine xv (x_goto 52 d_X8_order__98 rfl) ?_
                  refine xv (x_iload 54 d_X8_order__52 rfl rfl) ?_
                  refine xv (x_iconst 55 d_X8_order__54 rfl) ?_
                  refine v_icmp_ge 101 58 d_X8_order__55 rfl rfl (by omega) (by omega) (by omega) (by omega) (fun k55 => ?_) (fun k55 => ?_)
                  · omega
                  · refine xv (x_aload_n 59 d_X8_order__58 rfl rfl) ?_
                    refine xv (x_aload_n 60 d_X8_order__59 rfl rfl) ?_
                    refine xv (x_getfield 63 d_X8_order__60 rfl f_8_19 (Nat.le_of_ble_eq_true rfl) (Nat.le_of_ble_eq_true rfl) (q_gf_of m_o rfl)) ?_
                    refine xv (x_iload 65 d_X8_order__63 rfl rfl) ?_
                    refine xv (x_iaload 66 d_X8_order__65 rfl ((m_g4 (by omega) (by omega)).trans (rfl : _ = some (Value.int (zi c))))) ?_
                    refine xv (x_inv1 69 (as := [Value.int (zi c)]) d_X8_order__66 rfl c_8_86 rfl (Nat.le_of_ble_eq_true rfl) (Nat.le_of_ble_eq_true rfl) m_o (Nat.le_of_ble_eq_true rfl) (Nat.le_of_ble_eq_true rfl) rfl (S_X8_isCell (E := E) (h := h) (am := am) (M := (uM (uM (uM (uM M 0 5 0) 4 0 a) 4 1 b) 4 2 c)) hR (by first | omega | (rw [show (uM (uM (uM (uM M 0 5 0) 4 0 a) 4 1 b) 4 2 c) 1 = (M 1) from rfl]; omega)) (by first | omega | (rw [show (uM (uM (uM (uM M 0 5 0) 4 0 a) 4 1 b) 4 2 c) 1 = (M 1) from rfl]; omega)))) ?_
                    show Xv E q_m_X8_order_ 69 [Value.ref am, Value.int (zi d), Value.int (zi a), Value.int (zi b), Value.int (zi c), Value.int (zi 2), Value.int (zi ((0 + 1) + 1))] [Value.int (zi (bI (isC (M 1) c)))] (q_mw h am (uM (uM (uM (uM M 0 5 0) 4 0 a) 4 1 b) 4 2 c)) Q
                    refine v_if_ne 95 72 d_X8_order__69 rfl rfl (by have := bI_r (isC (M 1) c); omega) (by have := bI_r (isC (M 1) c); omega) (fun k69 => ?_) (fun k69 => ?_)
                    · replace k69 := bI_n0.mp k69
                      refine xv (x_iinc 98 d_X8_order__95 rfl rfl) ?_
                      show Xv E q_m_X8_order_ 98 [Value.ref am, Value.int (zi d), Value.int (zi a), Value.int (zi b), Value.int (zi c), Value.int (zi 2), Value.int (zi (((0 + 1) + 1) + 1))] [] (q_mw h am (uM (uM (uM (uM M 0 5 0) 4 0 a) 4 1 b) 4 2 c)) Q
                      refine xv (x_goto 52 d_X8_order__98 rfl) ?_
                      refine xv (x_iload 54 d_X8_order__52 rfl rfl) ?_
                      refine xv (x_iconst 55 d_X8_order__54 rfl) ?_
                      refine v_icmp_ge 101 58 d_X8_order__55 rfl rfl (by omega) (by omega) (by omega) (by omega) (fun k55 => ?_) (fun k55 => ?_)
                      · refine xv (x_iload_n 102 d_X8_order__101 rfl rfl) ?_
                        refine xv (x_iconst 103 d_X8_order__102 rfl) ?_
                        refine xv (x_sipush 106 d_X8_order__103 rfl rfl) ?_
                        refine xv (x_ins1 109 (as := [Value.int (zi d), Value.int (zi 0), Value.int (zi 999)]) d_X8_order__106 rfl c_8_71 rfl (Nat.le_of_ble_eq_true rfl) (Nat.le_of_ble_eq_true rfl) (Nat.le_of_ble_eq_true rfl) rfl (S_X8_in (E := E) (h := h) (am := am) (M := (uM (uM (uM (uM M 0 5 0) 4 0 a) 4 1 b) 4 2 c)) (by first | omega | (rw [show (uM (uM (uM (uM M 0 5 0) 4 0 a) 4 1 b) 4 2 c) 1 = (M 1) from rfl]; omega)) (by first | omega | (rw [show (uM (uM (uM (uM M 0 5 0) 4 0 a) 4 1 b) 4 2 c) 1 = (M 1) from rfl]; omega)) (by first | omega | (rw [show (uM (uM (uM (uM M 0 5 0) 4 0 a) 4 1 b) 4 2 c) 1 = (M 1) from rfl]; omega)) (by first | omega | (rw [show (uM (uM (uM (uM M 0 5 0) 4 0 a) 4 1 b) 4 2 c) 1 = (M 1) from rfl]; omega)) (by first | omega | (rw [show (uM (uM (uM (uM M 0 5 0) 4 0 a) 4 1 b) 4 2 c) 1 = (M 1) from rfl]; omega)) (by first | omega | (rw [show (uM (uM (uM (uM M 0 5 0) 4 0 a) 4 1 b) 4 2 c) 1 = (M 1) from rfl]; omega)))) ?_
                        show Xv E q_m_X8_order_ 109 [Value.ref am, Value.int (zi d), Value.int (zi a), Value.int (zi b), Value.int (zi c), Value.int (zi 2), Value.int (zi (((0 + 1) + 1) + 1))] [Value.int (zi (bI (inn d 0 999)))] (q_mw h am (uM (uM (uM (uM M 0 5 0) 4 0 a) 4 1 b) 4 2 c)) Q
                        refine v_if_eq 123 112 d_X8_order__109 rfl rfl (by have := bI_r (inn d 0 999); omega) (by have := bI_r (inn d 0 999); omega) (fun k109 => ?_) (fun k109 => ?_)
                        · replace k109 := bI_0.mp k109
                          refine xv (x_aload_n 124 d_X8_order__123 rfl rfl) ?_
                          refine xv (x_iconst 125 d_X8_order__124 rfl) ?_
                          refine xv (x_iconst 126 d_X8_order__125 rfl) ?_
                          obtain ⟨r126, h126, e126, z126, y126⟩ := S_X8_refuse (E := E) (h := h) (am := am) (M := (uM (uM (uM (uM M 0 5 0) 4 0 a) 4 1 b) 4 2 c)) (y := 2) (z := 0) 
                          subst z126
                          subst y126
                          refine xv (x_inv1 129 (as := [Value.int (zi 2), Value.int (zi 0)]) d_X8_order__126 rfl c_8_90 rfl (Nat.le_of_ble_eq_true rfl) (Nat.le_of_ble_eq_true rfl) m_o (Nat.le_of_ble_eq_true rfl) (Nat.le_of_ble_eq_true rfl) rfl e126) ?_
                          show Xv E q_m_X8_order_ 129 [Value.ref am, Value.int (zi d), Value.int (zi a), Value.int (zi b), Value.int (zi c), Value.int (zi 2), Value.int (zi (((0 + 1) + 1) + 1))] [Value.int (zi 0)] (q_mw h am (uM (uM (uM (uM (uM (uM (uM M 0 5 0) 4 0 a) 4 1 b) 4 2 c) 0 5 1) 0 6 2) 0 7 0)) Q
                          refine xv_r (x_ireturn d_X8_order__129 rfl rfl) ?_
                          have er : mOrd (M 1) d a b c = (2, 0) := by first | (exfalso; omega) | (unfold mOrd; repeat (first | rw [if_pos (by omega)] | rw [if_neg (by omega)]))
                          refine hQ _ _ ?_
                          unfold mMu2
                          rw [er]
                          exact ⟨rfl, rfl⟩
                        · replace k109 := bI_n0.mp k109
                          refine xv (x_iload_n 113 d_X8_order__112 rfl rfl) ?_
                          refine xv (x_iconst 114 d_X8_order__113 rfl) ?_
                          refine v_icmp_ne 130 117 d_X8_order__114 rfl rfl (by omega) (by omega) (by omega) (by omega) (fun k114 => ?_) (fun k114 => ?_)
                          · refine xv (x_aload_n 131 d_X8_order__130 rfl rfl) ?_
                            refine xv (x_getfield 134 d_X8_order__131 rfl f_8_9 (Nat.le_of_ble_eq_true rfl) (Nat.le_of_ble_eq_true rfl) (q_gf_of m_o rfl)) ?_
                            refine xv (x_iconst 135 d_X8_order__134 rfl) ?_
                            refine xv (x_iaload 136 d_X8_order__135 rfl ((m_g1 (by omega) (by omega)).trans (rfl : _ = some (Value.int (zi ((M 1) 4)))))) ?_
                            have q_57 : -1000000 ≤ (M 1) 4 ∧ (M 1) 4 ≤ 1000000 := hr _
                            refine xv (x_bipush 138 d_X8_order__136 rfl rfl) ?_
                            refine v_icmp_ne 148 141 d_X8_order__138 rfl rfl (by omega) (by omega) (by omega) (by omega) (fun k138 => ?_) (fun k138 => ?_)
                            · refine xv (x_iconst 149 d_X8_order__148 rfl) ?_
                              refine xv (x_istore 151 d_X8_order__149 rfl (Nat.le_of_ble_eq_true rfl)) ?_
                              show Xv E q_m_X8_order_ 151 [Value.ref am, Value.int (zi d), Value.int (zi a), Value.int (zi b), Value.int (zi c), Value.int (zi 2), Value.int (zi 0)] [] (q_mw h am (uM (uM (uM (uM M 0 5 0) 4 0 a) 4 1 b) 4 2 c)) Q
                              refine xv (x_iload 153 d_X8_order__151 rfl rfl) ?_
                              refine xv (x_iload 155 d_X8_order__153 rfl rfl) ?_
                              refine v_icmp_ge 196 158 d_X8_order__155 rfl rfl (by omega) (by omega) (by omega) (by omega) (fun k155 => ?_) (fun k155 => ?_)
                              · omega
                              · refine xv (x_aload_n 159 d_X8_order__158 rfl rfl) ?_
                                refine xv (x_getfield 162 d_X8_order__159 rfl f_8_9 (Nat.le_of_ble_eq_true rfl) (Nat.le_of_ble_eq_true rfl) (q_gf_of m_o rfl)) ?_
                                refine xv (x_bipush 164 d_X8_order__162 rfl rfl) ?_
                                refine xv (x_aload_n 165 d_X8_order__164 rfl rfl) ?_
                                refine xv (x_getfield 168 d_X8_order__165 rfl f_8_19 (Nat.le_of_ble_eq_true rfl) (Nat.le_of_ble_eq_true rfl) (q_gf_of m_o rfl)) ?_
                                refine xv (x_iload 170 d_X8_order__168 rfl rfl) ?_
                                refine xv (x_iaload 171 d_X8_order__170 rfl ((m_g4 (by omega) (by omega)).trans (rfl : _ = some (Value.int (zi a))))) ?_
                                refine xv (x_iadd 172 d_X8_order__171 rfl) ?_
                                refine xv (x_iaload 173 d_X8_order__172 rfl ((m_g1 (by omega) (by omega)).trans (rfl : _ = some (Value.int (zi ((M 1) (8 + a))))))) ?_
                                have q_58 : -1000000 ≤ (M 1) (8 + a) ∧ (M 1) (8 + a) ≤ 1000000 := hr _
                                refine v_if_eq 190 176 d_X8_order__173 rfl rfl (by omega) (by omega) (fun k173 => ?_) (fun k173 => ?_)
                                · refine xv (x_iinc 193 d_X8_order__190 rfl rfl) ?_
                                  show Xv E q_m_X8_order_ 193 [Value.ref am, Value.int (zi d), Value.int (zi a), Value.int (zi b), Value.int (zi c), Value.int (zi 2), Value.int (zi (0 + 1))] [] (q_mw h am (uM (uM (uM (uM M 0 5 0) 4 0 a) 4 1 b) 4 2 c)) Q
                                  refine xv (x_goto 151 d_X8_order__193 rfl) ?_
                                  refine xv (x_iload 153 d_X8_order__151 rfl rfl) ?_
                                  refine xv (x_iload 155 d_X8_order__153 rfl rfl) ?_
                                  refine v_icmp_ge 196 158 d_X8_order__155 rfl rfl (by omega) (by omega) (by omega) (by omega) (fun k155 => ?_) (fun k155 => ?_)
                                  · omega
                                  · refine xv (x_aload_n 159 d_X8_order__158 rfl rfl) ?_
                                    refine xv (x_getfield 162 d_X8_order__159 rfl f_8_9 (Nat.le_of_ble_eq_true rfl) (Nat.le_of_ble_eq_true rfl) (q_gf_of m_o rfl)) ?_
                                    refine xv (x_bipush 164 d_X8_order__162 rfl rfl) ?_
                                    refine xv (x_aload_n 165 d_X8_order__164 rfl rfl) ?_
                                    refine xv (x_getfield 168 d_X8_order__165 rfl f_8_19 (Nat.le_of_ble_eq_true rfl) (Nat.le_of_ble_eq_true rfl) (q_gf_of m_o rfl)) ?_
                                    refine xv (x_iload 170 d_X8_order__168 rfl rfl) ?_
                                    refine xv (x_iaload 171 d_X8_order__170 rfl ((m_g4 (by omega) (by omega)).trans (rfl : _ = some (Value.int (zi b))))) ?_
                                    refine xv (x_iadd 172 d_X8_order__171 rfl) ?_
                                    refine xv (x_iaload 173 d_X8_order__172 rfl ((m_g1 (by omega) (by omega)).trans (rfl : _ = some (Value.int (zi ((M 1) (8 + b))))))) ?_
                                    have q_59 : -1000000 ≤ (M 1) (8 + b) ∧ (M 1) (8 + b) ≤ 1000000 := hr _
                                    refine v_if_eq 190 176 d_X8_order__173 rfl rfl (by omega) (by omega) (fun k173 => ?_) (fun k173 => ?_)
                                    · refine xv (x_iinc 193 d_X8_order__190 rfl rfl) ?_
                                      show Xv E q_m_X8_order_ 193 [Value.ref am, Value.int (zi d), Value.int (zi a), Value.int (zi b), Value.int (zi c), Value.int (zi 2), Value.int (zi ((0 + 1) + 1))] [] (q_mw h am (uM (uM (uM (uM M 0 5 0) 4 0 a) 4 1 b) 4 2 c)) Q
                                      refine xv (x_goto 151 d_X8_order__193 rfl) ?_
                                      refine xv (x_iload 153 d_X8_order__151 rfl rfl) ?_
                                      refine xv (x_iload 155 d_X8_order__153 rfl rfl) ?_
                                      refine v_icmp_ge 196 158 d_X8_order__155 rfl rfl (by omega) (by omega) (by omega) (by omega) (fun k155 => ?_) (fun k155 => ?_)
                                      · refine xv (x_aload_n 197 d_X8_order__196 rfl rfl) ?_
                                        obtain ⟨r197, h197, e197, z197, y197⟩ := S_X8_change (E := E) (h := h) (am := am) (M := (uM (uM (uM (uM M 0 5 0) 4 0 a) 4 1 b) 4 2 c)) hc
                                        subst z197
                                        subst y197
                                        refine xv (x_inv0 200 (as := []) d_X8_order__197 rfl c_8_100 rfl (Nat.le_of_ble_eq_true rfl) (Nat.le_of_ble_eq_true rfl) m_o (Nat.le_of_ble_eq_true rfl) (Nat.le_of_ble_eq_true rfl) rfl e197) ?_
                                        generalize hM2 : mch (uM (uM (uM (uM M 0 5 0) 4 0 a) 4 1 b) 4 2 c) = M2
                                        have e2 : M2 1 = M 1 := by rw [← hM2]; exact mch_1
                                        have e4 : M2 4 = (u1 (u1 (u1 (M 4) 0 a) 1 b) 2 c) := by rw [← hM2]; exact mch_s (by decide) (by decide)
                                        have eM : M2 = uA (uA M2 1 (M 1)) 4 (u1 (u1 (u1 (M 4) 0 a) 1 b) 2 c) := by rw [← e2, uA_self, ← e4, uA_self]
                                        rw [eM]
                                        show Xv E q_m_X8_order_ 200 [Value.ref am, Value.int (zi d), Value.int (zi a), Value.int (zi b), Value.int (zi c), Value.int (zi 2), Value.int (zi ((0 + 1) + 1))] [] (q_mw h am (uA (uA M2 1 (M 1)) 4 (u1 (u1 (u1 (M 4) 0 a) 1 b) 2 c))) Q
                                        refine xv (x_aload_n 201 d_X8_order__200 rfl rfl) ?_
                                        refine xv (x_getfield 204 d_X8_order__201 rfl f_8_9 (Nat.le_of_ble_eq_true rfl) (Nat.le_of_ble_eq_true rfl) (q_gf_of m_o rfl)) ?_
                                        refine xv (x_iconst 205 d_X8_order__204 rfl) ?_
                                        refine xv (x_iaload 206 d_X8_order__205 rfl ((m_g1 (by omega) (by omega)).trans (rfl : _ = some (Value.int (zi ((M 1) 4)))))) ?_
                                        have q_60 : -1000000 ≤ (M 1) 4 ∧ (M 1) 4 ≤ 1000000 := hr _
                                        refine xv (x_istore 208 d_X8_order__206 rfl (Nat.le_of_ble_eq_true rfl)) ?_
                                        show Xv E q_m_X8_order_ 208 [Value.ref am, Value.int (zi d), Value.int (zi a), Value.int (zi b), Value.int (zi c), Value.int (zi 2), Value.int (zi ((M 1) 4))] [] (q_mw h am (uA (uA M2 1 (M 1)) 4 (u1 (u1 (u1 (M 4) 0 a) 1 b) 2 c))) Q
                                        refine xv (x_aload_n 209 d_X8_order__208 rfl rfl) ?_
                                        refine xv (x_getfield 212 d_X8_order__209 rfl f_8_9 (Nat.le_of_ble_eq_true rfl) (Nat.le_of_ble_eq_true rfl) (q_gf_of m_o rfl)) ?_
                                        refine xv (x_iload 214 d_X8_order__212 rfl rfl) ?_
                                        refine xv (x_ins1 217 (as := [Value.int (zi ((M 1) 4))]) d_X8_order__214 rfl c_8_106 rfl (Nat.le_of_ble_eq_true rfl) (Nat.le_of_ble_eq_true rfl) (Nat.le_of_ble_eq_true rfl) rfl (S_X8_order (E := E) (h := h) (am := am) (M := (uA (uA M2 1 (M 1)) 4 (u1 (u1 (u1 (M 4) 0 a) 1 b) 2 c))))) ?_
                                        show Xv E q_m_X8_order_ 217 [Value.ref am, Value.int (zi d), Value.int (zi a), Value.int (zi b), Value.int (zi c), Value.int (zi 2), Value.int (zi ((M 1) 4))] [Value.int (zi (320 + 8 * ((M 1) 4))), Value.ref (am + 1)] (q_mw h am (uA (uA M2 1 (M 1)) 4 (u1 (u1 (u1 (M 4) 0 a) 1 b) 2 c))) Q
                                        refine xv (x_iconst 218 d_X8_order__217 rfl) ?_
                                        refine xv (x_iadd 219 d_X8_order__218 rfl) ?_
                                        refine xv (x_iload_n 220 d_X8_order__219 rfl rfl) ?_
                                        refine xv (x_iastore 221 d_X8_order__220 rfl (m_s1 (by omega) (by omega))) ?_
                                        show Xv E q_m_X8_order_ 221 [Value.ref am, Value.int (zi d), Value.int (zi a), Value.int (zi b), Value.int (zi c), Value.int (zi 2), Value.int (zi ((M 1) 4))] [] (q_mw h am (uM (uA (uA M2 1 (M 1)) 4 (u1 (u1 (u1 (M 4) 0 a) 1 b) 2 c)) 1 ((320 + 8 * ((M 1) 4)) + 0) d)) Q
                                        refine xv (x_aload_n 222 d_X8_order__221 rfl rfl) ?_
                                        refine xv (x_getfield 225 d_X8_order__222 rfl f_8_9 (Nat.le_of_ble_eq_true rfl) (Nat.le_of_ble_eq_true rfl) (q_gf_of m_o rfl)) ?_
                                        refine xv (x_iload 227 d_X8_order__225 rfl rfl) ?_
                                        refine xv (x_ins1 230 (as := [Value.int (zi ((M 1) 4))]) d_X8_order__227 rfl c_8_106 rfl (Nat.le_of_ble_eq_true rfl) (Nat.le_of_ble_eq_true rfl) (Nat.le_of_ble_eq_true rfl) rfl (S_X8_order (E := E) (h := h) (am := am) (M := (uM (uA (uA M2 1 (M 1)) 4 (u1 (u1 (u1 (M 4) 0 a) 1 b) 2 c)) 1 ((320 + 8 * ((M 1) 4)) + 0) d)))) ?_
                                        show Xv E q_m_X8_order_ 230 [Value.ref am, Value.int (zi d), Value.int (zi a), Value.int (zi b), Value.int (zi c), Value.int (zi 2), Value.int (zi ((M 1) 4))] [Value.int (zi (320 + 8 * ((M 1) 4))), Value.ref (am + 1)] (q_mw h am (uM (uA (uA M2 1 (M 1)) 4 (u1 (u1 (u1 (M 4) 0 a) 1 b) 2 c)) 1 ((320 + 8 * ((M 1) 4)) + 0) d)) Q
                                        refine xv (x_iconst 231 d_X8_order__230 rfl) ?_
                                        refine xv (x_iadd 232 d_X8_order__231 rfl) ?_
                                        refine xv (x_iload 234 d_X8_order__232 rfl rfl) ?_
                                        refine xv (x_iastore 235 d_X8_order__234 rfl (m_s1 (by omega) (by omega))) ?_
                                        show Xv E q_m_X8_order_ 235 [Value.ref am, Value.int (zi d), Value.int (zi a), Value.int (zi b), Value.int (zi c), Value.int (zi 2), Value.int (zi ((M 1) 4))] [] (q_mw h am (uM (uM (uA (uA M2 1 (M 1)) 4 (u1 (u1 (u1 (M 4) 0 a) 1 b) 2 c)) 1 ((320 + 8 * ((M 1) 4)) + 0) d) 1 ((320 + 8 * ((M 1) 4)) + 1) 2)) Q
                                        refine xv (x_aload_n 236 d_X8_order__235 rfl rfl) ?_
                                        refine xv (x_getfield 239 d_X8_order__236 rfl f_8_9 (Nat.le_of_ble_eq_true rfl) (Nat.le_of_ble_eq_true rfl) (q_gf_of m_o rfl)) ?_
                                        refine xv (x_iload 241 d_X8_order__239 rfl rfl) ?_
                                        refine xv (x_ins1 244 (as := [Value.int (zi ((M 1) 4))]) d_X8_order__241 rfl c_8_106 rfl (Nat.le_of_ble_eq_true rfl) (Nat.le_of_ble_eq_true rfl) (Nat.le_of_ble_eq_true rfl) rfl (S_X8_order (E := E) (h := h) (am := am) (M := (uM (uM (uA (uA M2 1 (M 1)) 4 (u1 (u1 (u1 (M 4) 0 a) 1 b) 2 c)) 1 ((320 + 8 * ((M 1) 4)) + 0) d) 1 ((320 + 8 * ((M 1) 4)) + 1) 2)))) ?_
                                        show Xv E q_m_X8_order_ 244 [Value.ref am, Value.int (zi d), Value.int (zi a), Value.int (zi b), Value.int (zi c), Value.int (zi 2), Value.int (zi ((M 1) 4))] [Value.int (zi (320 + 8 * ((M 1) 4))), Value.ref (am + 1)] (q_mw h am (uM (uM (uA (uA M2 1 (M 1)) 4 (u1 (u1 (u1 (M 4) 0 a) 1 b) 2 c)) 1 ((320 + 8 * ((M 1) 4)) + 0) d) 1 ((320 + 8 * ((M 1) 4)) + 1) 2)) Q
                                        refine xv (x_iconst 245 d_X8_order__244 rfl) ?_
                                        refine xv (x_iadd 246 d_X8_order__245 rfl) ?_
                                        refine xv (x_iconst 247 d_X8_order__246 rfl) ?_
                                        refine xv (x_iastore 248 d_X8_order__247 rfl (m_s1 (by omega) (by omega))) ?_
                                        show Xv E q_m_X8_order_ 248 [Value.ref am, Value.int (zi d), Value.int (zi a), Value.int (zi b), Value.int (zi c), Value.int (zi 2), Value.int (zi ((M 1) 4))] [] (q_mw h am (uM (uM (uM (uA (uA M2 1 (M 1)) 4 (u1 (u1 (u1 (M 4) 0 a) 1 b) 2 c)) 1 ((320 + 8 * ((M 1) 4)) + 0) d) 1 ((320 + 8 * ((M 1) 4)) + 1) 2) 1 ((320 + 8 * ((M 1) 4)) + 2) 0)) Q
                                        refine xv (x_aload_n 249 d_X8_order__248 rfl rfl) ?_
                                        refine xv (x_getfield 252 d_X8_order__249 rfl f_8_9 (Nat.le_of_ble_eq_true rfl) (Nat.le_of_ble_eq_true rfl) (q_gf_of m_o rfl)) ?_
                                        refine xv (x_iload 254 d_X8_order__252 rfl rfl) ?_
                                        refine xv (x_ins1 257 (as := [Value.int (zi ((M 1) 4))]) d_X8_order__254 rfl c_8_106 rfl (Nat.le_of_ble_eq_true rfl) (Nat.le_of_ble_eq_true rfl) (Nat.le_of_ble_eq_true rfl) rfl (S_X8_order (E := E) (h := h) (am := am) (M := (uM (uM (uM (uA (uA M2 1 (M 1)) 4 (u1 (u1 (u1 (M 4) 0 a) 1 b) 2 c)) 1 ((320 + 8 * ((M 1) 4)) + 0) d) 1 ((320 + 8 * ((M 1) 4)) + 1) 2) 1 ((320 + 8 * ((M 1) 4)) + 2) 0)))) ?_
                                        show Xv E q_m_X8_order_ 257 [Value.ref am, Value.int (zi d), Value.int (zi a), Value.int (zi b), Value.int (zi c), Value.int (zi 2), Value.int (zi ((M 1) 4))] [Value.int (zi (320 + 8 * ((M 1) 4))), Value.ref (am + 1)] (q_mw h am (uM (uM (uM (uA (uA M2 1 (M 1)) 4 (u1 (u1 (u1 (M 4) 0 a) 1 b) 2 c)) 1 ((320 + 8 * ((M 1) 4)) + 0) d) 1 ((320 + 8 * ((M 1) 4)) + 1) 2) 1 ((320 + 8 * ((M 1) 4)) + 2) 0)) Q
                                        refine xv (x_iconst 258 d_X8_order__257 rfl) ?_
                                        refine xv (x_iadd 259 d_X8_order__258 rfl) ?_
                                        refine xv (x_iconst 260 d_X8_order__259 rfl) ?_
                                        refine xv (x_iastore 261 d_X8_order__260 rfl (m_s1 (by omega) (by omega))) ?_
                                        show Xv E q_m_X8_order_ 261 [Value.ref am, Value.int (zi d), Value.int (zi a), Value.int (zi b), Value.int (zi c), Value.int (zi 2), Value.int (zi ((M 1) 4))] [] (q_mw h am (uM (uM (uM (uM (uA (uA M2 1 (M 1)) 4 (u1 (u1 (u1 (M 4) 0 a) 1 b) 2 c)) 1 ((320 + 8 * ((M 1) 4)) + 0) d) 1 ((320 + 8 * ((M 1) 4)) + 1) 2) 1 ((320 + 8 * ((M 1) 4)) + 2) 0) 1 ((320 + 8 * ((M 1) 4)) + 3) (-1))) Q
                                        refine xv (x_aload_n 262 d_X8_order__261 rfl rfl) ?_
                                        refine xv (x_getfield 265 d_X8_order__262 rfl f_8_9 (Nat.le_of_ble_eq_true rfl) (Nat.le_of_ble_eq_true rfl) (q_gf_of m_o rfl)) ?_
                                        refine xv (x_iload 267 d_X8_order__265 rfl rfl) ?_
                                        refine xv (x_ins1 270 (as := [Value.int (zi ((M 1) 4))]) d_X8_order__267 rfl c_8_106 rfl (Nat.le_of_ble_eq_true rfl) (Nat.le_of_ble_eq_true rfl) (Nat.le_of_ble_eq_true rfl) rfl (S_X8_order (E := E) (h := h) (am := am) (M := (uM (uM (uM (uM (uA (uA M2 1 (M 1)) 4 (u1 (u1 (u1 (M 4) 0 a) 1 b) 2 c)) 1 ((320 + 8 * ((M 1) 4)) + 0) d) 1 ((320 + 8 * ((M 1) 4)) + 1) 2) 1 ((320 + 8 * ((M 1) 4)) + 2) 0) 1 ((320 + 8 * ((M 1) 4)) + 3) (-1))))) ?_
                                        show Xv E q_m_X8_order_ 270 [Value.ref am, Value.int (zi d), Value.int (zi a), Value.int (zi b), Value.int (zi c), Value.int (zi 2), Value.int (zi ((M 1) 4))] [Value.int (zi (320 + 8 * ((M 1) 4))), Value.ref (am + 1)] (q_mw h am (uM (uM (uM (uM (uA (uA M2 1 (M 1)) 4 (u1 (u1 (u1 (M 4) 0 a) 1 b) 2 c)) 1 ((320 + 8 * ((M 1) 4)) + 0) d) 1 ((320 + 8 * ((M 1) 4)) + 1) 2) 1 ((320 + 8 * ((M 1) 4)) + 2) 0) 1 ((320 + 8 * ((M 1) 4)) + 3) (-1))) Q
                                        refine xv (x_iconst 271 d_X8_order__270 rfl) ?_
                                        refine xv (x_iadd 272 d_X8_order__271 rfl) ?_
                                        refine xv (x_iconst 273 d_X8_order__272 rfl) ?_
                                        refine xv (x_iastore 274 d_X8_order__273 rfl (m_s1 (by omega) (by omega))) ?_
                                        show Xv E q_m_X8_order_ 274 [Value.ref am, Value.int (zi d), Value.int (zi a), Value.int (zi b), Value.int (zi c), Value.int (zi 2), Value.int (zi ((M 1) 4))] [] (q_mw h am (uM (uM (uM (uM (uM (uA (uA M2 1 (M 1)) 4 (u1 (u1 (u1 (M 4) 0 a) 1 b) 2 c)) 1 ((320 + 8 * ((M 1) 4)) + 0) d) 1 ((320 + 8 * ((M 1) 4)) + 1) 2) 1 ((320 + 8 * ((M 1) 4)) + 2) 0) 1 ((320 + 8 * ((M 1) 4)) + 3) (-1)) 1 ((320 + 8 * ((M 1) 4)) + 4) (-1))) Q
                                        refine xv (x_aload_n 275 d_X8_order__274 rfl rfl) ?_
                                        refine xv (x_getfield 278 d_X8_order__275 rfl f_8_19 (Nat.le_of_ble_eq_true rfl) (Nat.le_of_ble_eq_true rfl) (q_gf_of m_o rfl)) ?_
                                        refine xv (x_iconst 279 d_X8_order__278 rfl) ?_
                                        refine xv (x_aload_n 280 d_X8_order__279 rfl rfl) ?_
                                        refine xv (x_getfield 283 d_X8_order__280 rfl f_8_9 (Nat.le_of_ble_eq_true rfl) (Nat.le_of_ble_eq_true rfl) (q_gf_of m_o rfl)) ?_
                                        refine xv (x_iload 285 d_X8_order__283 rfl rfl) ?_
                                        refine xv (x_ins1 288 (as := [Value.int (zi ((M 1) 4))]) d_X8_order__285 rfl c_8_106 rfl (Nat.le_of_ble_eq_true rfl) (Nat.le_of_ble_eq_true rfl) (Nat.le_of_ble_eq_true rfl) rfl (S_X8_order (E := E) (h := h) (am := am) (M := (uM (uM (uM (uM (uM (uA (uA M2 1 (M 1)) 4 (u1 (u1 (u1 (M 4) 0 a) 1 b) 2 c)) 1 ((320 + 8 * ((M 1) 4)) + 0) d) 1 ((320 + 8 * ((M 1) 4)) + 1) 2) 1 ((320 + 8 * ((M 1) 4)) + 2) 0) 1 ((320 + 8 * ((M 1) 4)) + 3) (-1)) 1 ((320 + 8 * ((M 1) 4)) + 4) (-1))))) ?_
                                        show Xv E q_m_X8_order_ 288 [Value.ref am, Value.int (zi d), Value.int (zi a), Value.int (zi b), Value.int (zi c), Value.int (zi 2), Value.int (zi ((M 1) 4))] [Value.int (zi (320 + 8 * ((M 1) 4))), Value.ref (am + 1), Value.int (zi 0), Value.ref (am + 4)] (q_mw h am (uM (uM (uM (uM (uM (uA (uA M2 1 (M 1)) 4 (u1 (u1 (u1 (M 4) 0 a) 1 b) 2 c)) 1 ((320 + 8 * ((M 1) 4)) + 0) d) 1 ((320 + 8 * ((M 1) 4)) + 1) 2) 1 ((320 + 8 * ((M 1) 4)) + 2) 0) 1 ((320 + 8 * ((M 1) 4)) + 3) (-1)) 1 ((320 + 8 * ((M 1) 4)) + 4) (-1))) Q
                                        refine xv (x_iconst 289 d_X8_order__288 rfl) ?_
                                        refine xv (x_iadd 290 d_X8_order__289 rfl) ?_
                                        refine xv (x_iconst 291 d_X8_order__290 rfl) ?_
                                        refine xv (x_copy 294 d_X8_order__291 rfl rfl rfl (Nat.le_of_ble_eq_true rfl) (Nat.le_of_ble_eq_true rfl) (Nat.le_of_ble_eq_true rfl) (m_cpy 4 1 m_a4 m_a1 m_w1 (by omega) (by omega) (by omega) (by omega) (by omega) (by decide) (by decide))) ?_
                                        show Xv E q_m_X8_order_ 294 [Value.ref am, Value.int (zi d), Value.int (zi a), Value.int (zi b), Value.int (zi c), Value.int (zi 2), Value.int (zi ((M 1) 4))] [] (q_mw h am (uA (uM (uM (uM (uM (uM (uA (uA M2 1 (M 1)) 4 (u1 (u1 (u1 (M 4) 0 a) 1 b) 2 c)) 1 ((320 + 8 * ((M 1) 4)) + 0) d) 1 ((320 + 8 * ((M 1) 4)) + 1) 2) 1 ((320 + 8 * ((M 1) 4)) + 2) 0) 1 ((320 + 8 * ((M 1) 4)) + 3) (-1)) 1 ((320 + 8 * ((M 1) 4)) + 4) (-1)) 1 (cpI (u1 (u1 (u1 (M 4) 0 a) 1 b) 2 c) (u1 (u1 (u1 (u1 (u1 (M 1) ((320 + 8 * ((M 1) 4)) + 0) d) ((320 + 8 * ((M 1) 4)) + 1) 2) ((320 + 8 * ((M 1) 4)) + 2) 0) ((320 + 8 * ((M 1) 4)) + 3) (-1)) ((320 + 8 * ((M 1) 4)) + 4) (-1)) 0 ((320 + 8 * ((M 1) 4)) + 5) 3))) Q
                                        refine xv (x_aload_n 295 d_X8_order__294 rfl rfl) ?_
                                        refine xv (x_getfield 298 d_X8_order__295 rfl f_8_9 (Nat.le_of_ble_eq_true rfl) (Nat.le_of_ble_eq_true rfl) (q_gf_of m_o rfl)) ?_
                                        refine xv (x_iconst 299 d_X8_order__298 rfl) ?_
                                        refine xv (x_dup2 300 d_X8_order__299 rfl rfl rfl) ?_
                                        refine xv (x_iaload 301 d_X8_order__300 rfl ((m_g1 (by omega) (by omega)).trans (rfl : _ = some (Value.int (zi ((cpI (u1 (u1 (u1 (M 4) 0 a) 1 b) 2 c) (u1 (u1 (u1 (u1 (u1 (M 1) ((320 + 8 * ((M 1) 4)) + 0) d) ((320 + 8 * ((M 1) 4)) + 1) 2) ((320 + 8 * ((M 1) 4)) + 2) 0) ((320 + 8 * ((M 1) 4)) + 3) (-1)) ((320 + 8 * ((M 1) 4)) + 4) (-1)) 0 ((320 + 8 * ((M 1) 4)) + 5) 3) 4)))))) ?_
                                        refine xv (x_iconst 302 d_X8_order__301 rfl) ?_
                                        refine xv (x_iadd 303 d_X8_order__302 rfl) ?_
                                        refine xv (x_iastore 304 d_X8_order__303 rfl (m_s1 (by omega) (by omega))) ?_
                                        show Xv E q_m_X8_order_ 304 [Value.ref am, Value.int (zi d), Value.int (zi a), Value.int (zi b), Value.int (zi c), Value.int (zi 2), Value.int (zi ((M 1) 4))] [] (q_mw h am (uM (uA (uM (uM (uM (uM (uM (uA (uA M2 1 (M 1)) 4 (u1 (u1 (u1 (M 4) 0 a) 1 b) 2 c)) 1 ((320 + 8 * ((M 1) 4)) + 0) d) 1 ((320 + 8 * ((M 1) 4)) + 1) 2) 1 ((320 + 8 * ((M 1) 4)) + 2) 0) 1 ((320 + 8 * ((M 1) 4)) + 3) (-1)) 1 ((320 + 8 * ((M 1) 4)) + 4) (-1)) 1 (cpI (u1 (u1 (u1 (M 4) 0 a) 1 b) 2 c) (u1 (u1 (u1 (u1 (u1 (M 1) ((320 + 8 * ((M 1) 4)) + 0) d) ((320 + 8 * ((M 1) 4)) + 1) 2) ((320 + 8 * ((M 1) 4)) + 2) 0) ((320 + 8 * ((M 1) 4)) + 3) (-1)) ((320 + 8 * ((M 1) 4)) + 4) (-1)) 0 ((320 + 8 * ((M 1) 4)) + 5) 3)) 1 4 (((cpI (u1 (u1 (u1 (M 4) 0 a) 1 b) 2 c) (u1 (u1 (u1 (u1 (u1 (M 1) ((320 + 8 * ((M 1) 4)) + 0) d) ((320 + 8 * ((M 1) 4)) + 1) 2) ((320 + 8 * ((M 1) 4)) + 2) 0) ((320 + 8 * ((M 1) 4)) + 3) (-1)) ((320 + 8 * ((M 1) 4)) + 4) (-1)) 0 ((320 + 8 * ((M 1) 4)) + 5) 3) 4) + 1))) Q
                                        refine xv (x_iload 306 d_X8_order__304 rfl rfl) ?_
                                        refine xv_r (x_ireturn d_X8_order__306 rfl rfl) ?_
                                        have er : mOrd (M 1) d a b c = (0, 0) := by first | (exfalso; omega) | (unfold mOrd; repeat (first | rw [if_pos (by omega)] | rw [if_neg (by omega)]))
                                        have ec : cntO b c = 2 := by first | (exfalso; omega) | (unfold cntO; repeat (first | rw [if_pos (by omega)] | rw [if_neg (by omega)]))
                                        refine hQ _ _ ?_
                                        unfold mMu2
                                        rw [er, if_pos rfl, ec]
                                        refine ⟨rfl, ?_⟩
                                        unfold lnO
                                        rw [hM2, ← eM]
                                        simp only [uM_uA, uA_uA, uA_eq]
                                        rfl
                                      · omega
                                    · refine xv (x_aload_n 177 d_X8_order__176 rfl rfl) ?_
                                      refine xv (x_bipush 179 d_X8_order__177 rfl rfl) ?_
                                      refine xv (x_aload_n 180 d_X8_order__179 rfl rfl) ?_
                                      refine xv (x_getfield 183 d_X8_order__180 rfl f_8_19 (Nat.le_of_ble_eq_true rfl) (Nat.le_of_ble_eq_true rfl) (q_gf_of m_o rfl)) ?_
                                      refine xv (x_iload 185 d_X8_order__183 rfl rfl) ?_
                                      refine xv (x_iaload 186 d_X8_order__185 rfl ((m_g4 (by omega) (by omega)).trans (rfl : _ = some (Value.int (zi b))))) ?_
                                      obtain ⟨r186, h186, e186, z186, y186⟩ := S_X8_refuse (E := E) (h := h) (am := am) (M := (uM (uM (uM (uM M 0 5 0) 4 0 a) 4 1 b) 4 2 c)) (y := 12) (z := b) 
                                      subst z186
                                      subst y186
                                      refine xv (x_inv1 189 (as := [Value.int (zi 12), Value.int (zi b)]) d_X8_order__186 rfl c_8_90 rfl (Nat.le_of_ble_eq_true rfl) (Nat.le_of_ble_eq_true rfl) m_o (Nat.le_of_ble_eq_true rfl) (Nat.le_of_ble_eq_true rfl) rfl e186) ?_
                                      show Xv E q_m_X8_order_ 189 [Value.ref am, Value.int (zi d), Value.int (zi a), Value.int (zi b), Value.int (zi c), Value.int (zi 2), Value.int (zi (0 + 1))] [Value.int (zi 0)] (q_mw h am (uM (uM (uM (uM (uM (uM (uM M 0 5 0) 4 0 a) 4 1 b) 4 2 c) 0 5 1) 0 6 12) 0 7 b)) Q
                                      refine xv_r (x_ireturn d_X8_order__189 rfl rfl) ?_
                                      have er : mOrd (M 1) d a b c = (12, b) := by first | (exfalso; omega) | (unfold mOrd; repeat (first | rw [if_pos (by omega)] | rw [if_neg (by omega)]))
                                      refine hQ _ _ ?_
                                      unfold mMu2
                                      rw [er]
                                      exact ⟨rfl, rfl⟩
                                · refine xv (x_aload_n 177 d_X8_order__176 rfl rfl) ?_
                                  refine xv (x_bipush 179 d_X8_order__177 rfl rfl) ?_
                                  refine xv (x_aload_n 180 d_X8_order__179 rfl rfl) ?_
                                  refine xv (x_getfield 183 d_X8_order__180 rfl f_8_19 (Nat.le_of_ble_eq_true rfl) (Nat.le_of_ble_eq_true rfl) (q_gf_of m_o rfl)) ?_
                                  refine xv (x_iload 185 d_X8_order__183 rfl rfl) ?_
                                  refine xv (x_iaload 186 d_X8_order__185 rfl ((m_g4 (by omega) (by omega)).trans (rfl : _ = some (Value.int (zi a))))) ?_
                                  obtain ⟨r186, h186, e186, z186, y186⟩ := S_X8_refuse (E := E) (h := h) (am := am) (M := (uM (uM (uM (uM M 0 5 0) 4 0 a) 4 1 b) 4 2 c)) (y := 12) (z := a) 
                                  subst z186
                                  subst y186
                                  refine xv (x_inv1 189 (as := [Value.int (zi 12), Value.int (zi a)]) d_X8_order__186 rfl c_8_90 rfl (Nat.le_of_ble_eq_true rfl) (Nat.le_of_ble_eq_true rfl) m_o (Nat.le_of_ble_eq_true rfl) (Nat.le_of_ble_eq_true rfl) rfl e186) ?_
                                  show Xv E q_m_X8_order_ 189 [Value.ref am, Value.int (zi d), Value.int (zi a), Value.int (zi b), Value.int (zi c), Value.int (zi 2), Value.int (zi 0)] [Value.int (zi 0)] (q_mw h am (uM (uM (uM (uM (uM (uM (uM M 0 5 0) 4 0 a) 4 1 b) 4 2 c) 0 5 1) 0 6 12) 0 7 a)) Q
                                  refine xv_r (x_ireturn d_X8_order__189 rfl rfl) ?_
                                  have er : mOrd (M 1) d a b c = (12, a) := by first | (exfalso; omega) | (unfold mOrd; repeat (first | rw [if_pos (by omega)] | rw [if_neg (by omega)]))
                                  refine hQ _ _ ?_
                                  unfold mMu2
                                  rw [er]
                                  exact ⟨rfl, rfl⟩
                            · refine xv (x_aload_n 142 d_X8_order__141 rfl rfl) ?_
                              refine xv (x_iconst 143 d_X8_order__142 rfl) ?_
                              refine xv (x_iconst 144 d_X8_order__143 rfl) ?_
                              obtain ⟨r144, h144, e144, z144, y144⟩ := S_X8_refuse (E := E) (h := h) (am := am) (M := (uM (uM (uM (uM M 0 5 0) 4 0 a) 4 1 b) 4 2 c)) (y := 3) (z := 0) 
                              subst z144
                              subst y144
                              refine xv (x_inv1 147 (as := [Value.int (zi 3), Value.int (zi 0)]) d_X8_order__144 rfl c_8_90 rfl (Nat.le_of_ble_eq_true rfl) (Nat.le_of_ble_eq_true rfl) m_o (Nat.le_of_ble_eq_true rfl) (Nat.le_of_ble_eq_true rfl) rfl e144) ?_
                              show Xv E q_m_X8_order_ 147 [Value.ref am, Value.int (zi d), Value.int (zi a), Value.int (zi b), Value.int (zi c), Value.int (zi 2), Value.int (zi (((0 + 1) + 1) + 1))] [Value.int (zi 0)] (q_mw h am (uM (uM (uM (uM (uM (uM (uM M 0 5 0) 4 0 a) 4 1 b) 4 2 c) 0 5 1) 0 6 3) 0 7 0)) Q
                              refine xv_r (x_ireturn d_X8_order__147 rfl rfl) ?_
                              have er : mOrd (M 1) d a b c = (3, 0) := by first | (exfalso; omega) | (unfold mOrd; repeat (first | rw [if_pos (by omega)] | rw [if_neg (by omega)]))
                              refine hQ _ _ ?_
                              unfold mMu2
                              rw [er]
                              exact ⟨rfl, rfl⟩
                          · refine xv (x_iload 119 d_X8_order__117 rfl rfl) ?_
                            refine xv (x_iconst 120 d_X8_order__119 rfl) ?_
                            refine v_icmp_eq 130 123 d_X8_order__120 rfl rfl (by omega) (by omega) (by omega) (by omega) (fun k120 => ?_) (fun k120 => ?_)
                            · refine xv (x_aload_n 131 d_X8_order__130 rfl rfl) ?_
                              refine xv (x_getfield 134 d_X8_order__131 rfl f_8_9 (Nat.le_of_ble_eq_true rfl) (Nat.le_of_ble_eq_true rfl) (q_gf_of m_o rfl)) ?_
                              refine xv (x_iconst 135 d_X8_order__134 rfl) ?_
                              refine xv (x_iaload 136 d_X8_order__135 rfl ((m_g1 (by omega) (by omega)).trans (rfl : _ = some (Value.int (zi ((M 1) 4)))))) ?_
                              have q_61 : -1000000 ≤ (M 1) 4 ∧ (M 1) 4 ≤ 1000000 := hr _
                              refine xv (x_bipush 138 d_X8_order__136 rfl rfl) ?_
                              refine v_icmp_ne 148 141 d_X8_order__138 rfl rfl (by omega) (by omega) (by omega) (by omega) (fun k138 => ?_) (fun k138 => ?_)
                              · refine xv (x_iconst 149 d_X8_order__148 rfl) ?_
                                refine xv (x_istore 151 d_X8_order__149 rfl (Nat.le_of_ble_eq_true rfl)) ?_
                                show Xv E q_m_X8_order_ 151 [Value.ref am, Value.int (zi d), Value.int (zi a), Value.int (zi b), Value.int (zi c), Value.int (zi 2), Value.int (zi 0)] [] (q_mw h am (uM (uM (uM (uM M 0 5 0) 4 0 a) 4 1 b) 4 2 c)) Q
                                refine xv (x_iload 153 d_X8_order__151 rfl rfl) ?_
                                refine xv (x_iload 155 d_X8_order__153 rfl rfl) ?_
                                refine v_icmp_ge 196 158 d_X8_order__155 rfl rfl (by omega) (by omega) (by omega) (by omega) (fun k155 => ?_) (fun k155 => ?_)
                                · omega
                                · refine xv (x_aload_n 159 d_X8_order__158 rfl rfl) ?_
                                  refine xv (x_getfield 162 d_X8_order__159 rfl f_8_9 (Nat.le_of_ble_eq_true rfl) (Nat.le_of_ble_eq_true rfl) (q_gf_of m_o rfl)) ?_
                                  refine xv (x_bipush 164 d_X8_order__162 rfl rfl) ?_
                                  refine xv (x_aload_n 165 d_X8_order__164 rfl rfl) ?_
                                  refine xv (x_getfield 168 d_X8_order__165 rfl f_8_19 (Nat.le_of_ble_eq_true rfl) (Nat.le_of_ble_eq_true rfl) (q_gf_of m_o rfl)) ?_
                                  refine xv (x_iload 170 d_X8_order__168 rfl rfl) ?_
                                  refine xv (x_iaload 171 d_X8_order__170 rfl ((m_g4 (by omega) (by omega)).trans (rfl : _ = some (Value.int (zi a))))) ?_
                                  refine xv (x_iadd 172 d_X8_order__171 rfl) ?_
                                  refine xv (x_iaload 173 d_X8_order__172 rfl ((m_g1 (by omega) (by omega)).trans (rfl : _ = some (Value.int (zi ((M 1) (8 + a))))))) ?_
                                  have q_62 : -1000000 ≤ (M 1) (8 + a) ∧ (M 1) (8 + a) ≤ 1000000 := hr _
                                  refine v_if_eq 190 176 d_X8_order__173 rfl rfl (by omega) (by omega) (fun k173 => ?_) (fun k173 => ?_)
                                  · refine xv (x_iinc 193 d_X8_order__190 rfl rfl) ?_
                                    show Xv E q_m_X8_order_ 193 [Value.ref am, Value.int (zi d), Value.int (zi a), Value.int (zi b), Value.int (zi c), Value.int (zi 2), Value.int (zi (0 + 1))] [] (q_mw h am (uM (uM (uM (uM M 0 5 0) 4 0 a) 4 1 b) 4 2 c)) Q
                                    refine xv (x_goto 151 d_X8_order__193 rfl) ?_
                                    refine xv (x_iload 153 d_X8_order__151 rfl rfl) ?_
                                    refine xv (x_iload 155 d_X8_order__153 rfl rfl) ?_
                                    refine v_icmp_ge 196 158 d_X8_order__155 rfl rfl (by omega) (by omega) (by omega) (by omega) (fun k155 => ?_) (fun k155 => ?_)
                                    · omega
                                    · refine xv (x_aload_n 159 d_X8_order__158 rfl rfl) ?_
                                      refine xv (x_getfield 162 d_X8_order__159 rfl f_8_9 (Nat.le_of_ble_eq_true rfl) (Nat.le_of_ble_eq_true rfl) (q_gf_of m_o rfl)) ?_
                                      refine xv (x_bipush 164 d_X8_order__162 rfl rfl) ?_
                                      refine xv (x_aload_n 165 d_X8_order__164 rfl rfl) ?_
                                      refine xv (x_getfield 168 d_X8_order__165 rfl f_8_19 (Nat.le_of_ble_eq_true rfl) (Nat.le_of_ble_eq_true rfl) (q_gf_of m_o rfl)) ?_
                                      refine xv (x_iload 170 d_X8_order__168 rfl rfl) ?_
                                      refine xv (x_iaload 171 d_X8_order__170 rfl ((m_g4 (by omega) (by omega)).trans (rfl : _ = some (Value.int (zi b))))) ?_
                                      refine xv (x_iadd 172 d_X8_order__171 rfl) ?_
                                      refine xv (x_iaload 173 d_X8_order__172 rfl ((m_g1 (by omega) (by omega)).trans (rfl : _ = some (Value.int (zi ((M 1) (8 + b))))))) ?_
                                      have q_63 : -1000000 ≤ (M 1) (8 + b) ∧ (M 1) (8 + b) ≤ 1000000 := hr _
                                      refine v_if_eq 190 176 d_X8_order__173 rfl rfl (by omega) (by omega) (fun k173 => ?_) (fun k173 => ?_)
                                      · refine xv (x_iinc 193 d_X8_order__190 rfl rfl) ?_
                                        show Xv E q_m_X8_order_ 193 [Value.ref am, Value.int (zi d), Value.int (zi a), Value.int (zi b), Value.int (zi c), Value.int (zi 2), Value.int (zi ((0 + 1) + 1))] [] (q_mw h am (uM (uM (uM (uM M 0 5 0) 4 0 a) 4 1 b) 4 2 c)) Q
                                        refine xv (x_goto 151 d_X8_order__193 rfl) ?_
                                        refine xv (x_iload 153 d_X8_order__151 rfl rfl) ?_
                                        refine xv (x_iload 155 d_X8_order__153 rfl rfl) ?_
                                        refine v_icmp_ge 196 158 d_X8_order__155 rfl rfl (by omega) (by omega) (by omega) (by omega) (fun k155 => ?_) (fun k155 => ?_)
                                        · refine xv (x_aload_n 197 d_X8_order__196 rfl rfl) ?_
                                          obtain ⟨r197, h197, e197, z197, y197⟩ := S_X8_change (E := E) (h := h) (am := am) (M := (uM (uM (uM (uM M 0 5 0) 4 0 a) 4 1 b) 4 2 c)) hc
                                          subst z197
                                          subst y197
                                          refine xv (x_inv0 200 (as := []) d_X8_order__197 rfl c_8_100 rfl (Nat.le_of_ble_eq_true rfl) (Nat.le_of_ble_eq_true rfl) m_o (Nat.le_of_ble_eq_true rfl) (Nat.le_of_ble_eq_true rfl) rfl e197) ?_
                                          generalize hM2 : mch (uM (uM (uM (uM M 0 5 0) 4 0 a) 4 1 b) 4 2 c) = M2
                                          have e2 : M2 1 = M 1 := by rw [← hM2]; exact mch_1
                                          have e4 : M2 4 = (u1 (u1 (u1 (M 4) 0 a) 1 b) 2 c) := by rw [← hM2]; exact mch_s (by decide) (by decide)
                                          have eM : M2 = uA (uA M2 1 (M 1)) 4 (u1 (u1 (u1 (M 4) 0 a) 1 b) 2 c) := by rw [← e2, uA_self, ← e4, uA_self]
                                          rw [eM]
                                          show Xv E q_m_X8_order_ 200 [Value.ref am, Value.int (zi d), Value.int (zi a), Value.int (zi b), Value.int (zi c), Value.int (zi 2), Value.int (zi ((0 + 1) + 1))] [] (q_mw h am (uA (uA M2 1 (M 1)) 4 (u1 (u1 (u1 (M 4) 0 a) 1 b) 2 c))) Q
                                          refine xv (x_aload_n 201 d_X8_order__200 rfl rfl) ?_
                                          refine xv (x_getfield 204 d_X8_order__201 rfl f_8_9 (Nat.le_of_ble_eq_true rfl) (Nat.le_of_ble_eq_true rfl) (q_gf_of m_o rfl)) ?_
                                          refine xv (x_iconst 205 d_X8_order__204 rfl) ?_
                                          refine xv (x_iaload 206 d_X8_order__205 rfl ((m_g1 (by omega) (by omega)).trans (rfl : _ = some (Value.int (zi ((M 1) 4)))))) ?_
                                          have q_64 : -1000000 ≤ (M 1) 4 ∧ (M 1) 4 ≤ 1000000 := hr _
                                          refine xv (x_istore 208 d_X8_order__206 rfl (Nat.le_of_ble_eq_true rfl)) ?_
                                          show Xv E q_m_X8_order_ 208 [Value.ref am, Value.int (zi d), Value.int (zi a), Value.int (zi b), Value.int (zi c), Value.int (zi 2), Value.int (zi ((M 1) 4))] [] (q_mw h am (uA (uA M2 1 (M 1)) 4 (u1 (u1 (u1 (M 4) 0 a) 1 b) 2 c))) Q
                                          refine xv (x_aload_n 209 d_X8_order__208 rfl rfl) ?_
                                          refine xv (x_getfield 212 d_X8_order__209 rfl f_8_9 (Nat.le_of_ble_eq_true rfl) (Nat.le_of_ble_eq_true rfl) (q_gf_of m_o rfl)) ?_
                                          refine xv (x_iload 214 d_X8_order__212 rfl rfl) ?_
                                          refine xv (x_ins1 217 (as := [Value.int (zi ((M 1) 4))]) d_X8_order__214 rfl c_8_106 rfl (Nat.le_of_ble_eq_true rfl) (Nat.le_of_ble_eq_true rfl) (Nat.le_of_ble_eq_true rfl) rfl (S_X8_order (E := E) (h := h) (am := am) (M := (uA (uA M2 1 (M 1)) 4 (u1 (u1 (u1 (M 4) 0 a) 1 b) 2 c))))) ?_
                                          show Xv E q_m_X8_order_ 217 [Value.ref am, Value.int (zi d), Value.int (zi a), Value.int (zi b), Value.int (zi c), Value.int (zi 2), Value.int (zi ((M 1) 4))] [Value.int (zi (320 + 8 * ((M 1) 4))), Value.ref (am + 1)] (q_mw h am (uA (uA M2 1 (M 1)) 4 (u1 (u1 (u1 (M 4) 0 a) 1 b) 2 c))) Q
                                          refine xv (x_iconst 218 d_X8_order__217 rfl) ?_
                                          refine xv (x_iadd 219 d_X8_order__218 rfl) ?_
                                          refine xv (x_iload_n 220 d_X8_order__219 rfl rfl) ?_
                                          refine xv (x_iastore 221 d_X8_order__220 rfl (m_s1 (by omega) (by omega))) ?_
                                          show Xv E q_m_X8_order_ 221 [Value.ref am, Value.int (zi d), Value.int (zi a), Value.int (zi b), Value.int (zi c), Value.int (zi 2), Value.int (zi ((M 1) 4))] [] (q_mw h am (uM (uA (uA M2 1 (M 1)) 4 (u1 (u1 (u1 (M 4) 0 a) 1 b) 2 c)) 1 ((320 + 8 * ((M 1) 4)) + 0) d)) Q
                                          refine xv (x_aload_n 222 d_X8_order__221 rfl rfl) ?_
                                          refine xv (x_getfield 225 d_X8_order__222 rfl f_8_9 (Nat.le_of_ble_eq_true rfl) (Nat.le_of_ble_eq_true rfl) (q_gf_of m_o rfl)) ?_
                                          refine xv (x_iload 227 d_X8_order__225 rfl rfl) ?_
                                          refine xv (x_ins1 230 (as := [Value.int (zi ((M 1) 4))]) d_X8_order__227 rfl c_8_106 rfl (Nat.le_of_ble_eq_true rfl) (Nat.le_of_ble_eq_true rfl) (Nat.le_of_ble_eq_true rfl) rfl (S_X8_order (E := E) (h := h) (am := am) (M := (uM (uA (uA M2 1 (M 1)) 4 (u1 (u1 (u1 (M 4) 0 a) 1 b) 2 c)) 1 ((320 + 8 * ((M 1) 4)) + 0) d)))) ?_
                                          show Xv E q_m_X8_order_ 230 [Value.ref am, Value.int (zi d), Value.int (zi a), Value.int (zi b), Value.int (zi c), Value.int (zi 2), Value.int (zi ((M 1) 4))] [Value.int (zi (320 + 8 * ((M 1) 4))), Value.ref (am + 1)] (q_mw h am (uM (uA (uA M2 1 (M 1)) 4 (u1 (u1 (u1 (M 4) 0 a) 1 b) 2 c)) 1 ((320 + 8 * ((M 1) 4)) + 0) d)) Q
                                          refine xv (x_iconst 231 d_X8_order__230 rfl) ?_
                                          refine xv (x_iadd 232 d_X8_order__231 rfl) ?_
                                          refine xv (x_iload 234 d_X8_order__232 rfl rfl) ?_
                                          refine xv (x_iastore 235 d_X8_order__234 rfl (m_s1 (by omega) (by omega))) ?_
                                          show Xv E q_m_X8_order_ 235 [Value.ref am, Value.int (zi d), Value.int (zi a), Value.int (zi b), Value.int (zi c), Value.int (zi 2), Value.int (zi ((M 1) 4))] [] (q_mw h am (uM (uM (uA (uA M2 1 (M 1)) 4 (u1 (u1 (u1 (M 4) 0 a) 1 b) 2 c)) 1 ((320 + 8 * ((M 1) 4)) + 0) d) 1 ((320 + 8 * ((M 1) 4)) + 1) 2)) Q
                                          refine xv (x_aload_n 236 d_X8_order__235 rfl rfl) ?_
                                          refine xv (x_getfield 239 d_X8_order__236 rfl f_8_9 (Nat.le_of_ble_eq_true rfl) (Nat.le_of_ble_eq_true rfl) (q_gf_of m_o rfl)) ?_
                                          refine xv (x_iload 241 d_X8_order__239 rfl rfl) ?_
                                          refine xv (x_ins1 244 (as := [Value.int (zi ((M 1) 4))]) d_X8_order__241 rfl c_8_106 rfl (Nat.le_of_ble_eq_true rfl) (Nat.le_of_ble_eq_true rfl) (Nat.le_of_ble_eq_true rfl) rfl (S_X8_order (E := E) (h := h) (am := am) (M := (uM (uM (uA (uA M2 1 (M 1)) 4 (u1 (u1 (u1 (M 4) 0 a) 1 b) 2 c)) 1 ((320 + 8 * ((M 1) 4)) + 0) d) 1 ((320 + 8 * ((M 1) 4)) + 1) 2)))) ?_
                                          show Xv E q_m_X8_order_ 244 [Value.ref am, Value.int (zi d), Value.int (zi a), Value.int (zi b), Value.int (zi c), Value.int (zi 2), Value.int (zi ((M 1) 4))] [Value.int (zi (320 + 8 * ((M 1) 4))), Value.ref (am + 1)] (q_mw h am (uM (uM (uA (uA M2 1 (M 1)) 4 (u1 (u1 (u1 (M 4) 0 a) 1 b) 2 c)) 1 ((320 + 8 * ((M 1) 4)) + 0) d) 1 ((320 + 8 * ((M 1) 4)) + 1) 2)) Q
                                          refine xv (x_iconst 245 d_X8_order__244 rfl) ?_
                                          refine xv (x_iadd 246 d_X8_order__245 rfl) ?_
                                          refine xv (x_iconst 247 d_X8_order__246 rfl) ?_
                                          refine xv (x_iastore 248 d_X8_order__247 rfl (m_s1 (by omega) (by omega))) ?_
                                          show Xv E q_m_X8_order_ 248 [Value.ref am, Value.int (zi d), Value.int (zi a), Value.int (zi b), Value.int (zi c), Value.int (zi 2), Value.int (zi ((M 1) 4))] [] (q_mw h am (uM (uM (uM (uA (uA M2 1 (M 1)) 4 (u1 (u1 (u1 (M 4) 0 a) 1 b) 2 c)) 1 ((320 + 8 * ((M 1) 4)) + 0) d) 1 ((320 + 8 * ((M 1) 4)) + 1) 2) 1 ((320 + 8 * ((M 1) 4)) + 2) 0)) Q
                                          refine xv (x_aload_n 249 d_X8_order__248 rfl rfl) ?_
                                          refine xv (x_getfield 252 d_X8_order__249 rfl f_8_9 (Nat.le_of_ble_eq_true rfl) (Nat.le_of_ble_eq_true rfl) (q_gf_of m_o rfl)) ?_
                                          refine xv (x_iload 254 d_X8_order__252 rfl rfl) ?_
                                          refine xv (x_ins1 257 (as := [Value.int (zi ((M 1) 4))]) d_X8_order__254 rfl c_8_106 rfl (Nat.le_of_ble_eq_true rfl) (Nat.le_of_ble_eq_true rfl) (Nat.le_of_ble_eq_true rfl) rfl (S_X8_order (E := E) (h := h) (am := am) (M := (uM (uM (uM (uA (uA M2 1 (M 1)) 4 (u1 (u1 (u1 (M 4) 0 a) 1 b) 2 c)) 1 ((320 + 8 * ((M 1) 4)) + 0) d) 1 ((320 + 8 * ((M 1) 4)) + 1) 2) 1 ((320 + 8 * ((M 1) 4)) + 2) 0)))) ?_
                                          show Xv E q_m_X8_order_ 257 [Value.ref am, Value.int (zi d), Value.int (zi a), Value.int (zi b), Value.int (zi c), Value.int (zi 2), Value.int (zi ((M 1) 4))] [Value.int (zi (320 + 8 * ((M 1) 4))), Value.ref (am + 1)] (q_mw h am (uM (uM (uM (uA (uA M2 1 (M 1)) 4 (u1 (u1 (u1 (M 4) 0 a) 1 b) 2 c)) 1 ((320 + 8 * ((M 1) 4)) + 0) d) 1 ((320 + 8 * ((M 1) 4)) + 1) 2) 1 ((320 + 8 * ((M 1) 4)) + 2) 0)) Q
                                          refine xv (x_iconst 258 d_X8_order__257 rfl) ?_
                                          refine xv (x_iadd 259 d_X8_order__258 rfl) ?_
                                          refine xv (x_iconst 260 d_X8_order__259 rfl) ?_
                                          refine xv (x_iastore 261 d_X8_order__260 rfl (m_s1 (by omega) (by omega))) ?_
                                          show Xv E q_m_X8_order_ 261 [Value.ref am, Value.int (zi d), Value.int (zi a), Value.int (zi b), Value.int (zi c), Value.int (zi 2), Value.int (zi ((M 1) 4))] [] (q_mw h am (uM (uM (uM (uM (uA (uA M2 1 (M 1)) 4 (u1 (u1 (u1 (M 4) 0 a) 1 b) 2 c)) 1 ((320 + 8 * ((M 1) 4)) + 0) d) 1 ((320 + 8 * ((M 1) 4)) + 1) 2) 1 ((320 + 8 * ((M 1) 4)) + 2) 0) 1 ((320 + 8 * ((M 1) 4)) + 3) (-1))) Q
                                          refine xv (x_aload_n 262 d_X8_order__261 rfl rfl) ?_
                                          refine xv (x_getfield 265 d_X8_order__262 rfl f_8_9 (Nat.le_of_ble_eq_true rfl) (Nat.le_of_ble_eq_true rfl) (q_gf_of m_o rfl)) ?_
                                          refine xv (x_iload 267 d_X8_order__265 rfl rfl) ?_
                                          refine xv (x_ins1 270 (as := [Value.int (zi ((M 1) 4))]) d_X8_order__267 rfl c_8_106 rfl (Nat.le_of_ble_eq_true rfl) (Nat.le_of_ble_eq_true rfl) (Nat.le_of_ble_eq_true rfl) rfl (S_X8_order (E := E) (h := h) (am := am) (M := (uM (uM (uM (uM (uA (uA M2 1 (M 1)) 4 (u1 (u1 (u1 (M 4) 0 a) 1 b) 2 c)) 1 ((320 + 8 * ((M 1) 4)) + 0) d) 1 ((320 + 8 * ((M 1) 4)) + 1) 2) 1 ((320 + 8 * ((M 1) 4)) + 2) 0) 1 ((320 + 8 * ((M 1) 4)) + 3) (-1))))) ?_
                                          show Xv E q_m_X8_order_ 270 [Value.ref am, Value.int (zi d), Value.int (zi a), Value.int (zi b), Value.int (zi c), Value.int (zi 2), Value.int (zi ((M 1) 4))] [Value.int (zi (320 + 8 * ((M 1) 4))), Value.ref (am + 1)] (q_mw h am (uM (uM (uM (uM (uA (uA M2 1 (M 1)) 4 (u1 (u1 (u1 (M 4) 0 a) 1 b) 2 c)) 1 ((320 + 8 * ((M 1) 4)) + 0) d) 1 ((320 + 8 * ((M 1) 4)) + 1) 2) 1 ((320 + 8 * ((M 1) 4)) + 2) 0) 1 ((320 + 8 * ((M 1) 4)) + 3) (-1))) Q
                                          refine xv (x_iconst 271 d_X8_order__270 rfl) ?_
                                          refine xv (x_iadd 272 d_X8_order__271 rfl) ?_
                                          refine xv (x_iconst 273 d_X8_order__272 rfl) ?_
                                          refine xv (x_iastore 274 d_X8_order__273 rfl (m_s1 (by omega) (by omega))) ?_
                                          show Xv E q_m_X8_order_ 274 [Value.ref am, Value.int (zi d), Value.int (zi a), Value.int (zi b), Value.int (zi c), Value.int (zi 2), Value.int (zi ((M 1) 4))] [] (q_mw h am (uM (uM (uM (uM (uM (uA (uA M2 1 (M 1)) 4 (u1 (u1 (u1 (M 4) 0 a) 1 b) 2 c)) 1 ((320 + 8 * ((M 1) 4)) + 0) d) 1 ((320 + 8 * ((M 1) 4)) + 1) 2) 1 ((320 + 8 * ((M 1) 4)) + 2) 0) 1 ((320 + 8 * ((M 1) 4)) + 3) (-1)) 1 ((320 + 8 * ((M 1) 4)) + 4) (-1))) Q
                                          refine xv (x_aload_n 275 d_X8_order__274 rfl rfl) ?_
                                          refine xv (x_getfield 278 d_X8_order__275 rfl f_8_19 (Nat.le_of_ble_eq_true rfl) (Nat.le_of_ble_eq_true rfl) (q_gf_of m_o rfl)) ?_
                                          refine xv (x_iconst 279 d_X8_order__278 rfl) ?_
                                          refine xv (x_aload_n 280 d_X8_order__279 rfl rfl) ?_
                                          refine xv (x_getfield 283 d_X8_order__280 rfl f_8_9 (Nat.le_of_ble_eq_true rfl) (Nat.le_of_ble_eq_true rfl) (q_gf_of m_o rfl)) ?_
                                          refine xv (x_iload 285 d_X8_order__283 rfl rfl) ?_
                                          refine xv (x_ins1 288 (as := [Value.int (zi ((M 1) 4))]) d_X8_order__285 rfl c_8_106 rfl (Nat.le_of_ble_eq_true rfl) (Nat.le_of_ble_eq_true rfl) (Nat.le_of_ble_eq_true rfl) rfl (S_X8_order (E := E) (h := h) (am := am) (M := (uM (uM (uM (uM (uM (uA (uA M2 1 (M 1)) 4 (u1 (u1 (u1 (M 4) 0 a) 1 b) 2 c)) 1 ((320 + 8 * ((M 1) 4)) + 0) d) 1 ((320 + 8 * ((M 1) 4)) + 1) 2) 1 ((320 + 8 * ((M 1) 4)) + 2) 0) 1 ((320 + 8 * ((M 1) 4)) + 3) (-1)) 1 ((320 + 8 * ((M 1) 4)) + 4) (-1))))) ?_
                                          show Xv E q_m_X8_order_ 288 [Value.ref am, Value.int (zi d), Value.int (zi a), Value.int (zi b), Value.int (zi c), Value.int (zi 2), Value.int (zi ((M 1) 4))] [Value.int (zi (320 + 8 * ((M 1) 4))), Value.ref (am + 1), Value.int (zi 0), Value.ref (am + 4)] (q_mw h am (uM (uM (uM (uM (uM (uA (uA M2 1 (M 1)) 4 (u1 (u1 (u1 (M 4) 0 a) 1 b) 2 c)) 1 ((320 + 8 * ((M 1) 4)) + 0) d) 1 ((320 + 8 * ((M 1) 4)) + 1) 2) 1 ((320 + 8 * ((M 1) 4)) + 2) 0) 1 ((320 + 8 * ((M 1) 4)) + 3) (-1)) 1 ((320 + 8 * ((M 1) 4)) + 4) (-1))) Q
                                          refine xv (x_iconst 289 d_X8_order__288 rfl) ?_
                                          refine xv (x_iadd 290 d_X8_order__289 rfl) ?_
                                          refine xv (x_iconst 291 d_X8_order__290 rfl) ?_
                                          refine xv (x_copy 294 d_X8_order__291 rfl rfl rfl (Nat.le_of_ble_eq_true rfl) (Nat.le_of_ble_eq_true rfl) (Nat.le_of_ble_eq_true rfl) (m_cpy 4 1 m_a4 m_a1 m_w1 (by omega) (by omega) (by omega) (by omega) (by omega) (by decide) (by decide))) ?_
                                          show Xv E q_m_X8_order_ 294 [Value.ref am, Value.int (zi d), Value.int (zi a), Value.int (zi b), Value.int (zi c), Value.int (zi 2), Value.int (zi ((M 1) 4))] [] (q_mw h am (uA (uM (uM (uM (uM (uM (uA (uA M2 1 (M 1)) 4 (u1 (u1 (u1 (M 4) 0 a) 1 b) 2 c)) 1 ((320 + 8 * ((M 1) 4)) + 0) d) 1 ((320 + 8 * ((M 1) 4)) + 1) 2) 1 ((320 + 8 * ((M 1) 4)) + 2) 0) 1 ((320 + 8 * ((M 1) 4)) + 3) (-1)) 1 ((320 + 8 * ((M 1) 4)) + 4) (-1)) 1 (cpI (u1 (u1 (u1 (M 4) 0 a) 1 b) 2 c) (u1 (u1 (u1 (u1 (u1 (M 1) ((320 + 8 * ((M 1) 4)) + 0) d) ((320 + 8 * ((M 1) 4)) + 1) 2) ((320 + 8 * ((M 1) 4)) + 2) 0) ((320 + 8 * ((M 1) 4)) + 3) (-1)) ((320 + 8 * ((M 1) 4)) + 4) (-1)) 0 ((320 + 8 * ((M 1) 4)) + 5) 3))) Q
                                          refine xv (x_aload_n 295 d_X8_order__294 rfl rfl) ?_
                                          refine xv (x_getfield 298 d_X8_order__295 rfl f_8_9 (Nat.le_of_ble_eq_true rfl) (Nat.le_of_ble_eq_true rfl) (q_gf_of m_o rfl)) ?_
                                          refine xv (x_iconst 299 d_X8_order__298 rfl) ?_
                                          refine xv (x_dup2 300 d_X8_order__299 rfl rfl rfl) ?_
                                          refine xv (x_iaload 301 d_X8_order__300 rfl ((m_g1 (by omega) (by omega)).trans (rfl : _ = some (Value.int (zi ((cpI (u1 (u1 (u1 (M 4) 0 a) 1 b) 2 c) (u1 (u1 (u1 (u1 (u1 (M 1) ((320 + 8 * ((M 1) 4)) + 0) d) ((320 + 8 * ((M 1) 4)) + 1) 2) ((320 + 8 * ((M 1) 4)) + 2) 0) ((320 + 8 * ((M 1) 4)) + 3) (-1)) ((320 + 8 * ((M 1) 4)) + 4) (-1)) 0 ((320 + 8 * ((M 1) 4)) + 5) 3) 4)))))) ?_
                                          refine xv (x_iconst 302 d_X8_order__301 rfl) ?_
                                          refine xv (x_iadd 303 d_X8_order__302 rfl) ?_
                                          refine xv (x_iastore 304 d_X8_order__303 rfl (m_s1 (by omega) (by omega))) ?_
                                          show Xv E q_m_X8_order_ 304 [Value.ref am, Value.int (zi d), Value.int (zi a), Value.int (zi b), Value.int (zi c), Value.int (zi 2), Value.int (zi ((M 1) 4))] [] (q_mw h am (uM (uA (uM (uM (uM (uM (uM (uA (uA M2 1 (M 1)) 4 (u1 (u1 (u1 (M 4) 0 a) 1 b) 2 c)) 1 ((320 + 8 * ((M 1) 4)) + 0) d) 1 ((320 + 8 * ((M 1) 4)) + 1) 2) 1 ((320 + 8 * ((M 1) 4)) + 2) 0) 1 ((320 + 8 * ((M 1) 4)) + 3) (-1)) 1 ((320 + 8 * ((M 1) 4)) + 4) (-1)) 1 (cpI (u1 (u1 (u1 (M 4) 0 a) 1 b) 2 c) (u1 (u1 (u1 (u1 (u1 (M 1) ((320 + 8 * ((M 1) 4)) + 0) d) ((320 + 8 * ((M 1) 4)) + 1) 2) ((320 + 8 * ((M 1) 4)) + 2) 0) ((320 + 8 * ((M 1) 4)) + 3) (-1)) ((320 + 8 * ((M 1) 4)) + 4) (-1)) 0 ((320 + 8 * ((M 1) 4)) + 5) 3)) 1 4 (((cpI (u1 (u1 (u1 (M 4) 0 a) 1 b) 2 c) (u1 (u1 (u1 (u1 (u1 (M 1) ((320 + 8 * ((M 1) 4)) + 0) d) ((320 + 8 * ((M 1) 4)) + 1) 2) ((320 + 8 * ((M 1) 4)) + 2) 0) ((320 + 8 * ((M 1) 4)) + 3) (-1)) ((320 + 8 * ((M 1) 4)) + 4) (-1)) 0 ((320 + 8 * ((M 1) 4)) + 5) 3) 4) + 1))) Q
                                          refine xv (x_iload 306 d_X8_order__304 rfl rfl) ?_
                                          refine xv_r (x_ireturn d_X8_order__306 rfl rfl) ?_
                                          have er : mOrd (M 1) d a b c = (0, 0) := by first | (exfalso; omega) | (unfold mOrd; repeat (first | rw [if_pos (by omega)] | rw [if_neg (by omega)]))
                                          have ec : cntO b c = 2 := by first | (exfalso; omega) | (unfold cntO; repeat (first | rw [if_pos (by omega)] | rw [if_neg (by omega)]))
                                          refine hQ _ _ ?_
                                          unfold mMu2
                                          rw [er, if_pos rfl, ec]
                                          refine ⟨rfl, ?_⟩
                                          unfold lnO
                                          rw [hM2, ← eM]
                                          simp only [uM_uA, uA_uA, uA_eq]
                                          rfl
                                        · omega
                                      · refine xv (x_aload_n 177 d_X8_order__176 rfl rfl) ?_
                                        refine xv (x_bipush 179 d_X8_order__177 rfl rfl) ?_
                                        refine xv (x_aload_n 180 d_X8_order__179 rfl rfl) ?_
                                        refine xv (x_getfield 183 d_X8_order__180 rfl f_8_19 (Nat.le_of_ble_eq_true rfl) (Nat.le_of_ble_eq_true rfl) (q_gf_of m_o rfl)) ?_
                                        refine xv (x_iload 185 d_X8_order__183 rfl rfl) ?_
                                        refine xv (x_iaload 186 d_X8_order__185 rfl ((m_g4 (by omega) (by omega)).trans (rfl : _ = some (Value.int (zi b))))) ?_
                                        obtain ⟨r186, h186, e186, z186, y186⟩ := S_X8_refuse (E := E) (h := h) (am := am) (M := (uM (uM (uM (uM M 0 5 0) 4 0 a) 4 1 b) 4 2 c)) (y := 12) (z := b) 
                                        subst z186
                                        subst y186
                                        refine xv (x_inv1 189 (as := [Value.int (zi 12), Value.int (zi b)]) d_X8_order__186 rfl c_8_90 rfl (Nat.le_of_ble_eq_true rfl) (Nat.le_of_ble_eq_true rfl) m_o (Nat.le_of_ble_eq_true rfl) (Nat.le_of_ble_eq_true rfl) rfl e186) ?_
                                        show Xv E q_m_X8_order_ 189 [Value.ref am, Value.int (zi d), Value.int (zi a), Value.int (zi b), Value.int (zi c), Value.int (zi 2), Value.int (zi (0 + 1))] [Value.int (zi 0)] (q_mw h am (uM (uM (uM (uM (uM (uM (uM M 0 5 0) 4 0 a) 4 1 b) 4 2 c) 0 5 1) 0 6 12) 0 7 b)) Q
                                        refine xv_r (x_ireturn d_X8_order__189 rfl rfl) ?_
                                        have er : mOrd (M 1) d a b c = (12, b) := by first | (exfalso; omega) | (unfold mOrd; repeat (first | rw [if_pos (by omega)] | rw [if_neg (by omega)]))
                                        refine hQ _ _ ?_
                                        unfold mMu2
                                        rw [er]
                                        exact ⟨rfl, rfl⟩
                                  · refine xv (x_aload_n 177 d_X8_order__176 rfl rfl) ?_
                                    refine xv (x_bipush 179 d_X8_order__177 rfl rfl) ?_
                                    refine xv (x_aload_n 180 d_X8_order__179 rfl rfl) ?_
                                    refine xv (x_getfield 183 d_X8_order__180 rfl f_8_19 (Nat.le_of_ble_eq_true rfl) (Nat.le_of_ble_eq_true rfl) (q_gf_of m_o rfl)) ?_
                                    refine xv (x_iload 185 d_X8_order__183 rfl rfl) ?_
                                    refine xv (x_iaload 186 d_X8_order__185 rfl ((m_g4 (by omega) (by omega)).trans (rfl : _ = some (Value.int (zi a))))) ?_
                                    obtain ⟨r186, h186, e186, z186, y186⟩ := S_X8_refuse (E := E) (h := h) (am := am) (M := (uM (uM (uM (uM M 0 5 0) 4 0 a) 4 1 b) 4 2 c)) (y := 12) (z := a) 
                                    subst z186
                                    subst y186
                                    refine xv (x_inv1 189 (as := [Value.int (zi 12), Value.int (zi a)]) d_X8_order__186 rfl c_8_90 rfl (Nat.le_of_ble_eq_true rfl) (Nat.le_of_ble_eq_true rfl) m_o (Nat.le_of_ble_eq_true rfl) (Nat.le_of_ble_eq_true rfl) rfl e186) ?_
                                    show Xv E q_m_X8_order_ 189 [Value.ref am, Value.int (zi d), Value.int (zi a), Value.int (zi b), Value.int (zi c), Value.int (zi 2), Value.int (zi 0)] [Value.int (zi 0)] (q_mw h am (uM (uM (uM (uM (uM (uM (uM M 0 5 0) 4 0 a) 4 1 b) 4 2 c) 0 5 1) 0 6 12) 0 7 a)) Q
                                    refine xv_r (x_ireturn d_X8_order__189 rfl rfl) ?_
                                    have er : mOrd (M 1) d a b c = (12, a) := by first | (exfalso; omega) | (unfold mOrd; repeat (first | rw [if_pos (by omega)] | rw [if_neg (by omega)]))
                                    refine hQ _ _ ?_
                                    unfold mMu2
                                    rw [er]
                                    exact ⟨rfl, rfl⟩
                              · refine xv (x_aload_n 142 d_X8_order__141 rfl rfl) ?_
                                refine xv (x_iconst 143 d_X8_order__142 rfl) ?_
                                refine xv (x_iconst 144 d_X8_order__143 rfl) ?_
                                obtain ⟨r144, h144, e144, z144, y144⟩ := S_X8_refuse (E := E) (h := h) (am := am) (M := (uM (uM (uM (uM M 0 5 0) 4 0 a) 4 1 b) 4 2 c)) (y := 3) (z := 0) 
                                subst z144
                                subst y144
                                refine xv (x_inv1 147 (as := [Value.int (zi 3), Value.int (zi 0)]) d_X8_order__144 rfl c_8_90 rfl (Nat.le_of_ble_eq_true rfl) (Nat.le_of_ble_eq_true rfl) m_o (Nat.le_of_ble_eq_true rfl) (Nat.le_of_ble_eq_true rfl) rfl e144) ?_
                                show Xv E q_m_X8_order_ 147 [Value.ref am, Value.int (zi d), Value.int (zi a), Value.int (zi b), Value.int (zi c), Value.int (zi 2), Value.int (zi (((0 + 1) + 1) + 1))] [Value.int (zi 0)] (q_mw h am (uM (uM (uM (uM (uM (uM (uM M 0 5 0) 4 0 a) 4 1 b) 4 2 c) 0 5 1) 0 6 3) 0 7 0)) Q
                                refine xv_r (x_ireturn d_X8_order__147 rfl rfl) ?_
                                have er : mOrd (M 1) d a b c = (3, 0) := by first | (exfalso; omega) | (unfold mOrd; repeat (first | rw [if_pos (by omega)] | rw [if_neg (by omega)]))
                                refine hQ _ _ ?_
                                unfold mMu2
                                rw [er]
                                exact ⟨rfl, rfl⟩
                            · refine xv (x_aload_n 124 d_X8_order__123 rfl rfl) ?_
                              refine xv (x_iconst 125 d_X8_order__124 rfl) ?_
                              refine xv (x_iconst 126 d_X8_order__125 rfl) ?_
                              obtain ⟨r126, h126, e126, z126, y126⟩ := S_X8_refuse (E := E) (h := h) (am := am) (M := (uM (uM (uM (uM M 0 5 0) 4 0 a) 4 1 b) 4 2 c)) (y := 2) (z := 0) 
                              subst z126
                              subst y126
                              refine xv (x_inv1 129 (as := [Value.int (zi 2), Value.int (zi 0)]) d_X8_order__126 rfl c_8_90 rfl (Nat.le_of_ble_eq_true rfl) (Nat.le_of_ble_eq_true rfl) m_o (Nat.le_of_ble_eq_true rfl) (Nat.le_of_ble_eq_true rfl) rfl e126) ?_
                              show Xv E q_m_X8_order_ 129 [Value.ref am, Value.int (zi d), Value.int (zi a), Value.int (zi b), Value.int (zi c), Value.int (zi 2), Value.int (zi (((0 + 1) + 1) + 1))] [Value.int (zi 0)] (q_mw h am (uM (uM (uM (uM (uM (uM (uM M 0 5 0) 4 0 a) 4 1 b) 4 2 c) 0 5 1) 0 6 2) 0 7 0)) Q
                              refine xv_r (x_ireturn d_X8_order__129 rfl rfl) ?_
                              have er : mOrd (M 1) d a b c = (2, 0) := by first | (exfalso; omega) | (unfold mOrd; repeat (first | rw [if_pos (by omega)] | rw [if_neg (by omega)]))
                              refine hQ _ _ ?_
                              unfold mMu2
                              rw [er]
                              exact ⟨rfl, rfl⟩
                      · omega
                    · replace k69 := bI_0.mp k69
                      refine xv (x_iload 74 d_X8_order__72 rfl rfl) ?_
                      refine v_if_eq 88 77 d_X8_order__74 rfl rfl (by omega) (by omega) (fun k74 => ?_) (fun k74 => ?_)
                      · omega
                      · refine xv (x_aload_n 78 d_X8_order__77 rfl rfl) ?_
                        refine xv (x_getfield 81 d_X8_order__78 rfl f_8_19 (Nat.le_of_ble_eq_true rfl) (Nat.le_of_ble_eq_true rfl) (q_gf_of m_o rfl)) ?_
                        refine xv (x_iload 83 d_X8_order__81 rfl rfl) ?_
                        refine xv (x_iaload 84 d_X8_order__83 rfl ((m_g4 (by omega) (by omega)).trans (rfl : _ = some (Value.int (zi c))))) ?_
                        refine xv (x_iconst 85 d_X8_order__84 rfl) ?_
                        refine v_icmp_eq 95 88 d_X8_order__85 rfl rfl (by omega) (by omega) (by omega) (by omega) (fun k85 => ?_) (fun k85 => ?_)
                        · refine xv (x_iinc 98 d_X8_order__95 rfl rfl) ?_
                          show Xv E q_m_X8_order_ 98 [Value.ref am, Value.int (zi d), Value.int (zi a), Value.int (zi b), Value.int (zi c), Value.int (zi 2), Value.int (zi (((0 + 1) + 1) + 1))] [] (q_mw h am (uM (uM (uM (uM M 0 5 0) 4 0 a) 4 1 b) 4 2 c)) Q
                          refine xv (x_goto 52 d_X8_order__98 rfl) ?_
                          refine xv (x_iload 54 d_X8_order__52 rfl rfl) ?_
                          refine xv (x_iconst 55 d_X8_order__54 rfl) ?_
                          refine v_icmp_ge 101 58 d_X8_order__55 rfl rfl (by omega) (by omega) (by omega) (by omega) (fun k55 => ?_) (fun k55 => ?_)
                          · refine xv (x_iload_n 102 d_X8_order__101 rfl rfl) ?_
                            refine xv (x_iconst 103 d_X8_order__102 rfl) ?_
                            refine xv (x_sipush 106 d_X8_order__103 rfl rfl) ?_
                            refine xv (x_ins1 109 (as := [Value.int (zi d), Value.int (zi 0), Value.int (zi 999)]) d_X8_order__106 rfl c_8_71 rfl (Nat.le_of_ble_eq_true rfl) (Nat.le_of_ble_eq_true rfl) (Nat.le_of_ble_eq_true rfl) rfl (S_X8_in (E := E) (h := h) (am := am) (M := (uM (uM (uM (uM M 0 5 0) 4 0 a) 4 1 b) 4 2 c)) (by first | omega | (rw [show (uM (uM (uM (uM M 0 5 0) 4 0 a) 4 1 b) 4 2 c) 1 = (M 1) from rfl]; omega)) (by first | omega | (rw [show (uM (uM (uM (uM M 0 5 0) 4 0 a) 4 1 b) 4 2 c) 1 = (M 1) from rfl]; omega)) (by first | omega | (rw [show (uM (uM (uM (uM M 0 5 0) 4 0 a) 4 1 b) 4 2 c) 1 = (M 1) from rfl]; omega)) (by first | omega | (rw [show (uM (uM (uM (uM M 0 5 0) 4 0 a) 4 1 b) 4 2 c) 1 = (M 1) from rfl]; omega)) (by first | omega | (rw [show (uM (uM (uM (uM M 0 5 0) 4 0 a) 4 1 b) 4 2 c) 1 = (M 1) from rfl]; omega)) (by first | omega | (rw [show (uM (uM (uM (uM M 0 5 0) 4 0 a) 4 1 b) 4 2 c) 1 = (M 1) from rfl]; omega)))) ?_
                            show Xv E q_m_X8_order_ 109 [Value.ref am, Value.int (zi d), Value.int (zi a), Value.int (zi b), Value.int (zi c), Value.int (zi 2), Value.int (zi (((0 + 1) + 1) + 1))] [Value.int (zi (bI (inn d 0 999)))] (q_mw h am (uM (uM (uM (uM M 0 5 0) 4 0 a) 4 1 b) 4 2 c)) Q
                            refine v_if_eq 123 112 d_X8_order__109 rfl rfl (by have := bI_r (inn d 0 999); omega) (by have := bI_r (inn d 0 999); omega) (fun k109 => ?_) (fun k109 => ?_)
                            · replace k109 := bI_0.mp k109
                              refine xv (x_aload_n 124 d_X8_order__123 rfl rfl) ?_
                              refine xv (x_iconst 125 d_X8_order__124 rfl) ?_
                              refine xv (x_iconst 126 d_X8_order__125 rfl) ?_
                              obtain ⟨r126, h126, e126, z126, y126⟩ := S_X8_refuse (E := E) (h := h) (am := am) (M := (uM (uM (uM (uM M 0 5 0) 4 0 a) 4 1 b) 4 2 c)) (y := 2) (z := 0) 
                              subst z126
                              subst y126
                              refine xv (x_inv1 129 (as := [Value.int (zi 2), Value.int (zi 0)]) d_X8_order__126 rfl c_8_90 rfl (Nat.le_of_ble_eq_true rfl) (Nat.le_of_ble_eq_true rfl) m_o (Nat.le_of_ble_eq_true rfl) (Nat.le_of_ble_eq_true rfl) rfl e126) ?_
                              show Xv E q_m_X8_order_ 129 [Value.ref am, Value.int (zi d), Value.int (zi a), Value.int (zi b), Value.int (zi c), Value.int (zi 2), Value.int (zi (((0 + 1) + 1) + 1))] [Value.int (zi 0)] (q_mw h am (uM (uM (uM (uM (uM (uM (uM M 0 5 0) 4 0 a) 4 1 b) 4 2 c) 0 5 1) 0 6 2) 0 7 0)) Q
                              refine xv_r (x_ireturn d_X8_order__129 rfl rfl) ?_
                              have er : mOrd (M 1) d a b c = (2, 0) := by first | (exfalso; omega) | (unfold mOrd; repeat (first | rw [if_pos (by omega)] | rw [if_neg (by omega)]))
                              refine hQ _ _ ?_
                              unfold mMu2
                              rw [er]
                              exact ⟨rfl, rfl⟩
                            · replace k109 := bI_n0.mp k109
                              refine xv (x_iload_n 113 d_X8_order__112 rfl rfl) ?_
                              refine xv (x_iconst 114 d_X8_order__113 rfl) ?_
                              refine v_icmp_ne 130 117 d_X8_order__114 rfl rfl (by omega) (by omega) (by omega) (by omega) (fun k114 => ?_) (fun k114 => ?_)
                              · refine xv (x_aload_n 131 d_X8_order__130 rfl rfl) ?_
                                refine xv (x_getfield 134 d_X8_order__131 rfl f_8_9 (Nat.le_of_ble_eq_true rfl) (Nat.le_of_ble_eq_true rfl) (q_gf_of m_o rfl)) ?_
                                refine xv (x_iconst 135 d_X8_order__134 rfl) ?_
                                refine xv (x_iaload 136 d_X8_order__135 rfl ((m_g1 (by omega) (by omega)).trans (rfl : _ = some (Value.int (zi ((M 1) 4)))))) ?_
                                have q_65 : -1000000 ≤ (M 1) 4 ∧ (M 1) 4 ≤ 1000000 := hr _
                                refine xv (x_bipush 138 d_X8_order__136 rfl rfl) ?_
                                refine v_icmp_ne 148 141 d_X8_order__138 rfl rfl (by omega) (by omega) (by omega) (by omega) (fun k138 => ?_) (fun k138 => ?_)
                                · refine xv (x_iconst 149 d_X8_order__148 rfl) ?_
                                  refine xv (x_istore 151 d_X8_order__149 rfl (Nat.le_of_ble_eq_true rfl)) ?_
                                  show Xv E q_m_X8_order_ 151 [Value.ref am, Value.int (zi d), Value.int (zi a), Value.int (zi b), Value.int (zi c), Value.int (zi 2), Value.int (zi 0)] [] (q_mw h am (uM (uM (uM (uM M 0 5 0) 4 0 a) 4 1 b) 4 2 c)) Q
                                  refine xv (x_iload 153 d_X8_order__151 rfl rfl) ?_
                                  refine xv (x_iload 155 d_X8_order__153 rfl rfl) ?_
                                  refine v_icmp_ge 196 158 d_X8_order__155 rfl rfl (by omega) (by omega) (by omega) (by omega) (fun k155 => ?_) (fun k155 => ?_)
                                  · omega
                                  · refine xv (x_aload_n 159 d_X8_order__158 rfl rfl) ?_
                                    refine xv (x_getfield 162 d_X8_order__159 rfl f_8_9 (Nat.le_of_ble_eq_true rfl) (Nat.le_of_ble_eq_true rfl) (q_gf_of m_o rfl)) ?_
                                    refine xv (x_bipush 164 d_X8_order__162 rfl rfl) ?_
                                    refine xv (x_aload_n 165 d_X8_order__164 rfl rfl) ?_
                                    refine xv (x_getfield 168 d_X8_order__165 rfl f_8_19 (Nat.le_of_ble_eq_true rfl) (Nat.le_of_ble_eq_true rfl) (q_gf_of m_o rfl)) ?_
                                    refine xv (x_iload 170 d_X8_order__168 rfl rfl) ?_
                                    refine xv (x_iaload 171 d_X8_order__170 rfl ((m_g4 (by omega) (by omega)).trans (rfl : _ = some (Value.int (zi a))))) ?_
                                    refine xv (x_iadd 172 d_X8_order__171 rfl) ?_
                                    refine xv (x_iaload 173 d_X8_order__172 rfl ((m_g1 (by omega) (by omega)).trans (rfl : _ = some (Value.int (zi ((M 1) (8 + a))))))) ?_
                                    have q_66 : -1000000 ≤ (M 1) (8 + a) ∧ (M 1) (8 + a) ≤ 1000000 := hr _
                                    refine v_if_eq 190 176 d_X8_order__173 rfl rfl (by omega) (by omega) (fun k173 => ?_) (fun k173 => ?_)
                                    · refine xv (x_iinc 193 d_X8_order__190 rfl rfl) ?_
                                      show Xv E q_m_X8_order_ 193 [Value.ref am, Value.int (zi d), Value.int (zi a), Value.int (zi b), Value.int (zi c), Value.int (zi 2), Value.int (zi (0 + 1))] [] (q_mw h am (uM (uM (uM (uM M 0 5 0) 4 0 a) 4 1 b) 4 2 c)) Q
                                      refine xv (x_goto 151 d_X8_order__193 rfl) ?_
                                      refine xv (x_iload 153 d_X8_order__151 rfl rfl) ?_
                                      refine xv (x_iload 155 d_X8_order__153 rfl rfl) ?_
                                      refine v_icmp_ge 196 158 d_X8_order__155 rfl rfl (by omega) (by omega) (by omega) (by omega) (fun k155 => ?_) (fun k155 => ?_)
                                      · omega
                                      · refine xv (x_aload_n 159 d_X8_order__158 rfl rfl) ?_
                                        refine xv (x_getfield 162 d_X8_order__159 rfl f_8_9 (Nat.le_of_ble_eq_true rfl) (Nat.le_of_ble_eq_true rfl) (q_gf_of m_o rfl)) ?_
                                        refine xv (x_bipush 164 d_X8_order__162 rfl rfl) ?_
                                        refine xv (x_aload_n 165 d_X8_order__164 rfl rfl) ?_
                                        refine xv (x_getfield 168 d_X8_order__165 rfl f_8_19 (Nat.le_of_ble_eq_true rfl) (Nat.le_of_ble_eq_true rfl) (q_gf_of m_o rfl)) ?_
                                        refine xv (x_iload 170 d_X8_order__168 rfl rfl) ?_
                                        refine xv (x_iaload 171 d_X8_order__170 rfl ((m_g4 (by omega) (by omega)).trans (rfl : _ = some (Value.int (zi b))))) ?_
                                        refine xv (x_iadd 172 d_X8_order__171 rfl) ?_
                                        refine xv (x_iaload 173 d_X8_order__172 rfl ((m_g1 (by omega) (by omega)).trans (rfl : _ = some (Value.int (zi ((M 1) (8 + b))))))) ?_
                                        have q_67 : -1000000 ≤ (M 1) (8 + b) ∧ (M 1) (8 + b) ≤ 1000000 := hr _
                                        refine v_if_eq 190 176 d_X8_order__173 rfl rfl (by omega) (by omega) (fun k173 => ?_) (fun k173 => ?_)
                                        · refine xv (x_iinc 193 d_X8_order__190 rfl rfl) ?_
                                          show Xv E q_m_X8_order_ 193 [Value.ref am, Value.int (zi d), Value.int (zi a), Value.int (zi b), Value.int (zi c), Value.int (zi 2), Value.int (zi ((0 + 1) + 1))] [] (q_mw h am (uM (uM (uM (uM M 0 5 0) 4 0 a) 4 1 b) 4 2 c)) Q
                                          refine xv (x_goto 151 d_X8_order__193 rfl) ?_
                                          refine xv (x_iload 153 d_X8_order__151 rfl rfl) ?_
                                          refine xv (x_iload 155 d_X8_order__153 rfl rfl) ?_
                                          refine v_icmp_ge 196 158 d_X8_order__155 rfl rfl (by omega) (by omega) (by omega) (by omega) (fun k155 => ?_) (fun k155 => ?_)
                                          · refine xv (x_aload_n 197 d_X8_order__196 rfl rfl) ?_
                                            obtain ⟨r197, h197, e197, z197, y197⟩ := S_X8_change (E := E) (h := h) (am := am) (M := (uM (uM (uM (uM M 0 5 0) 4 0 a) 4 1 b) 4 2 c)) hc
                                            subst z197
                                            subst y197
                                            refine xv (x_inv0 200 (as := []) d_X8_order__197 rfl c_8_100 rfl (Nat.le_of_ble_eq_true rfl) (Nat.le_of_ble_eq_true rfl) m_o (Nat.le_of_ble_eq_true rfl) (Nat.le_of_ble_eq_true rfl) rfl e197) ?_
                                            generalize hM2 : mch (uM (uM (uM (uM M 0 5 0) 4 0 a) 4 1 b) 4 2 c) = M2
                                            have e2 : M2 1 = M 1 := by rw [← hM2]; exact mch_1
                                            have e4 : M2 4 = (u1 (u1 (u1 (M 4) 0 a) 1 b) 2 c) := by rw [← hM2]; exact mch_s (by decide) (by decide)
                                            have eM : M2 = uA (uA M2 1 (M 1)) 4 (u1 (u1 (u1 (M 4) 0 a) 1 b) 2 c) := by rw [← e2, uA_self, ← e4, uA_self]
                                            rw [eM]
                                            show Xv E q_m_X8_order_ 200 [Value.ref am, Value.int (zi d), Value.int (zi a), Value.int (zi b), Value.int (zi c), Value.int (zi 2), Value.int (zi ((0 + 1) + 1))] [] (q_mw h am (uA (uA M2 1 (M 1)) 4 (u1 (u1 (u1 (M 4) 0 a) 1 b) 2 c))) Q
                                            refine xv (x_aload_n 201 d_X8_order__200 rfl rfl) ?_
                                            refine xv (x_getfield 204 d_X8_order__201 rfl f_8_9 (Nat.le_of_ble_eq_true rfl) (Nat.le_of_ble_eq_true rfl) (q_gf_of m_o rfl)) ?_
                                            refine xv (x_iconst 205 d_X8_order__204 rfl) ?_
                                            refine xv (x_iaload 206 d_X8_order__205 rfl ((m_g1 (by omega) (by omega)).trans (rfl : _ = some (Value.int (zi ((M 1) 4)))))) ?_
                                            have q_68 : -1000000 ≤ (M 1) 4 ∧ (M 1) 4 ≤ 1000000 := hr _
                                            refine xv (x_istore 208 d_X8_order__206 rfl (Nat.le_of_ble_eq_true rfl)) ?_
                                            show Xv E q_m_X8_order_ 208 [Value.ref am, Value.int (zi d), Value.int (zi a), Value.int (zi b), Value.int (zi c), Value.int (zi 2), Value.int (zi ((M 1) 4))] [] (q_mw h am (uA (uA M2 1 (M 1)) 4 (u1 (u1 (u1 (M 4) 0 a) 1 b) 2 c))) Q
                                            refine xv (x_aload_n 209 d_X8_order__208 rfl rfl) ?_
                                            refine xv (x_getfield 212 d_X8_order__209 rfl f_8_9 (Nat.le_of_ble_eq_true rfl) (Nat.le_of_ble_eq_true rfl) (q_gf_of m_o rfl)) ?_
                                            refine xv (x_iload 214 d_X8_order__212 rfl rfl) ?_
                                            refine xv (x_ins1 217 (as := [Value.int (zi ((M 1) 4))]) d_X8_order__214 rfl c_8_106 rfl (Nat.le_of_ble_eq_true rfl) (Nat.le_of_ble_eq_true rfl) (Nat.le_of_ble_eq_true rfl) rfl (S_X8_order (E := E) (h := h) (am := am) (M := (uA (uA M2 1 (M 1)) 4 (u1 (u1 (u1 (M 4) 0 a) 1 b) 2 c))))) ?_
                                            show Xv E q_m_X8_order_ 217 [Value.ref am, Value.int (zi d), Value.int (zi a), Value.int (zi b), Value.int (zi c), Value.int (zi 2), Value.int (zi ((M 1) 4))] [Value.int (zi (320 + 8 * ((M 1) 4))), Value.ref (am + 1)] (q_mw h am (uA (uA M2 1 (M 1)) 4 (u1 (u1 (u1 (M 4) 0 a) 1 b) 2 c))) Q
                                            refine xv (x_iconst 218 d_X8_order__217 rfl) ?_
                                            refine xv (x_iadd 219 d_X8_order__218 rfl) ?_
                                            refine xv (x_iload_n 220 d_X8_order__219 rfl rfl) ?_
                                            refine xv (x_iastore 221 d_X8_order__220 rfl (m_s1 (by omega) (by omega))) ?_
                                            show Xv E q_m_X8_order_ 221 [Value.ref am, Value.int (zi d), Value.int (zi a), Value.int (zi b), Value.int (zi c), Value.int (zi 2), Value.int (zi ((M 1) 4))] [] (q_mw h am (uM (uA (uA M2 1 (M 1)) 4 (u1 (u1 (u1 (M 4) 0 a) 1 b) 2 c)) 1 ((320 + 8 * ((M 1) 4)) + 0) d)) Q
                                            refine xv (x_aload_n 222 d_X8_order__221 rfl rfl) ?_
                                            refine xv (x_getfield 225 d_X8_order__222 rfl f_8_9 (Nat.le_of_ble_eq_true rfl) (Nat.le_of_ble_eq_true rfl) (q_gf_of m_o rfl)) ?_
                                            refine xv (x_iload 227 d_X8_order__225 rfl rfl) ?_
                                            refine xv (x_ins1 230 (as := [Value.int (zi ((M 1) 4))]) d_X8_order__227 rfl c_8_106 rfl (Nat.le_of_ble_eq_true rfl) (Nat.le_of_ble_eq_true rfl) (Nat.le_of_ble_eq_true rfl) rfl (S_X8_order (E := E) (h := h) (am := am) (M := (uM (uA (uA M2 1 (M 1)) 4 (u1 (u1 (u1 (M 4) 0 a) 1 b) 2 c)) 1 ((320 + 8 * ((M 1) 4)) + 0) d)))) ?_
                                            show Xv E q_m_X8_order_ 230 [Value.ref am, Value.int (zi d), Value.int (zi a), Value.int (zi b), Value.int (zi c), Value.int (zi 2), Value.int (zi ((M 1) 4))] [Value.int (zi (320 + 8 * ((M 1) 4))), Value.ref (am + 1)] (q_mw h am (uM (uA (uA M2 1 (M 1)) 4 (u1 (u1 (u1 (M 4) 0 a) 1 b) 2 c)) 1 ((320 + 8 * ((M 1) 4)) + 0) d)) Q
                                            refine xv (x_iconst 231 d_X8_order__230 rfl) ?_
                                            refine xv (x_iadd 232 d_X8_order__231 rfl) ?_
                                            refine xv (x_iload 234 d_X8_order__232 rfl rfl) ?_
                                            refine xv (x_iastore 235 d_X8_order__234 rfl (m_s1 (by omega) (by omega))) ?_
                                            show Xv E q_m_X8_order_ 235 [Value.ref am, Value.int (zi d), Value.int (zi a), Value.int (zi b), Value.int (zi c), Value.int (zi 2), Value.int (zi ((M 1) 4))] [] (q_mw h am (uM (uM (uA (uA M2 1 (M 1)) 4 (u1 (u1 (u1 (M 4) 0 a) 1 b) 2 c)) 1 ((320 + 8 * ((M 1) 4)) + 0) d) 1 ((320 + 8 * ((M 1) 4)) + 1) 2)) Q
                                            refine xv (x_aload_n 236 d_X8_order__235 rfl rfl) ?_
                                            refine xv (x_getfield 239 d_X8_order__236 rfl f_8_9 (Nat.le_of_ble_eq_true rfl) (Nat.le_of_ble_eq_true rfl) (q_gf_of m_o rfl)) ?_
                                            refine xv (x_iload 241 d_X8_order__239 rfl rfl) ?_
                                            refine xv (x_ins1 244 (as := [Value.int (zi ((M 1) 4))]) d_X8_order__241 rfl c_8_106 rfl (Nat.le_of_ble_eq_true rfl) (Nat.le_of_ble_eq_true rfl) (Nat.le_of_ble_eq_true rfl) rfl (S_X8_order (E := E) (h := h) (am := am) (M := (uM (uM (uA (uA M2 1 (M 1)) 4 (u1 (u1 (u1 (M 4) 0 a) 1 b) 2 c)) 1 ((320 + 8 * ((M 1) 4)) + 0) d) 1 ((320 + 8 * ((M 1) 4)) + 1) 2)))) ?_
                                            show Xv E q_m_X8_order_ 244 [Value.ref am, Value.int (zi d), Value.int (zi a), Value.int (zi b), Value.int (zi c), Value.int (zi 2), Value.int (zi ((M 1) 4))] [Value.int (zi (320 + 8 * ((M 1) 4))), Value.ref (am + 1)] (q_mw h am (uM (uM (uA (uA M2 1 (M 1)) 4 (u1 (u1 (u1 (M 4) 0 a) 1 b) 2 c)) 1 ((320 + 8 * ((M 1) 4)) + 0) d) 1 ((320 + 8 * ((M 1) 4)) + 1) 2)) Q
                                            refine xv (x_iconst 245 d_X8_order__244 rfl) ?_
                                            refine xv (x_iadd 246 d_X8_order__245 rfl) ?_
                                            refine xv (x_iconst 247 d_X8_order__246 rfl) ?_
                                            refine xv (x_iastore 248 d_X8_order__247 rfl (m_s1 (by omega) (by omega))) ?_
                                            show Xv E q_m_X8_order_ 248 [Value.ref am, Value.int (zi d), Value.int (zi a), Value.int (zi b), Value.int (zi c), Value.int (zi 2), Value.int (zi ((M 1) 4))] [] (q_mw h am (uM (uM (uM (uA (uA M2 1 (M 1)) 4 (u1 (u1 (u1 (M 4) 0 a) 1 b) 2 c)) 1 ((320 + 8 * ((M 1) 4)) + 0) d) 1 ((320 + 8 * ((M 1) 4)) + 1) 2) 1 ((320 + 8 * ((M 1) 4)) + 2) 0)) Q
                                            refine xv (x_aload_n 249 d_X8_order__248 rfl rfl) ?_
                                            refine xv (x_getfield 252 d_X8_order__249 rfl f_8_9 (Nat.le_of_ble_eq_true rfl) (Nat.le_of_ble_eq_true rfl) (q_gf_of m_o rfl)) ?_
                                            refine xv (x_iload 254 d_X8_order__252 rfl rfl) ?_
                                            refine xv (x_ins1 257 (as := [Value.int (zi ((M 1) 4))]) d_X8_order__254 rfl c_8_106 rfl (Nat.le_of_ble_eq_true rfl) (Nat.le_of_ble_eq_true rfl) (Nat.le_of_ble_eq_true rfl) rfl (S_X8_order (E := E) (h := h) (am := am) (M := (uM (uM (uM (uA (uA M2 1 (M 1)) 4 (u1 (u1 (u1 (M 4) 0 a) 1 b) 2 c)) 1 ((320 + 8 * ((M 1) 4)) + 0) d) 1 ((320 + 8 * ((M 1) 4)) + 1) 2) 1 ((320 + 8 * ((M 1) 4)) + 2) 0)))) ?_
                                            show Xv E q_m_X8_order_ 257 [Value.ref am, Value.int (zi d), Value.int (zi a), Value.int (zi b), Value.int (zi c), Value.int (zi 2), Value.int (zi ((M 1) 4))] [Value.int (zi (320 + 8 * ((M 1) 4))), Value.ref (am + 1)] (q_mw h am (uM (uM (uM (uA (uA M2 1 (M 1)) 4 (u1 (u1 (u1 (M 4) 0 a) 1 b) 2 c)) 1 ((320 + 8 * ((M 1) 4)) + 0) d) 1 ((320 + 8 * ((M 1) 4)) + 1) 2) 1 ((320 + 8 * ((M 1) 4)) + 2) 0)) Q
                                            refine xv (x_iconst 258 d_X8_order__257 rfl) ?_
                                            refine xv (x_iadd 259 d_X8_order__258 rfl) ?_
                                            refine xv (x_iconst 260 d_X8_order__259 rfl) ?_
                                            refine xv (x_iastore 261 d_X8_order__260 rfl (m_s1 (by omega) (by omega))) ?_
                                            show Xv E q_m_X8_order_ 261 [Value.ref am, Value.int (zi d), Value.int (zi a), Value.int (zi b), Value.int (zi c), Value.int (zi 2), Value.int (zi ((M 1) 4))] [] (q_mw h am (uM (uM (uM (uM (uA (uA M2 1 (M 1)) 4 (u1 (u1 (u1 (M 4) 0 a) 1 b) 2 c)) 1 ((320 + 8 * ((M 1) 4)) + 0) d) 1 ((320 + 8 * ((M 1) 4)) + 1) 2) 1 ((320 + 8 * ((M 1) 4)) + 2) 0) 1 ((320 + 8 * ((M 1) 4)) + 3) (-1))) Q
                                            refine xv (x_aload_n 262 d_X8_order__261 rfl rfl) ?_
                                            refine xv (x_getfield 265 d_X8_order__262 rfl f_8_9 (Nat.le_of_ble_eq_true rfl) (Nat.le_of_ble_eq_true rfl) (q_gf_of m_o rfl)) ?_
                                            refine xv (x_iload 267 d_X8_order__265 rfl rfl) ?_
                                            refine xv (x_ins1 270 (as := [Value.int (zi ((M 1) 4))]) d_X8_order__267 rfl c_8_106 rfl (Nat.le_of_ble_eq_true rfl) (Nat.le_of_ble_eq_true rfl) (Nat.le_of_ble_eq_true rfl) rfl (S_X8_order (E := E) (h := h) (am := am) (M := (uM (uM (uM (uM (uA (uA M2 1 (M 1)) 4 (u1 (u1 (u1 (M 4) 0 a) 1 b) 2 c)) 1 ((320 + 8 * ((M 1) 4)) + 0) d) 1 ((320 + 8 * ((M 1) 4)) + 1) 2) 1 ((320 + 8 * ((M 1) 4)) + 2) 0) 1 ((320 + 8 * ((M 1) 4)) + 3) (-1))))) ?_
                                            show Xv E q_m_X8_order_ 270 [Value.ref am, Value.int (zi d), Value.int (zi a), Value.int (zi b), Value.int (zi c), Value.int (zi 2), Value.int (zi ((M 1) 4))] [Value.int (zi (320 + 8 * ((M 1) 4))), Value.ref (am + 1)] (q_mw h am (uM (uM (uM (uM (uA (uA M2 1 (M 1)) 4 (u1 (u1 (u1 (M 4) 0 a) 1 b) 2 c)) 1 ((320 + 8 * ((M 1) 4)) + 0) d) 1 ((320 + 8 * ((M 1) 4)) + 1) 2) 1 ((320 + 8 * ((M 1) 4)) + 2) 0) 1 ((320 + 8 * ((M 1) 4)) + 3) (-1))) Q
                                            refine xv (x_iconst 271 d_X8_order__270 rfl) ?_
                                            refine xv (x_iadd 272 d_X8_order__271 rfl) ?_
                                            refine xv (x_iconst 273 d_X8_order__272 rfl) ?_
                                            refine xv (x_iastore 274 d_X8_order__273 rfl (m_s1 (by omega) (by omega))) ?_
                                            show Xv E q_m_X8_order_ 274 [Value.ref am, Value.int (zi d), Value.int (zi a), Value.int (zi b), Value.int (zi c), Value.int (zi 2), Value.int (zi ((M 1) 4))] [] (q_mw h am (uM (uM (uM (uM (uM (uA (uA M2 1 (M 1)) 4 (u1 (u1 (u1 (M 4) 0 a) 1 b) 2 c)) 1 ((320 + 8 * ((M 1) 4)) + 0) d) 1 ((320 + 8 * ((M 1) 4)) + 1) 2) 1 ((320 + 8 * ((M 1) 4)) + 2) 0) 1 ((320 + 8 * ((M 1) 4)) + 3) (-1)) 1 ((320 + 8 * ((M 1) 4)) + 4) (-1))) Q
                                            refine xv (x_aload_n 275 d_X8_order__274 rfl rfl) ?_
                                            refine xv (x_getfield 278 d_X8_order__275 rfl f_8_19 (Nat.le_of_ble_eq_true rfl) (Nat.le_of_ble_eq_true rfl) (q_gf_of m_o rfl)) ?_
                                            refine xv (x_iconst 279 d_X8_order__278 rfl) ?_
                                            refine xv (x_aload_n 280 d_X8_order__279 rfl rfl) ?_
                                            refine xv (x_getfield 283 d_X8_order__280 rfl f_8_9 (Nat.le_of_ble_eq_true rfl) (Nat.le_of_ble_eq_true rfl) (q_gf_of m_o rfl)) ?_
                                            refine xv (x_iload 285 d_X8_order__283 rfl rfl) ?_
                                            refine xv (x_ins1 288 (as := [Value.int (zi ((M 1) 4))]) d_X8_order__285 rfl c_8_106 rfl (Nat.le_of_ble_eq_true rfl) (Nat.le_of_ble_eq_true rfl) (Nat.le_of_ble_eq_true rfl) rfl (S_X8_order (E := E) (h := h) (am := am) (M := (uM (uM (uM (uM (uM (uA (uA M2 1 (M 1)) 4 (u1 (u1 (u1 (M 4) 0 a) 1 b) 2 c)) 1 ((320 + 8 * ((M 1) 4)) + 0) d) 1 ((320 + 8 * ((M 1) 4)) + 1) 2) 1 ((320 + 8 * ((M 1) 4)) + 2) 0) 1 ((320 + 8 * ((M 1) 4)) + 3) (-1)) 1 ((320 + 8 * ((M 1) 4)) + 4) (-1))))) ?_
                                            show Xv E q_m_X8_order_ 288 [Value.ref am, Value.int (zi d), Value.int (zi a), Value.int (zi b), Value.int (zi c), Value.int (zi 2), Value.int (zi ((M 1) 4))] [Value.int (zi (320 + 8 * ((M 1) 4))), Value.ref (am + 1), Value.int (zi 0), Value.ref (am + 4)] (q_mw h am (uM (uM (uM (uM (uM (uA (uA M2 1 (M 1)) 4 (u1 (u1 (u1 (M 4) 0 a) 1 b) 2 c)) 1 ((320 + 8 * ((M 1) 4)) + 0) d) 1 ((320 + 8 * ((M 1) 4)) + 1) 2) 1 ((320 + 8 * ((M 1) 4)) + 2) 0) 1 ((320 + 8 * ((M 1) 4)) + 3) (-1)) 1 ((320 + 8 * ((M 1) 4)) + 4) (-1))) Q
                                            refine xv (x_iconst 289 d_X8_order__288 rfl) ?_
                                            refine xv (x_iadd 290 d_X8_order__289 rfl) ?_
                                            refine xv (x_iconst 291 d_X8_order__290 rfl) ?_
                                            refine xv (x_copy 294 d_X8_order__291 rfl rfl rfl (Nat.le_of_ble_eq_true rfl) (Nat.le_of_ble_eq_true rfl) (Nat.le_of_ble_eq_true rfl) (m_cpy 4 1 m_a4 m_a1 m_w1 (by omega) (by omega) (by omega) (by omega) (by omega) (by decide) (by decide))) ?_
                                            show Xv E q_m_X8_order_ 294 [Value.ref am, Value.int (zi d), Value.int (zi a), Value.int (zi b), Value.int (zi c), Value.int (zi 2), Value.int (zi ((M 1) 4))] [] (q_mw h am (uA (uM (uM (uM (uM (uM (uA (uA M2 1 (M 1)) 4 (u1 (u1 (u1 (M 4) 0 a) 1 b) 2 c)) 1 ((320 + 8 * ((M 1) 4)) + 0) d) 1 ((320 + 8 * ((M 1) 4)) + 1) 2) 1 ((320 + 8 * ((M 1) 4)) + 2) 0) 1 ((320 + 8 * ((M 1) 4)) + 3) (-1)) 1 ((320 + 8 * ((M 1) 4)) + 4) (-1)) 1 (cpI (u1 (u1 (u1 (M 4) 0 a) 1 b) 2 c) (u1 (u1 (u1 (u1 (u1 (M 1) ((320 + 8 * ((M 1) 4)) + 0) d) ((320 + 8 * ((M 1) 4)) + 1) 2) ((320 + 8 * ((M 1) 4)) + 2) 0) ((320 + 8 * ((M 1) 4)) + 3) (-1)) ((320 + 8 * ((M 1) 4)) + 4) (-1)) 0 ((320 + 8 * ((M 1) 4)) + 5) 3))) Q
                                            refine xv (x_aload_n 295 d_X8_order__294 rfl rfl) ?_
                                            refine xv (x_getfield 298 d_X8_order__295 rfl f_8_9 (Nat.le_of_ble_eq_true rfl) (Nat.le_of_ble_eq_true rfl) (q_gf_of m_o rfl)) ?_
                                            refine xv (x_iconst 299 d_X8_order__298 rfl) ?_
                                            refine xv (x_dup2 300 d_X8_order__299 rfl rfl rfl) ?_
                                            refine xv (x_iaload 301 d_X8_order__300 rfl ((m_g1 (by omega) (by omega)).trans (rfl : _ = some (Value.int (zi ((cpI (u1 (u1 (u1 (M 4) 0 a) 1 b) 2 c) (u1 (u1 (u1 (u1 (u1 (M 1) ((320 + 8 * ((M 1) 4)) + 0) d) ((320 + 8 * ((M 1) 4)) + 1) 2) ((320 + 8 * ((M 1) 4)) + 2) 0) ((320 + 8 * ((M 1) 4)) + 3) (-1)) ((320 + 8 * ((M 1) 4)) + 4) (-1)) 0 ((320 + 8 * ((M 1) 4)) + 5) 3) 4)))))) ?_
                                            refine xv (x_iconst 302 d_X8_order__301 rfl) ?_
                                            refine xv (x_iadd 303 d_X8_order__302 rfl) ?_
                                            refine xv (x_iastore 304 d_X8_order__303 rfl (m_s1 (by omega) (by omega))) ?_
                                            show Xv E q_m_X8_order_ 304 [Value.ref am, Value.int (zi d), Value.int (zi a), Value.int (zi b), Value.int (zi c), Value.int (zi 2), Value.int (zi ((M 1) 4))] [] (q_mw h am (uM (uA (uM (uM (uM (uM (uM (uA (uA M2 1 (M 1)) 4 (u1 (u1 (u1 (M 4) 0 a) 1 b) 2 c)) 1 ((320 + 8 * ((M 1) 4)) + 0) d) 1 ((320 + 8 * ((M 1) 4)) + 1) 2) 1 ((320 + 8 * ((M 1) 4)) + 2) 0) 1 ((320 + 8 * ((M 1) 4)) + 3) (-1)) 1 ((320 + 8 * ((M 1) 4)) + 4) (-1)) 1 (cpI (u1 (u1 (u1 (M 4) 0 a) 1 b) 2 c) (u1 (u1 (u1 (u1 (u1 (M 1) ((320 + 8 * ((M 1) 4)) + 0) d) ((320 + 8 * ((M 1) 4)) + 1) 2) ((320 + 8 * ((M 1) 4)) + 2) 0) ((320 + 8 * ((M 1) 4)) + 3) (-1)) ((320 + 8 * ((M 1) 4)) + 4) (-1)) 0 ((320 + 8 * ((M 1) 4)) + 5) 3)) 1 4 (((cpI (u1 (u1 (u1 (M 4) 0 a) 1 b) 2 c) (u1 (u1 (u1 (u1 (u1 (M 1) ((320 + 8 * ((M 1) 4)) + 0) d) ((320 + 8 * ((M 1) 4)) + 1) 2) ((320 + 8 * ((M 1) 4)) + 2) 0) ((320 + 8 * ((M 1) 4)) + 3) (-1)) ((320 + 8 * ((M 1) 4)) + 4) (-1)) 0 ((320 + 8 * ((M 1) 4)) + 5) 3) 4) + 1))) Q
                                            refine xv (x_iload 306 d_X8_order__304 rfl rfl) ?_
                                            refine xv_r (x_ireturn d_X8_order__306 rfl rfl) ?_
                                            have er : mOrd (M 1) d a b c = (0, 0) := by first | (exfalso; omega) | (unfold mOrd; repeat (first | rw [if_pos (by omega)] | rw [if_neg (by omega)]))
                                            have ec : cntO b c = 2 := by first | (exfalso; omega) | (unfold cntO; repeat (first | rw [if_pos (by omega)] | rw [if_neg (by omega)]))
                                            refine hQ _ _ ?_
                                            unfold mMu2
                                            rw [er, if_pos rfl, ec]
                                            refine ⟨rfl, ?_⟩
                                            unfold lnO
                                            rw [hM2, ← eM]
                                            simp only [uM_uA, uA_uA, uA_eq]
                                            rfl
                                          · omega
                                        · refine xv (x_aload_n 177 d_X8_order__176 rfl rfl) ?_
                                          refine xv (x_bipush 179 d_X8_order__177 rfl rfl) ?_
                                          refine xv (x_aload_n 180 d_X8_order__179 rfl rfl) ?_
                                          refine xv (x_getfield 183 d_X8_order__180 rfl f_8_19 (Nat.le_of_ble_eq_true rfl) (Nat.le_of_ble_eq_true rfl) (q_gf_of m_o rfl)) ?_
                                          refine xv (x_iload 185 d_X8_order__183 rfl rfl) ?_
                                          refine xv (x_iaload 186 d_X8_order__185 rfl ((m_g4 (by omega) (by omega)).trans (rfl : _ = some (Value.int (zi b))))) ?_
                                          obtain ⟨r186, h186, e186, z186, y186⟩ := S_X8_refuse (E := E) (h := h) (am := am) (M := (uM (uM (uM (uM M 0 5 0) 4 0 a) 4 1 b) 4 2 c)) (y := 12) (z := b) 
                                          subst z186
                                          subst y186
                                          refine xv (x_inv1 189 (as := [Value.int (zi 12), Value.int (zi b)]) d_X8_order__186 rfl c_8_90 rfl (Nat.le_of_ble_eq_true rfl) (Nat.le_of_ble_eq_true rfl) m_o (Nat.le_of_ble_eq_true rfl) (Nat.le_of_ble_eq_true rfl) rfl e186) ?_
                                          show Xv E q_m_X8_order_ 189 [Value.ref am, Value.int (zi d), Value.int (zi a), Value.int (zi b), Value.int (zi c), Value.int (zi 2), Value.int (zi (0 + 1))] [Value.int (zi 0)] (q_mw h am (uM (uM (uM (uM (uM (uM (uM M 0 5 0) 4 0 a) 4 1 b) 4 2 c) 0 5 1) 0 6 12) 0 7 b)) Q
                                          refine xv_r (x_ireturn d_X8_order__189 rfl rfl) ?_
                                          have er : mOrd (M 1) d a b c = (12, b) := by first | (exfalso; omega) | (unfold mOrd; repeat (first | rw [if_pos (by omega)] | rw [if_neg (by omega)]))
                                          refine hQ _ _ ?_
                                          unfold mMu2
                                          rw [er]
                                          exact ⟨rfl, rfl⟩
                                    · refine xv (x_aload_n 177 d_X8_order__176 rfl rfl) ?_
                                      refine xv (x_bipush 179 d_X8_order__177 rfl rfl) ?_
                                      refine xv (x_aload_n 180 d_X8_order__179 rfl rfl) ?_
                                      refine xv (x_getfield 183 d_X8_order__180 rfl f_8_19 (Nat.le_of_ble_eq_true rfl) (Nat.le_of_ble_eq_true rfl) (q_gf_of m_o rfl)) ?_
                                      refine xv (x_iload 185 d_X8_order__183 rfl rfl) ?_
                                      refine xv (x_iaload 186 d_X8_order__185 rfl ((m_g4 (by omega) (by omega)).trans (rfl : _ = some (Value.int (zi a))))) ?_
                                      obtain ⟨r186, h186, e186, z186, y186⟩ := S_X8_refuse (E := E) (h := h) (am := am) (M := (uM (uM (uM (uM M 0 5 0) 4 0 a) 4 1 b) 4 2 c)) (y := 12) (z := a) 
                                      subst z186
                                      subst y186
                                      refine xv (x_inv1 189 (as := [Value.int (zi 12), Value.int (zi a)]) d_X8_order__186 rfl c_8_90 rfl (Nat.le_of_ble_eq_true rfl) (Nat.le_of_ble_eq_true rfl) m_o (Nat.le_of_ble_eq_true rfl) (Nat.le_of_ble_eq_true rfl) rfl e186) ?_
                                      show Xv E q_m_X8_order_ 189 [Value.ref am, Value.int (zi d), Value.int (zi a), Value.int (zi b), Value.int (zi c), Value.int (zi 2), Value.int (zi 0)] [Value.int (zi 0)] (q_mw h am (uM (uM (uM (uM (uM (uM (uM M 0 5 0) 4 0 a) 4 1 b) 4 2 c) 0 5 1) 0 6 12) 0 7 a)) Q
                                      refine xv_r (x_ireturn d_X8_order__189 rfl rfl) ?_
                                      have er : mOrd (M 1) d a b c = (12, a) := by first | (exfalso; omega) | (unfold mOrd; repeat (first | rw [if_pos (by omega)] | rw [if_neg (by omega)]))
                                      refine hQ _ _ ?_
                                      unfold mMu2
                                      rw [er]
                                      exact ⟨rfl, rfl⟩
                                · refine xv (x_aload_n 142 d_X8_order__141 rfl rfl) ?_
                                  refine xv (x_iconst 143 d_X8_order__142 rfl) ?_
                                  refine xv (x_iconst 144 d_X8_order__143 rfl) ?_
                                  obtain ⟨r144, h144, e144, z144, y144⟩ := S_X8_refuse (E := E) (h := h) (am := am) (M := (uM (uM (uM (uM M 0 5 0) 4 0 a) 4 1 b) 4 2 c)) (y := 3) (z := 0) 
                                  subst z144
                                  subst y144
                                  refine xv (x_inv1 147 (as := [Value.int (zi 3), Value.int (zi 0)]) d_X8_order__144 rfl c_8_90 rfl (Nat.le_of_ble_eq_true rfl) (Nat.le_of_ble_eq_true rfl) m_o (Nat.le_of_ble_eq_true rfl) (Nat.le_of_ble_eq_true rfl) rfl e144) ?_
                                  show Xv E q_m_X8_order_ 147 [Value.ref am, Value.int (zi d), Value.int (zi a), Value.int (zi b), Value.int (zi c), Value.int (zi 2), Value.int (zi (((0 + 1) + 1) + 1))] [Value.int (zi 0)] (q_mw h am (uM (uM (uM (uM (uM (uM (uM M 0 5 0) 4 0 a) 4 1 b) 4 2 c) 0 5 1) 0 6 3) 0 7 0)) Q
                                  refine xv_r (x_ireturn d_X8_order__147 rfl rfl) ?_
                                  have er : mOrd (M 1) d a b c = (3, 0) := by first | (exfalso; omega) | (unfold mOrd; repeat (first | rw [if_pos (by omega)] | rw [if_neg (by omega)]))
                                  refine hQ _ _ ?_
                                  unfold mMu2
                                  rw [er]
                                  exact ⟨rfl, rfl⟩
                              · refine xv (x_iload 119 d_X8_order__117 rfl rfl) ?_
                                refine xv (x_iconst 120 d_X8_order__119 rfl) ?_
                                refine v_icmp_eq 130 123 d_X8_order__120 rfl rfl (by omega) (by omega) (by omega) (by omega) (fun k120 => ?_) (fun k120 => ?_)
                                · refine xv (x_aload_n 131 d_X8_order__130 rfl rfl) ?_
                                  refine xv (x_getfield 134 d_X8_order__131 rfl f_8_9 (Nat.le_of_ble_eq_true rfl) (Nat.le_of_ble_eq_true rfl) (q_gf_of m_o rfl)) ?_
                                  refine xv (x_iconst 135 d_X8_order__134 rfl) ?_
                                  refine xv (x_iaload 136 d_X8_order__135 rfl ((m_g1 (by omega) (by omega)).trans (rfl : _ = some (Value.int (zi ((M 1) 4)))))) ?_
                                  have q_69 : -1000000 ≤ (M 1) 4 ∧ (M 1) 4 ≤ 1000000 := hr _
                                  refine xv (x_bipush 138 d_X8_order__136 rfl rfl) ?_
                                  refine v_icmp_ne 148 141 d_X8_order__138 rfl rfl (by omega) (by omega) (by omega) (by omega) (fun k138 => ?_) (fun k138 => ?_)
                                  · refine xv (x_iconst 149 d_X8_order__148 rfl) ?_
                                    refine xv (x_istore 151 d_X8_order__149 rfl (Nat.le_of_ble_eq_true rfl)) ?_
                                    show Xv E q_m_X8_order_ 151 [Value.ref am, Value.int (zi d), Value.int (zi a), Value.int (zi b), Value.int (zi c), Value.int (zi 2), Value.int (zi 0)] [] (q_mw h am (uM (uM (uM (uM M 0 5 0) 4 0 a) 4 1 b) 4 2 c)) Q
                                    refine xv (x_iload 153 d_X8_order__151 rfl rfl) ?_
                                    refine xv (x_iload 155 d_X8_order__153 rfl rfl) ?_
                                    refine v_icmp_ge 196 158 d_X8_order__155 rfl rfl (by omega) (by omega) (by omega) (by omega) (fun k155 => ?_) (fun k155 => ?_)
                                    · omega
                                    · refine xv (x_aload_n 159 d_X8_order__158 rfl rfl) ?_
                                      refine xv (x_getfield 162 d_X8_order__159 rfl f_8_9 (Nat.le_of_ble_eq_true rfl) (Nat.le_of_ble_eq_true rfl) (q_gf_of m_o rfl)) ?_
                                      refine xv (x_bipush 164 d_X8_order__162 rfl rfl) ?_
                                      refine xv (x_aload_n 165 d_X8_order__164 rfl rfl) ?_
                                      refine xv (x_getfield 168 d_X8_order__165 rfl f_8_19 (Nat.le_of_ble_eq_true rfl) (Nat.le_of_ble_eq_true rfl) (q_gf_of m_o rfl)) ?_
                                      refine xv (x_iload 170 d_X8_order__168 rfl rfl) ?_
                                      refine xv (x_iaload 171 d_X8_order__170 rfl ((m_g4 (by omega) (by omega)).trans (rfl : _ = some (Value.int (zi a))))) ?_
                                      refine xv (x_iadd 172 d_X8_order__171 rfl) ?_
                                      refine xv (x_iaload 173 d_X8_order__172 rfl ((m_g1 (by omega) (by omega)).trans (rfl : _ = some (Value.int (zi ((M 1) (8 + a))))))) ?_
                                      have q_70 : -1000000 ≤ (M 1) (8 + a) ∧ (M 1) (8 + a) ≤ 1000000 := hr _
                                      refine v_if_eq 190 176 d_X8_order__173 rfl rfl (by omega) (by omega) (fun k173 => ?_) (fun k173 => ?_)
                                      · refine xv (x_iinc 193 d_X8_order__190 rfl rfl) ?_
                                        show Xv E q_m_X8_order_ 193 [Value.ref am, Value.int (zi d), Value.int (zi a), Value.int (zi b), Value.int (zi c), Value.int (zi 2), Value.int (zi (0 + 1))] [] (q_mw h am (uM (uM (uM (uM M 0 5 0) 4 0 a) 4 1 b) 4 2 c)) Q
                                        refine xv (x_goto 151 d_X8_order__193 rfl) ?_
                                        refine xv (x_iload 153 d_X8_order__151 rfl rfl) ?_
                                        refine xv (x_iload 155 d_X8_order__153 rfl rfl) ?_
                                        refine v_icmp_ge 196 158 d_X8_order__155 rfl rfl (by omega) (by omega) (by omega) (by omega) (fun k155 => ?_) (fun k155 => ?_)
                                        · omega
                                        · refine xv (x_aload_n 159 d_X8_order__158 rfl rfl) ?_
                                          refine xv (x_getfield 162 d_X8_order__159 rfl f_8_9 (Nat.le_of_ble_eq_true rfl) (Nat.le_of_ble_eq_true rfl) (q_gf_of m_o rfl)) ?_
                                          refine xv (x_bipush 164 d_X8_order__162 rfl rfl) ?_
                                          refine xv (x_aload_n 165 d_X8_order__164 rfl rfl) ?_
                                          refine xv (x_getfield 168 d_X8_order__165 rfl f_8_19 (Nat.le_of_ble_eq_true rfl) (Nat.le_of_ble_eq_true rfl) (q_gf_of m_o rfl)) ?_
                                          refine xv (x_iload 170 d_X8_order__168 rfl rfl) ?_
                                          refine xv (x_iaload 171 d_X8_order__170 rfl ((m_g4 (by omega) (by omega)).trans (rfl : _ = some (Value.int (zi b))))) ?_
                                          refine xv (x_iadd 172 d_X8_order__171 rfl) ?_
                                          refine xv (x_iaload 173 d_X8_order__172 rfl ((m_g1 (by omega) (by omega)).trans (rfl : _ = some (Value.int (zi ((M 1) (8 + b))))))) ?_
                                          have q_71 : -1000000 ≤ (M 1) (8 + b) ∧ (M 1) (8 + b) ≤ 1000000 := hr _
                                          refine v_if_eq 190 176 d_X8_order__173 rfl rfl (by omega) (by omega) (fun k173 => ?_) (fun k173 => ?_)
                                          · refine xv (x_iinc 193 d_X8_order__190 rfl rfl) ?_
                                            show Xv E q_m_X8_order_ 193 [Value.ref am, Value.int (zi d), Value.int (zi a), Value.int (zi b), Value.int (zi c), Value.int (zi 2), Value.int (zi ((0 + 1) + 1))] [] (q_mw h am (uM (uM (uM (uM M 0 5 0) 4 0 a) 4 1 b) 4 2 c)) Q
                                            refine xv (x_goto 151 d_X8_order__193 rfl) ?_
                                            refine xv (x_iload 153 d_X8_order__151 rfl rfl) ?_
                                            refine xv (x_iload 155 d_X8_order__153 rfl rfl) ?_
                                            refine v_icmp_ge 196 158 d_X8_order__155 rfl rfl (by omega) (by omega) (by omega) (by omega) (fun k155 => ?_) (fun k155 => ?_)
                                            · refine xv (x_aload_n 197 d_X8_order__196 rfl rfl) ?_
                                              obtain ⟨r197, h197, e197, z197, y197⟩ := S_X8_change (E := E) (h := h) (am := am) (M := (uM (uM (uM (uM M 0 5 0) 4 0 a) 4 1 b) 4 2 c)) hc
                                              subst z197
                                              subst y197
                                              refine xv (x_inv0 200 (as := []) d_X8_order__197 rfl c_8_100 rfl (Nat.le_of_ble_eq_true rfl) (Nat.le_of_ble_eq_true rfl) m_o (Nat.le_of_ble_eq_true rfl) (Nat.le_of_ble_eq_true rfl) rfl e197) ?_
                                              generalize hM2 : mch (uM (uM (uM (uM M 0 5 0) 4 0 a) 4 1 b) 4 2 c) = M2
                                              have e2 : M2 1 = M 1 := by rw [← hM2]; exact mch_1
                                              have e4 : M2 4 = (u1 (u1 (u1 (M 4) 0 a) 1 b) 2 c) := by rw [← hM2]; exact mch_s (by decide) (by decide)
                                              have eM : M2 = uA (uA M2 1 (M 1)) 4 (u1 (u1 (u1 (M 4) 0 a) 1 b) 2 c) := by rw [← e2, uA_self, ← e4, uA_self]
                                              rw [eM]
                                              show Xv E q_m_X8_order_ 200 [Value.ref am, Value.int (zi d), Value.int (zi a), Value.int (zi b), Value.int (zi c), Value.int (zi 2), Value.int (zi ((0 + 1) + 1))] [] (q_mw h am (uA (uA M2 1 (M 1)) 4 (u1 (u1 (u1 (M 4) 0 a) 1 b) 2 c))) Q
                                              refine xv (x_aload_n 201 d_X8_order__200 rfl rfl) ?_
                                              refine xv (x_getfield 204 d_X8_order__201 rfl f_8_9 (Nat.le_of_ble_eq_true rfl) (Nat.le_of_ble_eq_true rfl) (q_gf_of m_o rfl)) ?_
                                              refine xv (x_iconst 205 d_X8_order__204 rfl) ?_
                                              refine xv (x_iaload 206 d_X8_order__205 rfl ((m_g1 (by omega) (by omega)).trans (rfl : _ = some (Value.int (zi ((M 1) 4)))))) ?_
                                              have q_72 : -1000000 ≤ (M 1) 4 ∧ (M 1) 4 ≤ 1000000 := hr _
                                              refine xv (x_istore 208 d_X8_order__206 rfl (Nat.le_of_ble_eq_true rfl)) ?_
                                              show Xv E q_m_X8_order_ 208 [Value.ref am, Value.int (zi d), Value.int (zi a), Value.int (zi b), Value.int (zi c), Value.int (zi 2), Value.int (zi ((M 1) 4))] [] (q_mw h am (uA (uA M2 1 (M 1)) 4 (u1 (u1 (u1 (M 4) 0 a) 1 b) 2 c))) Q
                                              refine xv (x_aload_n 209 d_X8_order__208 rfl rfl) ?_
                                              refine xv (x_getfield 212 d_X8_order__209 rfl f_8_9 (Nat.le_of_ble_eq_true rfl) (Nat.le_of_ble_eq_true rfl) (q_gf_of m_o rfl)) ?_
                                              refine xv (x_iload 214 d_X8_order__212 rfl rfl) ?_
                                              refine xv (x_ins1 217 (as := [Value.int (zi ((M 1) 4))]) d_X8_order__214 rfl c_8_106 rfl (Nat.le_of_ble_eq_true rfl) (Nat.le_of_ble_eq_true rfl) (Nat.le_of_ble_eq_true rfl) rfl (S_X8_order (E := E) (h := h) (am := am) (M := (uA (uA M2 1 (M 1)) 4 (u1 (u1 (u1 (M 4) 0 a) 1 b) 2 c))))) ?_
                                              show Xv E q_m_X8_order_ 217 [Value.ref am, Value.int (zi d), Value.int (zi a), Value.int (zi b), Value.int (zi c), Value.int (zi 2), Value.int (zi ((M 1) 4))] [Value.int (zi (320 + 8 * ((M 1) 4))), Value.ref (am + 1)] (q_mw h am (uA (uA M2 1 (M 1)) 4 (u1 (u1 (u1 (M 4) 0 a) 1 b) 2 c))) Q
                                              refine xv (x_iconst 218 d_X8_order__217 rfl) ?_
                                              refine xv (x_iadd 219 d_X8_order__218 rfl) ?_
                                              refine xv (x_iload_n 220 d_X8_order__219 rfl rfl) ?_
                                              refine xv (x_iastore 221 d_X8_order__220 rfl (m_s1 (by omega) (by omega))) ?_
                                              show Xv E q_m_X8_order_ 221 [Value.ref am, Value.int (zi d), Value.int (zi a), Value.int (zi b), Value.int (zi c), Value.int (zi 2), Value.int (zi ((M 1) 4))] [] (q_mw h am (uM (uA (uA M2 1 (M 1)) 4 (u1 (u1 (u1 (M 4) 0 a) 1 b) 2 c)) 1 ((320 + 8 * ((M 1) 4)) + 0) d)) Q
                                              refine xv (x_aload_n 222 d_X8_order__221 rfl rfl) ?_
                                              refine xv (x_getfield 225 d_X8_order__222 rfl f_8_9 (Nat.le_of_ble_eq_true rfl) (Nat.le_of_ble_eq_true rfl) (q_gf_of m_o rfl)) ?_
                                              refine xv (x_iload 227 d_X8_order__225 rfl rfl) ?_
                                              refine xv (x_ins1 230 (as := [Value.int (zi ((M 1) 4))]) d_X8_order__227 rfl c_8_106 rfl (Nat.le_of_ble_eq_true rfl) (Nat.le_of_ble_eq_true rfl) (Nat.le_of_ble_eq_true rfl) rfl (S_X8_order (E := E) (h := h) (am := am) (M := (uM (uA (uA M2 1 (M 1)) 4 (u1 (u1 (u1 (M 4) 0 a) 1 b) 2 c)) 1 ((320 + 8 * ((M 1) 4)) + 0) d)))) ?_
                                              show Xv E q_m_X8_order_ 230 [Value.ref am, Value.int (zi d), Value.int (zi a), Value.int (zi b), Value.int (zi c), Value.int (zi 2), Value.int (zi ((M 1) 4))] [Value.int (zi (320 + 8 * ((M 1) 4))), Value.ref (am + 1)] (q_mw h am (uM (uA (uA M2 1 (M 1)) 4 (u1 (u1 (u1 (M 4) 0 a) 1 b) 2 c)) 1 ((320 + 8 * ((M 1) 4)) + 0) d)) Q
                                              refine xv (x_iconst 231 d_X8_order__230 rfl) ?_
                                              refine xv (x_iadd 232 d_X8_order__231 rfl) ?_
                                              refine xv (x_iload 234 d_X8_order__232 rfl rfl) ?_
                                              refine xv (x_iastore 235 d_X8_order__234 rfl (m_s1 (by omega) (by omega))) ?_
                                              show Xv E q_m_X8_order_ 235 [Value.ref am, Value.int (zi d), Value.int (zi a), Value.int (zi b), Value.int (zi c), Value.int (zi 2), Value.int (zi ((M 1) 4))] [] (q_mw h am (uM (uM (uA (uA M2 1 (M 1)) 4 (u1 (u1 (u1 (M 4) 0 a) 1 b) 2 c)) 1 ((320 + 8 * ((M 1) 4)) + 0) d) 1 ((320 + 8 * ((M 1) 4)) + 1) 2)) Q
                                              refine xv (x_aload_n 236 d_X8_order__235 rfl rfl) ?_
                                              refine xv (x_getfield 239 d_X8_order__236 rfl f_8_9 (Nat.le_of_ble_eq_true rfl) (Nat.le_of_ble_eq_true rfl) (q_gf_of m_o rfl)) ?_
                                              refine xv (x_iload 241 d_X8_order__239 rfl rfl) ?_
                                              refine xv (x_ins1 244 (as := [Value.int (zi ((M 1) 4))]) d_X8_order__241 rfl c_8_106 rfl (Nat.le_of_ble_eq_true rfl) (Nat.le_of_ble_eq_true rfl) (Nat.le_of_ble_eq_true rfl) rfl (S_X8_order (E := E) (h := h) (am := am) (M := (uM (uM (uA (uA M2 1 (M 1)) 4 (u1 (u1 (u1 (M 4) 0 a) 1 b) 2 c)) 1 ((320 + 8 * ((M 1) 4)) + 0) d) 1 ((320 + 8 * ((M 1) 4)) + 1) 2)))) ?_
                                              show Xv E q_m_X8_order_ 244 [Value.ref am, Value.int (zi d), Value.int (zi a), Value.int (zi b), Value.int (zi c), Value.int (zi 2), Value.int (zi ((M 1) 4))] [Value.int (zi (320 + 8 * ((M 1) 4))), Value.ref (am + 1)] (q_mw h am (uM (uM (uA (uA M2 1 (M 1)) 4 (u1 (u1 (u1 (M 4) 0 a) 1 b) 2 c)) 1 ((320 + 8 * ((M 1) 4)) + 0) d) 1 ((320 + 8 * ((M 1) 4)) + 1) 2)) Q
                                              refine xv (x_iconst 245 d_X8_order__244 rfl) ?_
                                              refine xv (x_iadd 246 d_X8_order__245 rfl) ?_
                                              refine xv (x_iconst 247 d_X8_order__246 rfl) ?_
                                              refine xv (x_iastore 248 d_X8_order__247 rfl (m_s1 (by omega) (by omega))) ?_
                                              show Xv E q_m_X8_order_ 248 [Value.ref am, Value.int (zi d), Value.int (zi a), Value.int (zi b), Value.int (zi c), Value.int (zi 2), Value.int (zi ((M 1) 4))] [] (q_mw h am (uM (uM (uM (uA (uA M2 1 (M 1)) 4 (u1 (u1 (u1 (M 4) 0 a) 1 b) 2 c)) 1 ((320 + 8 * ((M 1) 4)) + 0) d) 1 ((320 + 8 * ((M 1) 4)) + 1) 2) 1 ((320 + 8 * ((M 1) 4)) + 2) 0)) Q
                                              refine xv (x_aload_n 249 d_X8_order__248 rfl rfl) ?_
                                              refine xv (x_getfield 252 d_X8_order__249 rfl f_8_9 (Nat.le_of_ble_eq_true rfl) (Nat.le_of_ble_eq_true rfl) (q_gf_of m_o rfl)) ?_
                                              refine xv (x_iload 254 d_X8_order__252 rfl rfl) ?_
                                              refine xv (x_ins1 257 (as := [Value.int (zi ((M 1) 4))]) d_X8_order__254 rfl c_8_106 rfl (Nat.le_of_ble_eq_true rfl) (Nat.le_of_ble_eq_true rfl) (Nat.le_of_ble_eq_true rfl) rfl (S_X8_order (E := E) (h := h) (am := am) (M := (uM (uM (uM (uA (uA M2 1 (M 1)) 4 (u1 (u1 (u1 (M 4) 0 a) 1 b) 2 c)) 1 ((320 + 8 * ((M 1) 4)) + 0) d) 1 ((320 + 8 * ((M 1) 4)) + 1) 2) 1 ((320 + 8 * ((M 1) 4)) + 2) 0)))) ?_
                                              show Xv E q_m_X8_order_ 257 [Value.ref am, Value.int (zi d), Value.int (zi a), Value.int (zi b), Value.int (zi c), Value.int (zi 2), Value.int (zi ((M 1) 4))] [Value.int (zi (320 + 8 * ((M 1) 4))), Value.ref (am + 1)] (q_mw h am (uM (uM (uM (uA (uA M2 1 (M 1)) 4 (u1 (u1 (u1 (M 4) 0 a) 1 b) 2 c)) 1 ((320 + 8 * ((M 1) 4)) + 0) d) 1 ((320 + 8 * ((M 1) 4)) + 1) 2) 1 ((320 + 8 * ((M 1) 4)) + 2) 0)) Q
                                              refine xv (x_iconst 258 d_X8_order__257 rfl) ?_
                                              refine xv (x_iadd 259 d_X8_order__258 rfl) ?_
                                              refine xv (x_iconst 260 d_X8_order__259 rfl) ?_
                                              refine xv (x_iastore 261 d_X8_order__260 rfl (m_s1 (by omega) (by omega))) ?_
                                              show Xv E q_m_X8_order_ 261 [Value.ref am, Value.int (zi d), Value.int (zi a), Value.int (zi b), Value.int (zi c), Value.int (zi 2), Value.int (zi ((M 1) 4))] [] (q_mw h am (uM (uM (uM (uM (uA (uA M2 1 (M 1)) 4 (u1 (u1 (u1 (M 4) 0 a) 1 b) 2 c)) 1 ((320 + 8 * ((M 1) 4)) + 0) d) 1 ((320 + 8 * ((M 1) 4)) + 1) 2) 1 ((320 + 8 * ((M 1) 4)) + 2) 0) 1 ((320 + 8 * ((M 1) 4)) + 3) (-1))) Q
                                              refine xv (x_aload_n 262 d_X8_order__261 rfl rfl) ?_
                                              refine xv (x_getfield 265 d_X8_order__262 rfl f_8_9 (Nat.le_of_ble_eq_true rfl) (Nat.le_of_ble_eq_true rfl) (q_gf_of m_o rfl)) ?_
                                              refine xv (x_iload 267 d_X8_order__265 rfl rfl) ?_
                                              refine xv (x_ins1 270 (as := [Value.int (zi ((M 1) 4))]) d_X8_order__267 rfl c_8_106 rfl (Nat.le_of_ble_eq_true rfl) (Nat.le_of_ble_eq_true rfl) (Nat.le_of_ble_eq_true rfl) rfl (S_X8_order (E := E) (h := h) (am := am) (M := (uM (uM (uM (uM (uA (uA M2 1 (M 1)) 4 (u1 (u1 (u1 (M 4) 0 a) 1 b) 2 c)) 1 ((320 + 8 * ((M 1) 4)) + 0) d) 1 ((320 + 8 * ((M 1) 4)) + 1) 2) 1 ((320 + 8 * ((M 1) 4)) + 2) 0) 1 ((320 + 8 * ((M 1) 4)) + 3) (-1))))) ?_
                                              show Xv E q_m_X8_order_ 270 [Value.ref am, Value.int (zi d), Value.int (zi a), Value.int (zi b), Value.int (zi c), Value.int (zi 2), Value.int (zi ((M 1) 4))] [Value.int (zi (320 + 8 * ((M 1) 4))), Value.ref (am + 1)] (q_mw h am (uM (uM (uM (uM (uA (uA M2 1 (M 1)) 4 (u1 (u1 (u1 (M 4) 0 a) 1 b) 2 c)) 1 ((320 + 8 * ((M 1) 4)) + 0) d) 1 ((320 + 8 * ((M 1) 4)) + 1) 2) 1 ((320 + 8 * ((M 1) 4)) + 2) 0) 1 ((320 + 8 * ((M 1) 4)) + 3) (-1))) Q
                                              refine xv (x_iconst 271 d_X8_order__270 rfl) ?_
                                              refine xv (x_iadd 272 d_X8_order__271 rfl) ?_
                                              refine xv (x_iconst 273 d_X8_order__272 rfl) ?_
                                              refine xv (x_iastore 274 d_X8_order__273 rfl (m_s1 (by omega) (by omega))) ?_
                                              show Xv E q_m_X8_order_ 274 [Value.ref am, Value.int (zi d), Value.int (zi a), Value.int (zi b), Value.int (zi c), Value.int (zi 2), Value.int (zi ((M 1) 4))] [] (q_mw h am (uM (uM (uM (uM (uM (uA (uA M2 1 (M 1)) 4 (u1 (u1 (u1 (M 4) 0 a) 1 b) 2 c)) 1 ((320 + 8 * ((M 1) 4)) + 0) d) 1 ((320 + 8 * ((M 1) 4)) + 1) 2) 1 ((320 + 8 * ((M 1) 4)) + 2) 0) 1 ((320 + 8 * ((M 1) 4)) + 3) (-1)) 1 ((320 + 8 * ((M 1) 4)) + 4) (-1))) Q
                                              refine xv (x_aload_n 275 d_X8_order__274 rfl rfl) ?_
                                              refine xv (x_getfield 278 d_X8_order__275 rfl f_8_19 (Nat.le_of_ble_eq_true rfl) (Nat.le_of_ble_eq_true rfl) (q_gf_of m_o rfl)) ?_
                                              refine xv (x_iconst 279 d_X8_order__278 rfl) ?_
                                              refine xv (x_aload_n 280 d_X8_order__279 rfl rfl) ?_
                                              refine xv (x_getfield 283 d_X8_order__280 rfl f_8_9 (Nat.le_of_ble_eq_true rfl) (Nat.le_of_ble_eq_true rfl) (q_gf_of m_o rfl)) ?_
                                              refine xv (x_iload 285 d_X8_order__283 rfl rfl) ?_
                                              refine xv (x_ins1 288 (as := [Value.int (zi ((M 1) 4))]) d_X8_order__285 rfl c_8_106 rfl (Nat.le_of_ble_eq_true rfl) (Nat.le_of_ble_eq_true rfl) (Nat.le_of_ble_eq_true rfl) rfl (S_X8_order (E := E) (h := h) (am := am) (M := (uM (uM (uM (uM (uM (uA (uA M2 1 (M 1)) 4 (u1 (u1 (u1 (M 4) 0 a) 1 b) 2 c)) 1 ((320 + 8 * ((M 1) 4)) + 0) d) 1 ((320 + 8 * ((M 1) 4)) + 1) 2) 1 ((320 + 8 * ((M 1) 4)) + 2) 0) 1 ((320 + 8 * ((M 1) 4)) + 3) (-1)) 1 ((320 + 8 * ((M 1) 4)) + 4) (-1))))) ?_
                                              show Xv E q_m_X8_order_ 288 [Value.ref am, Value.int (zi d), Value.int (zi a), Value.int (zi b), Value.int (zi c), Value.int (zi 2), Value.int (zi ((M 1) 4))] [Value.int (zi (320 + 8 * ((M 1) 4))), Value.ref (am + 1), Value.int (zi 0), Value.ref (am + 4)] (q_mw h am (uM (uM (uM (uM (uM (uA (uA M2 1 (M 1)) 4 (u1 (u1 (u1 (M 4) 0 a) 1 b) 2 c)) 1 ((320 + 8 * ((M 1) 4)) + 0) d) 1 ((320 + 8 * ((M 1) 4)) + 1) 2) 1 ((320 + 8 * ((M 1) 4)) + 2) 0) 1 ((320 + 8 * ((M 1) 4)) + 3) (-1)) 1 ((320 + 8 * ((M 1) 4)) + 4) (-1))) Q
                                              refine xv (x_iconst 289 d_X8_order__288 rfl) ?_
                                              refine xv (x_iadd 290 d_X8_order__289 rfl) ?_
                                              refine xv (x_iconst 291 d_X8_order__290 rfl) ?_
                                              refine xv (x_copy 294 d_X8_order__291 rfl rfl rfl (Nat.le_of_ble_eq_true rfl) (Nat.le_of_ble_eq_true rfl) (Nat.le_of_ble_eq_true rfl) (m_cpy 4 1 m_a4 m_a1 m_w1 (by omega) (by omega) (by omega) (by omega) (by omega) (by decide) (by decide))) ?_
                                              show Xv E q_m_X8_order_ 294 [Value.ref am, Value.int (zi d), Value.int (zi a), Value.int (zi b), Value.int (zi c), Value.int (zi 2), Value.int (zi ((M 1) 4))] [] (q_mw h am (uA (uM (uM (uM (uM (uM (uA (uA M2 1 (M 1)) 4 (u1 (u1 (u1 (M 4) 0 a) 1 b) 2 c)) 1 ((320 + 8 * ((M 1) 4)) + 0) d) 1 ((320 + 8 * ((M 1) 4)) + 1) 2) 1 ((320 + 8 * ((M 1) 4)) + 2) 0) 1 ((320 + 8 * ((M 1) 4)) + 3) (-1)) 1 ((320 + 8 * ((M 1) 4)) + 4) (-1)) 1 (cpI (u1 (u1 (u1 (M 4) 0 a) 1 b) 2 c) (u1 (u1 (u1 (u1 (u1 (M 1) ((320 + 8 * ((M 1) 4)) + 0) d) ((320 + 8 * ((M 1) 4)) + 1) 2) ((320 + 8 * ((M 1) 4)) + 2) 0) ((320 + 8 * ((M 1) 4)) + 3) (-1)) ((320 + 8 * ((M 1) 4)) + 4) (-1)) 0 ((320 + 8 * ((M 1) 4)) + 5) 3))) Q
                                              refine xv (x_aload_n 295 d_X8_order__294 rfl rfl) ?_
                                              refine xv (x_getfield 298 d_X8_order__295 rfl f_8_9 (Nat.le_of_ble_eq_true rfl) (Nat.le_of_ble_eq_true rfl) (q_gf_of m_o rfl)) ?_
                                              refine xv (x_iconst 299 d_X8_order__298 rfl) ?_
                                              refine xv (x_dup2 300 d_X8_order__299 rfl rfl rfl) ?_
                                              refine xv (x_iaload 301 d_X8_order__300 rfl ((m_g1 (by omega) (by omega)).trans (rfl : _ = some (Value.int (zi ((cpI (u1 (u1 (u1 (M 4) 0 a) 1 b) 2 c) (u1 (u1 (u1 (u1 (u1 (M 1) ((320 + 8 * ((M 1) 4)) + 0) d) ((320 + 8 * ((M 1) 4)) + 1) 2) ((320 + 8 * ((M 1) 4)) + 2) 0) ((320 + 8 * ((M 1) 4)) + 3) (-1)) ((320 + 8 * ((M 1) 4)) + 4) (-1)) 0 ((320 + 8 * ((M 1) 4)) + 5) 3) 4)))))) ?_
                                              refine xv (x_iconst 302 d_X8_order__301 rfl) ?_
                                              refine xv (x_iadd 303 d_X8_order__302 rfl) ?_
                                              refine xv (x_iastore 304 d_X8_order__303 rfl (m_s1 (by omega) (by omega))) ?_
                                              show Xv E q_m_X8_order_ 304 [Value.ref am, Value.int (zi d), Value.int (zi a), Value.int (zi b), Value.int (zi c), Value.int (zi 2), Value.int (zi ((M 1) 4))] [] (q_mw h am (uM (uA (uM (uM (uM (uM (uM (uA (uA M2 1 (M 1)) 4 (u1 (u1 (u1 (M 4) 0 a) 1 b) 2 c)) 1 ((320 + 8 * ((M 1) 4)) + 0) d) 1 ((320 + 8 * ((M 1) 4)) + 1) 2) 1 ((320 + 8 * ((M 1) 4)) + 2) 0) 1 ((320 + 8 * ((M 1) 4)) + 3) (-1)) 1 ((320 + 8 * ((M 1) 4)) + 4) (-1)) 1 (cpI (u1 (u1 (u1 (M 4) 0 a) 1 b) 2 c) (u1 (u1 (u1 (u1 (u1 (M 1) ((320 + 8 * ((M 1) 4)) + 0) d) ((320 + 8 * ((M 1) 4)) + 1) 2) ((320 + 8 * ((M 1) 4)) + 2) 0) ((320 + 8 * ((M 1) 4)) + 3) (-1)) ((320 + 8 * ((M 1) 4)) + 4) (-1)) 0 ((320 + 8 * ((M 1) 4)) + 5) 3)) 1 4 (((cpI (u1 (u1 (u1 (M 4) 0 a) 1 b) 2 c) (u1 (u1 (u1 (u1 (u1 (M 1) ((320 + 8 * ((M 1) 4)) + 0) d) ((320 + 8 * ((M 1) 4)) + 1) 2) ((320 + 8 * ((M 1) 4)) + 2) 0) ((320 + 8 * ((M 1) 4)) + 3) (-1)) ((320 + 8 * ((M 1) 4)) + 4) (-1)) 0 ((320 + 8 * ((M 1) 4)) + 5) 3) 4) + 1))) Q
                                              refine xv (x_iload 306 d_X8_order__304 rfl rfl) ?_
                                              refine xv_r (x_ireturn d_X8_order__306 rfl rfl) ?_
                                              have er : mOrd (M 1) d a b c = (0, 0) := by first | (exfalso; omega) | (unfold mOrd; repeat (first | rw [if_pos (by omega)] | rw [if_neg (by omega)]))
                                              have ec : cntO b c = 2 := by first | (exfalso; omega) | (unfold cntO; repeat (first | rw [if_pos (by omega)] | rw [if_neg (by omega)]))
                                              refine hQ _ _ ?_
                                              unfold mMu2
                                              rw [er, if_pos rfl, ec]
                                              refine ⟨rfl, ?_⟩
                                              unfold lnO
                                              rw [hM2, ← eM]
                                              simp only [uM_uA, uA_uA, uA_eq]
                                              rfl
                                            · omega
                                          · refine xv (x_aload_n 177 d_X8_order__176 rfl rfl) ?_
                                            refine xv (x_bipush 179 d_X8_order__177 rfl rfl) ?_
                                            refine xv (x_aload_n 180 d_X8_order__179 rfl rfl) ?_
                                            refine xv (x_getfield 183 d_X8_order__180 rfl f_8_19 (Nat.le_of_ble_eq_true rfl) (Nat.le_of_ble_eq_true rfl) (q_gf_of m_o rfl)) ?_
                                            refine xv (x_iload 185 d_X8_order__183 rfl rfl) ?_
                                            refine xv (x_iaload 186 d_X8_order__185 rfl ((m_g4 (by omega) (by omega)).trans (rfl : _ = some (Value.int (zi b))))) ?_
                                            obtain ⟨r186, h186, e186, z186, y186⟩ := S_X8_refuse (E := E) (h := h) (am := am) (M := (uM (uM (uM (uM M 0 5 0) 4 0 a) 4 1 b) 4 2 c)) (y := 12) (z := b) 
                                            subst z186
                                            subst y186
                                            refine xv (x_inv1 189 (as := [Value.int (zi 12), Value.int (zi b)]) d_X8_order__186 rfl c_8_90 rfl (Nat.le_of_ble_eq_true rfl) (Nat.le_of_ble_eq_true rfl) m_o (Nat.le_of_ble_eq_true rfl) (Nat.le_of_ble_eq_true rfl) rfl e186) ?_
                                            show Xv E q_m_X8_order_ 189 [Value.ref am, Value.int (zi d), Value.int (zi a), Value.int (zi b), Value.int (zi c), Value.int (zi 2), Value.int (zi (0 + 1))] [Value.int (zi 0)] (q_mw h am (uM (uM (uM (uM (uM (uM (uM M 0 5 0) 4 0 a) 4 1 b) 4 2 c) 0 5 1) 0 6 12) 0 7 b)) Q
                                            refine xv_r (x_ireturn d_X8_order__189 rfl rfl) ?_
                                            have er : mOrd (M 1) d a b c = (12, b) := by first | (exfalso; omega) | (unfold mOrd; repeat (first | rw [if_pos (by omega)] | rw [if_neg (by omega)]))
                                            refine hQ _ _ ?_
                                            unfold mMu2
                                            rw [er]
                                            exact ⟨rfl, rfl⟩
                                      · refine xv (x_aload_n 177 d_X8_order__176 rfl rfl) ?_
                                        refine xv (x_bipush 179 d_X8_order__177 rfl rfl) ?_
                                        refine xv (x_aload_n 180 d_X8_order__179 rfl rfl) ?_
                                        refine xv (x_getfield 183 d_X8_order__180 rfl f_8_19 (Nat.le_of_ble_eq_true rfl) (Nat.le_of_ble_eq_true rfl) (q_gf_of m_o rfl)) ?_
                                        refine xv (x_iload 185 d_X8_order__183 rfl rfl) ?_
                                        refine xv (x_iaload 186 d_X8_order__185 rfl ((m_g4 (by omega) (by omega)).trans (rfl : _ = some (Value.int (zi a))))) ?_
                                        obtain ⟨r186, h186, e186, z186, y186⟩ := S_X8_refuse (E := E) (h := h) (am := am) (M := (uM (uM (uM (uM M 0 5 0) 4 0 a) 4 1 b) 4 2 c)) (y := 12) (z := a) 
                                        subst z186
                                        subst y186
                                        refine xv (x_inv1 189 (as := [Value.int (zi 12), Value.int (zi a)]) d_X8_order__186 rfl c_8_90 rfl (Nat.le_of_ble_eq_true rfl) (Nat.le_of_ble_eq_true rfl) m_o (Nat.le_of_ble_eq_true rfl) (Nat.le_of_ble_eq_true rfl) rfl e186) ?_
                                        show Xv E q_m_X8_order_ 189 [Value.ref am, Value.int (zi d), Value.int (zi a), Value.int (zi b), Value.int (zi c), Value.int (zi 2), Value.int (zi 0)] [Value.int (zi 0)] (q_mw h am (uM (uM (uM (uM (uM (uM (uM M 0 5 0) 4 0 a) 4 1 b) 4 2 c) 0 5 1) 0 6 12) 0 7 a)) Q
                                        refine xv_r (x_ireturn d_X8_order__189 rfl rfl) ?_
                                        have er : mOrd (M 1) d a b c = (12, a) := by first | (exfalso; omega) | (unfold mOrd; repeat (first | rw [if_pos (by omega)] | rw [if_neg (by omega)]))
                                        refine hQ _ _ ?_
                                        unfold mMu2
                                        rw [er]
                                        exact ⟨rfl, rfl⟩
                                  · refine xv (x_aload_n 142 d_X8_order__141 rfl rfl) ?_
                                    refine xv (x_iconst 143 d_X8_order__142 rfl) ?_
                                    refine xv (x_iconst 144 d_X8_order__143 rfl) ?_
                                    obtain ⟨r144, h144, e144, z144, y144⟩ := S_X8_refuse (E := E) (h := h) (am := am) (M := (uM (uM (uM (uM M 0 5 0) 4 0 a) 4 1 b) 4 2 c)) (y := 3) (z := 0) 
                                    subst z144
                                    subst y144
                                    refine xv (x_inv1 147 (as := [Value.int (zi 3), Value.int (zi 0)]) d_X8_order__144 rfl c_8_90 rfl (Nat.le_of_ble_eq_true rfl) (Nat.le_of_ble_eq_true rfl) m_o (Nat.le_of_ble_eq_true rfl) (Nat.le_of_ble_eq_true rfl) rfl e144) ?_
                                    show Xv E q_m_X8_order_ 147 [Value.ref am, Value.int (zi d), Value.int (zi a), Value.int (zi b), Value.int (zi c), Value.int (zi 2), Value.int (zi (((0 + 1) + 1) + 1))] [Value.int (zi 0)] (q_mw h am (uM (uM (uM (uM (uM (uM (uM M 0 5 0) 4 0 a) 4 1 b) 4 2 c) 0 5 1) 0 6 3) 0 7 0)) Q
                                    refine xv_r (x_ireturn d_X8_order__147 rfl rfl) ?_
                                    have er : mOrd (M 1) d a b c = (3, 0) := by first | (exfalso; omega) | (unfold mOrd; repeat (first | rw [if_pos (by omega)] | rw [if_neg (by omega)]))
                                    refine hQ _ _ ?_
                                    unfold mMu2
                                    rw [er]
                                    exact ⟨rfl, rfl⟩
                                · refine xv (x_aload_n 124 d_X8_order__123 rfl rfl) ?_
                                  refine xv (x_iconst 125 d_X8_order__124 rfl) ?_
                                  refine xv (x_iconst 126 d_X8_order__125 rfl) ?_
                                  obtain ⟨r126, h126, e126, z126, y126⟩ := S_X8_refuse (E := E) (h := h) (am := am) (M := (uM (uM (uM (uM M 0 5 0) 4 0 a) 4 1 b) 4 2 c)) (y := 2) (z := 0) 
                                  subst z126
                                  subst y126
                                  refine xv (x_inv1 129 (as := [Value.int (zi 2), Value.int (zi 0)]) d_X8_order__126 rfl c_8_90 rfl (Nat.le_of_ble_eq_true rfl) (Nat.le_of_ble_eq_true rfl) m_o (Nat.le_of_ble_eq_true rfl) (Nat.le_of_ble_eq_true rfl) rfl e126) ?_
                                  show Xv E q_m_X8_order_ 129 [Value.ref am, Value.int (zi d), Value.int (zi a), Value.int (zi b), Value.int (zi c), Value.int (zi 2), Value.int (zi (((0 + 1) + 1) + 1))] [Value.int (zi 0)] (q_mw h am (uM (uM (uM (uM (uM (uM (uM M 0 5 0) 4 0 a) 4 1 b) 4 2 c) 0 5 1) 0 6 2) 0 7 0)) Q
                                  refine xv_r (x_ireturn d_X8_order__129 rfl rfl) ?_
                                  have er : mOrd (M 1) d a b c = (2, 0) := by first | (exfalso; omega) | (unfold mOrd; repeat (first | rw [if_pos (by omega)] | rw [if_neg (by omega)]))
                                  refine hQ _ _ ?_
                                  unfold mMu2
                                  rw [er]
                                  exact ⟨rfl, rfl⟩
                          · omega
                        · refine xv (x_aload_n 89 d_X8_order__88 rfl rfl) ?_
                          refine xv (x_iconst 90 d_X8_order__89 rfl) ?_
                          refine xv (x_iconst 91 d_X8_order__90 rfl) ?_
                          obtain ⟨r91, h91, e91, z91, y91⟩ := S_X8_refuse (E := E) (h := h) (am := am) (M := (uM (uM (uM (uM M 0 5 0) 4 0 a) 4 1 b) 4 2 c)) (y := 1) (z := 0) 
                          subst z91
                          subst y91
                          refine xv (x_inv1 94 (as := [Value.int (zi 1), Value.int (zi 0)]) d_X8_order__91 rfl c_8_90 rfl (Nat.le_of_ble_eq_true rfl) (Nat.le_of_ble_eq_true rfl) m_o (Nat.le_of_ble_eq_true rfl) (Nat.le_of_ble_eq_true rfl) rfl e91) ?_
                          show Xv E q_m_X8_order_ 94 [Value.ref am, Value.int (zi d), Value.int (zi a), Value.int (zi b), Value.int (zi c), Value.int (zi 2), Value.int (zi ((0 + 1) + 1))] [Value.int (zi 0)] (q_mw h am (uM (uM (uM (uM (uM (uM (uM M 0 5 0) 4 0 a) 4 1 b) 4 2 c) 0 5 1) 0 6 1) 0 7 0)) Q
                          refine xv_r (x_ireturn d_X8_order__94 rfl rfl) ?_
                          have er : mOrd (M 1) d a b c = (1, 0) := by first | (exfalso; omega) | (unfold mOrd; repeat (first | rw [if_pos (by omega)] | rw [if_neg (by omega)]))
                          refine hQ _ _ ?_
                          unfold mMu2
                          rw [er]
                          exact ⟨rfl, rfl⟩
                · refine xv (x_aload_n 89 d_X8_order__88 rfl rfl) ?_
                  refine xv (x_iconst 90 d_X8_order__89 rfl) ?_
                  refine xv (x_iconst 91 d_X8_order__90 rfl) ?_
                  obtain ⟨r91, h91, e91, z91, y91⟩ := S_X8_refuse (E := E) (h := h) (am := am) (M := (uM (uM (uM (uM M 0 5 0) 4 0 a) 4 1 b) 4 2 c)) (y := 1) (z := 0) 
                  subst z91
                  subst y91
                  refine xv (x_inv1 94 (as := [Value.int (zi 1), Value.int (zi 0)]) d_X8_order__91 rfl c_8_90 rfl (Nat.le_of_ble_eq_true rfl) (Nat.le_of_ble_eq_true rfl) m_o (Nat.le_of_ble_eq_true rfl) (Nat.le_of_ble_eq_true rfl) rfl e91) ?_
                  show Xv E q_m_X8_order_ 94 [Value.ref am, Value.int (zi d), Value.int (zi a), Value.int (zi b), Value.int (zi c), Value.int (zi 2), Value.int (zi (0 + 1))] [Value.int (zi 0)] (q_mw h am (uM (uM (uM (uM (uM (uM (uM M 0 5 0) 4 0 a) 4 1 b) 4 2 c) 0 5 1) 0 6 1) 0 7 0)) Q
                  refine xv_r (x_ireturn d_X8_order__94 rfl rfl) ?_
                  have er : mOrd (M 1) d a b c = (1, 0) := by first | (exfalso; omega) | (unfold mOrd; repeat (first | rw [if_pos (by omega)] | rw [if_neg (by omega)]))
                  refine hQ _ _ ?_
                  unfold mMu2
                  rw [er]
                  exact ⟨rfl, rfl⟩
        · replace k69 := bI_0.mp k69
          refine xv (x_iload 74 d_X8_order__72 rfl rfl) ?_
          refine v_if_eq 88 77 d_X8_order__74 rfl rfl (by omega) (by omega) (fun k74 => ?_) (fun k74 => ?_)
          · refine xv (x_aload_n 89 d_X8_order__88 rfl rfl) ?_
            refine xv (x_iconst 90 d_X8_order__89 rfl) ?_
            refine xv (x_iconst 91 d_X8_order__90 rfl) ?_
            obtain ⟨r91, h91, e91, z91, y91⟩ := S_X8_refuse (E := E) (h := h) (am := am) (M := (uM (uM (uM (uM M 0 5 0) 4 0 a) 4 1 b) 4 2 c)) (y := 1) (z := 0) 
            subst z91
            subst y91
            refine xv (x_inv1 94 (as := [Value.int (zi 1), Value.int (zi 0)]) d_X8_order__91 rfl c_8_90 rfl (Nat.le_of_ble_eq_true rfl) (Nat.le_of_ble_eq_true rfl) m_o (Nat.le_of_ble_eq_true rfl) (Nat.le_of_ble_eq_true rfl) rfl e91) ?_
            show Xv E q_m_X8_order_ 94 [Value.ref am, Value.int (zi d), Value.int (zi a), Value.int (zi b), Value.int (zi c), Value.int (zi 2), Value.int (zi 0)] [Value.int (zi 0)] (q_mw h am (uM (uM (uM (uM (uM (uM (uM M 0 5 0) 4 0 a) 4 1 b) 4 2 c) 0 5 1) 0 6 1) 0 7 0)) Q
            refine xv_r (x_ireturn d_X8_order__94 rfl rfl) ?_
            have er : mOrd (M 1) d a b c = (1, 0) := by first | (exfalso; omega) | (unfold mOrd; repeat (first | rw [if_pos (by omega)] | rw [if_neg (by omega)]))
            refine hQ _ _ ?_
            unfold mMu2
            rw [er]
            exact ⟨rfl, rfl⟩
          · omega
  · refine xv (x_iconst 33 d_X8_order__32 rfl) ?_
    refine xv (x_goto 47 d_X8_order__33 rfl) ?_
    refine xv (x_istore 49 d_X8_order__47 rfl (Nat.le_of_ble_eq_true rfl)) ?_
    show Xv E q_m_X8_order_ 49 [Value.ref am, Value.int (zi d), Value.int (zi a), Value.int (zi b), Value.int (zi c), Value.int (zi 1), Value.null] [] (q_mw h am (uM (uM (uM (uM M 0 5 0) 4 0 a) 4 1 b) 4 2 c)) Q
    refine xv (x_iconst 50 d_X8_order__49 rfl) ?_
    refine xv (x_istore 52 d_X8_order__50 rfl (Nat.le_of_ble_eq_true rfl)) ?_
    show Xv E q_m_X8_order_ 52 [Value.ref am, Value.int (zi d), Value.int (zi a), Value.int (zi b), Value.int (zi c), Value.int (zi 1), Value.int (zi 0)] [] (q_mw h am (uM (uM (uM (uM M 0 5 0) 4 0 a) 4 1 b) 4 2 c)) Q
    refine xv (x_iload 54 d_X8_order__52 rfl rfl) ?_
    refine xv (x_iconst 55 d_X8_order__54 rfl) ?_
    refine v_icmp_ge 101 58 d_X8_order__55 rfl rfl (by omega) (by omega) (by omega) (by omega) (fun k55 => ?_) (fun k55 => ?_)
    · omega
    · refine xv (x_aload_n 59 d_X8_order__58 rfl rfl) ?_
      refine xv (x_aload_n 60 d_X8_order__59 rfl rfl) ?_
      refine xv (x_getfield 63 d_X8_order__60 rfl f_8_19 (Nat.le_of_ble_eq_true rfl) (Nat.le_of_ble_eq_true rfl) (q_gf_of m_o rfl)) ?_
      refine xv (x_iload 65 d_X8_order__63 rfl rfl) ?_
      refine xv (x_iaload 66 d_X8_order__65 rfl ((m_g4 (by omega) (by omega)).trans (rfl : _ = some (Value.int (zi a))))) ?_
      refine xv (x_inv1 69 (as := [Value.int (zi a)]) d_X8_order__66 rfl c_8_86 rfl (Nat.le_of_ble_eq_true rfl) (Nat.le_of_ble_eq_true rfl) m_o (Nat.le_of_ble_eq_true rfl) (Nat.le_of_ble_eq_true rfl) rfl (S_X8_isCell (E := E) (h := h) (am := am) (M := (uM (uM (uM (uM M 0 5 0) 4 0 a) 4 1 b) 4 2 c)) hR (by first | omega | (rw [show (uM (uM (uM (uM M 0 5 0) 4 0 a) 4 1 b) 4 2 c) 1 = (M 1) from rfl]; omega)) (by first | omega | (rw [show (uM (uM (uM (uM M 0 5 0) 4 0 a) 4 1 b) 4 2 c) 1 = (M 1) from rfl]; omega)))) ?_
      show Xv E q_m_X8_order_ 69 [Value.ref am, Value.int (zi d), Value.int (zi a), Value.int (zi b), Value.int (zi c), Value.int (zi 1), Value.int (zi 0)] [Value.int (zi (bI (isC (M 1) a)))] (q_mw h am (uM (uM (uM (uM M 0 5 0) 4 0 a) 4 1 b) 4 2 c)) Q
      refine v_if_ne 95 72 d_X8_order__69 rfl rfl (by have := bI_r (isC (M 1) a); omega) (by have := bI_r (isC (M 1) a); omega) (fun k69 => ?_) (fun k69 => ?_)
      · replace k69 := bI_n0.mp k69
        refine xv (x_iinc 98 d_X8_order__95 rfl rfl) ?_
        show Xv E q_m_X8_order_ 98 [Value.ref am, Value.int (zi d), Value.int (zi a), Value.int (zi b), Value.int (zi c), Value.int (zi 1), Value.int (zi (0 + 1))] [] (q_mw h am (uM (uM (uM (uM M 0 5 0) 4 0 a) 4 1 b) 4 2 c)) Q
        refine xv (x_goto 52 d_X8_order__98 rfl) ?_
        refine xv (x_iload 54 d_X8_order__52 rfl rfl) ?_
        refine xv (x_iconst 55 d_X8_order__54 rfl) ?_
        refine v_icmp_ge 101 58 d_X8_order__55 rfl rfl (by omega) (by omega) (by omega) (by omega) (fun k55 => ?_) (fun k55 => ?_)
        · omega
        · refine xv (x_aload_n 59 d_X8_order__58 rfl rfl) ?_
          refine xv (x_aload_n 60 d_X8_order__59 rfl rfl) ?_
          refine xv (x_getfield 63 d_X8_order__60 rfl f_8_19 (Nat.le_of_ble_eq_true rfl) (Nat.le_of_ble_eq_true rfl) (q_gf_of m_o rfl)) ?_
          refine xv (x_iload 65 d_X8_order__63 rfl rfl) ?_
          refine xv (x_iaload 66 d_X8_order__65 rfl ((m_g4 (by omega) (by omega)).trans (rfl : _ = some (Value.int (zi b))))) ?_
          refine xv (x_inv1 69 (as := [Value.int (zi b)]) d_X8_order__66 rfl c_8_86 rfl (Nat.le_of_ble_eq_true rfl) (Nat.le_of_ble_eq_true rfl) m_o (Nat.le_of_ble_eq_true rfl) (Nat.le_of_ble_eq_true rfl) rfl (S_X8_isCell (E := E) (h := h) (am := am) (M := (uM (uM (uM (uM M 0 5 0) 4 0 a) 4 1 b) 4 2 c)) hR (by first | omega | (rw [show (uM (uM (uM (uM M 0 5 0) 4 0 a) 4 1 b) 4 2 c) 1 = (M 1) from rfl]; omega)) (by first | omega | (rw [show (uM (uM (uM (uM M 0 5 0) 4 0 a) 4 1 b) 4 2 c) 1 = (M 1) from rfl]; omega)))) ?_
          show Xv E q_m_X8_order_ 69 [Value.ref am, Value.int (zi d), Value.int (zi a), Value.int (zi b), Value.int (zi c), Value.int (zi 1), Value.int (zi (0 + 1))] [Value.int (zi (bI (isC (M 1) b)))] (q_mw h am (uM (uM (uM (uM M 0 5 0) 4 0 a) 4 1 b) 4 2 c)) Q
          refine v_if_ne 95 72 d_X8_order__69 rfl rfl (by have := bI_r (isC (M 1) b); omega) (by have := bI_r (isC (M 1) b); omega) (fun k69 => ?_) (fun k69 => ?_)
          · replace k69 := bI_n0.mp k69
            refine xv (x_iinc 98 d_X8_order__95 rfl rfl) ?_
            show Xv E q_m_X8_order_ 98 [Value.ref am, Value.int (zi d), Value.int (zi a), Value.int (zi b), Value.int (zi c), Value.int (zi 1), Value.int (zi ((0 + 1) + 1))] [] (q_mw h am (uM (uM (uM (uM M 0 5 0) 4 0 a) 4 1 b) 4 2 c)) Q
            refine xv (x_goto 52 d_X8_order__98 rfl) ?_
            refine xv (x_iload 54 d_X8_order__52 rfl rfl) ?_
            refine xv (x_iconst 55 d_X8_order__54 rfl) ?_
            refine v_icmp_ge 101 58 d_X8_order__55 rfl rfl (by omega) (by omega) (by omega) (by omega) (fun k55 => ?_) (fun k55 => ?_)
            · omega
            · refine xv (x_aload_n 59 d_X8_order__58 rfl rfl) ?_
              refine xv (x_aload_n 60 d_X8_order__59 rfl rfl) ?_
              refine xv (x_getfield 63 d_X8_order__60 rfl f_8_19 (Nat.le_of_ble_eq_true rfl) (Nat.le_of_ble_eq_true rfl) (q_gf_of m_o rfl)) ?_
              refine xv (x_iload 65 d_X8_order__63 rfl rfl) ?_
              refine xv (x_iaload 66 d_X8_order__65 rfl ((m_g4 (by omega) (by omega)).trans (rfl : _ = some (Value.int (zi c))))) ?_
              refine xv (x_inv1 69 (as := [Value.int (zi c)]) d_X8_order__66 rfl c_8_86 rfl (Nat.le_of_ble_eq_true rfl) (Nat.le_of_ble_eq_true rfl) m_o (Nat.le_of_ble_eq_true rfl) (Nat.le_of_ble_eq_true rfl) rfl (S_X8_isCell (E := E) (h := h) (am := am) (M := (uM (uM (uM (uM M 0 5 0) 4 0 a) 4 1 b) 4 2 c)) hR (by first | omega | (rw [show (uM (uM (uM (uM M 0 5 0) 4 0 a) 4 1 b) 4 2 c) 1 = (M 1) from rfl]; omega)) (by first | omega | (rw [show (uM (uM (uM (uM M 0 5 0) 4 0 a) 4 1 b) 4 2 c) 1 = (M 1) from rfl]; omega)))) ?_
              show Xv E q_m_X8_order_ 69 [Value.ref am, Value.int (zi d), Value.int (zi a), Value.int (zi b), Value.int (zi c), Value.int (zi 1), Value.int (zi ((0 + 1) + 1))] [Value.int (zi (bI (isC (M 1) c)))] (q_mw h am (uM (uM (uM (uM M 0 5 0) 4 0 a) 4 1 b) 4 2 c)) Q
              refine v_if_ne 95 72 d_X8_order__69 rfl rfl (by have := bI_r (isC (M 1) c); omega) (by have := bI_r (isC (M 1) c); omega) (fun k69 => ?_) (fun k69 => ?_)
              · replace k69 := bI_n0.mp k69
                refine xv (x_iinc 98 d_X8_order__95 rfl rfl) ?_
                show Xv E q_m_X8_order_ 98 [Value.ref am, Value.int (zi d), Value.int (zi a), Value.int (zi b), Value.int (zi c), Value.int (zi 1), Value.int (zi (((0 + 1) + 1) + 1))] [] (q_mw h am (uM (uM (uM (uM M 0 5 0) 4 0 a) 4 1 b) 4 2 c)) Q
                refine xv (x_goto 52 d_X8_order__98 rfl) ?_
                refine xv (x_iload 54 d_X8_order__52 rfl rfl) ?_
                refine xv (x_iconst 55 d_X8_order__54 rfl) ?_
                refine v_icmp_ge 101 58 d_X8_order__55 rfl rfl (by omega) (by omega) (by omega) (by omega) (fun k55 => ?_) (fun k55 => ?_)
                · refine xv (x_iload_n 102 d_X8_order__101 rfl rfl) ?_
                  refine xv (x_iconst 103 d_X8_order__102 rfl) ?_
                  refine xv (x_sipush 106 d_X8_order__103 rfl rfl) ?_
                  refine xv (x_ins1 109 (as := [Value.int (zi d), Value.int (zi 0), Value.int (zi 999)]) d_X8_order__106 rfl c_8_71 rfl (Nat.le_of_ble_eq_true rfl) (Nat.le_of_ble_eq_true rfl) (Nat.le_of_ble_eq_true rfl) rfl (S_X8_in (E := E) (h := h) (am := am) (M := (uM (uM (uM (uM M 0 5 0) 4 0 a) 4 1 b) 4 2 c)) (by first | omega | (rw [show (uM (uM (uM (uM M 0 5 0) 4 0 a) 4 1 b) 4 2 c) 1 = (M 1) from rfl]; omega)) (by first | omega | (rw [show (uM (uM (uM (uM M 0 5 0) 4 0 a) 4 1 b) 4 2 c) 1 = (M 1) from rfl]; omega)) (by first | omega | (rw [show (uM (uM (uM (uM M 0 5 0) 4 0 a) 4 1 b) 4 2 c) 1 = (M 1) from rfl]; omega)) (by first | omega | (rw [show (uM (uM (uM (uM M 0 5 0) 4 0 a) 4 1 b) 4 2 c) 1 = (M 1) from rfl]; omega)) (by first | omega | (rw [show (uM (uM (uM (uM M 0 5 0) 4 0 a) 4 1 b) 4 2 c) 1 = (M 1) from rfl]; omega)) (by first | omega | (rw [show (uM (uM (uM (uM M 0 5 0) 4 0 a) 4 1 b) 4 2 c) 1 = (M 1) from rfl]; omega)))) ?_
                  show Xv E q_m_X8_order_ 109 [Value.ref am, Value.int (zi d), Value.int (zi a), Value.int (zi b), Value.int (zi c), Value.int (zi 1), Value.int (zi (((0 + 1) + 1) + 1))] [Value.int (zi (bI (inn d 0 999)))] (q_mw h am (uM (uM (uM (uM M 0 5 0) 4 0 a) 4 1 b) 4 2 c)) Q
                  refine v_if_eq 123 112 d_X8_order__109 rfl rfl (by have := bI_r (inn d 0 999); omega) (by have := bI_r (inn d 0 999); omega) (fun k109 => ?_) (fun k109 => ?_)
                  · replace k109 := bI_0.mp k109
                    refine xv (x_aload_n 124 d_X8_order__123 rfl rfl) ?_
                    refine xv (x_iconst 125 d_X8_order__124 rfl) ?_
                    refine xv (x_iconst 126 d_X8_order__125 rfl) ?_
                    obtain ⟨r126, h126, e126, z126, y126⟩ := S_X8_refuse (E := E) (h := h) (am := am) (M := (uM (uM (uM (uM M 0 5 0) 4 0 a) 4 1 b) 4 2 c)) (y := 2) (z := 0) 
                    subst z126
                    subst y126
                    refine xv (x_inv1 129 (as := [Value.int (zi 2), Value.int (zi 0)]) d_X8_order__126 rfl c_8_90 rfl (Nat.le_of_ble_eq_true rfl) (Nat.le_of_ble_eq_true rfl) m_o (Nat.le_of_ble_eq_true rfl) (Nat.le_of_ble_eq_true rfl) rfl e126) ?_
                    show Xv E q_m_X8_order_ 129 [Value.ref am, Value.int (zi d), Value.int (zi a), Value.int (zi b), Value.int (zi c), Value.int (zi 1), Value.int (zi (((0 + 1) + 1) + 1))] [Value.int (zi 0)] (q_mw h am (uM (uM (uM (uM (uM (uM (uM M 0 5 0) 4 0 a) 4 1 b) 4 2 c) 0 5 1) 0 6 2) 0 7 0)) Q
                    refine xv_r (x_ireturn d_X8_order__129 rfl rfl) ?_
                    have er : mOrd (M 1) d a b c = (2, 0) := by first | (exfalso; omega) | (unfold mOrd; repeat (first | rw [if_pos (by omega)] | rw [if_neg (by omega)]))
                    refine hQ _ _ ?_
                    unfold mMu2
                    rw [er]
                    exact ⟨rfl, rfl⟩
                  · replace k109 := bI_n0.mp k109
                    refine xv (x_iload_n 113 d_X8_order__112 rfl rfl) ?_
                    refine xv (x_iconst 114 d_X8_order__113 rfl) ?_
                    refine v_icmp_ne 130 117 d_X8_order__114 rfl rfl (by omega) (by omega) (by omega) (by omega) (fun k114 => ?_) (fun k114 => ?_)
                    · refine xv (x_aload_n 131 d_X8_order__130 rfl rfl) ?_
                      refine xv (x_getfield 134 d_X8_order__131 rfl f_8_9 (Nat.le_of_ble_eq_true rfl) (Nat.le_of_ble_eq_true rfl) (q_gf_of m_o rfl)) ?_
                      refine xv (x_iconst 135 d_X8_order__134 rfl) ?_
                      refine xv (x_iaload 136 d_X8_order__135 rfl ((m_g1 (by omega) (by omega)).trans (rfl : _ = some (Value.int (zi ((M 1) 4)))))) ?_
                      have q_73 : -1000000 ≤ (M 1) 4 ∧ (M 1) 4 ≤ 1000000 := hr _
                      refine xv (x_bipush 138 d_X8_order__136 rfl rfl) ?_
                      refine v_icmp_ne 148 141 d_X8_order__138 rfl rfl (by omega) (by omega) (by omega) (by omega) (fun k138 => ?_) (fun k138 => ?_)
                      · refine xv (x_iconst 149 d_X8_order__148 rfl) ?_
                        refine xv (x_istore 151 d_X8_order__149 rfl (Nat.le_of_ble_eq_true rfl)) ?_
                        show Xv E q_m_X8_order_ 151 [Value.ref am, Value.int (zi d), Value.int (zi a), Value.int (zi b), Value.int (zi c), Value.int (zi 1), Value.int (zi 0)] [] (q_mw h am (uM (uM (uM (uM M 0 5 0) 4 0 a) 4 1 b) 4 2 c)) Q
                        refine xv (x_iload 153 d_X8_order__151 rfl rfl) ?_
                        refine xv (x_iload 155 d_X8_order__153 rfl rfl) ?_
                        refine v_icmp_ge 196 158 d_X8_order__155 rfl rfl (by omega) (by omega) (by omega) (by omega) (fun k155 => ?_) (fun k155 => ?_)
                        · omega
                        · refine xv (x_aload_n 159 d_X8_order__158 rfl rfl) ?_
                          refine xv (x_getfield 162 d_X8_order__159 rfl f_8_9 (Nat.le_of_ble_eq_true rfl) (Nat.le_of_ble_eq_true rfl) (q_gf_of m_o rfl)) ?_
                          refine xv (x_bipush 164 d_X8_order__162 rfl rfl) ?_
                          refine xv (x_aload_n 165 d_X8_order__164 rfl rfl) ?_
                          refine xv (x_getfield 168 d_X8_order__165 rfl f_8_19 (Nat.le_of_ble_eq_true rfl) (Nat.le_of_ble_eq_true rfl) (q_gf_of m_o rfl)) ?_
                          refine xv (x_iload 170 d_X8_order__168 rfl rfl) ?_
                          refine xv (x_iaload 171 d_X8_order__170 rfl ((m_g4 (by omega) (by omega)).trans (rfl : _ = some (Value.int (zi a))))) ?_
                          refine xv (x_iadd 172 d_X8_order__171 rfl) ?_
                          refine xv (x_iaload 173 d_X8_order__172 rfl ((m_g1 (by omega) (by omega)).trans (rfl : _ = some (Value.int (zi ((M 1) (8 + a))))))) ?_
                          have q_74 : -1000000 ≤ (M 1) (8 + a) ∧ (M 1) (8 + a) ≤ 1000000 := hr _
                          refine v_if_eq 190 176 d_X8_order__173 rfl rfl (by omega) (by omega) (fun k173 => ?_) (fun k173 => ?_)
                          · refine xv (x_iinc 193 d_X8_order__190 rfl rfl) ?_
                            show Xv E q_m_X8_order_ 193 [Value.ref am, Value.int (zi d), Value.int (zi a), Value.int (zi b), Value.int (zi c), Value.int (zi 1), Value.int (zi (0 + 1))] [] (q_mw h am (uM (uM (uM (uM M 0 5 0) 4 0 a) 4 1 b) 4 2 c)) Q
                            refine xv (x_goto 151 d_X8_order__193 rfl) ?_
                            refine xv (x_iload 153 d_X8_order__151 rfl rfl) ?_
                            refine xv (x_iload 155 d_X8_order__153 rfl rfl) ?_
                            refine v_icmp_ge 196 158 d_X8_order__155 rfl rfl (by omega) (by omega) (by omega) (by omega) (fun k155 => ?_) (fun k155 => ?_)
                            · refine xv (x_aload_n 197 d_X8_order__196 rfl rfl) ?_
                              obtain ⟨r197, h197, e197, z197, y197⟩ := S_X8_change (E := E) (h := h) (am := am) (M := (uM (uM (uM (uM M 0 5 0) 4 0 a) 4 1 b) 4 2 c)) hc
                              subst z197
                              subst y197
                              refine xv (x_inv0 200 (as := []) d_X8_order__197 rfl c_8_100 rfl (Nat.le_of_ble_eq_true rfl) (Nat.le_of_ble_eq_true rfl) m_o (Nat.le_of_ble_eq_true rfl) (Nat.le_of_ble_eq_true rfl) rfl e197) ?_
                              generalize hM2 : mch (uM (uM (uM (uM M 0 5 0) 4 0 a) 4 1 b) 4 2 c) = M2
                              have e2 : M2 1 = M 1 := by rw [← hM2]; exact mch_1
                              have e4 : M2 4 = (u1 (u1 (u1 (M 4) 0 a) 1 b) 2 c) := by rw [← hM2]; exact mch_s (by decide) (by decide)
                              have eM : M2 = uA (uA M2 1 (M 1)) 4 (u1 (u1 (u1 (M 4) 0 a) 1 b) 2 c) := by rw [← e2, uA_self, ← e4, uA_self]
                              rw [eM]
                              show Xv E q_m_X8_order_ 200 [Value.ref am, Value.int (zi d), Value.int (zi a), Value.int (zi b), Value.int (zi c), Value.int (zi 1), Value.int (zi (0 + 1))] [] (q_mw h am (uA (uA M2 1 (M 1)) 4 (u1 (u1 (u1 (M 4) 0 a) 1 b) 2 c))) Q
                              refine xv (x_aload_n 201 d_X8_order__200 rfl rfl) ?_
                              refine xv (x_getfield 204 d_X8_order__201 rfl f_8_9 (Nat.le_of_ble_eq_true rfl) (Nat.le_of_ble_eq_true rfl) (q_gf_of m_o rfl)) ?_
                              refine xv (x_iconst 205 d_X8_order__204 rfl) ?_
                              refine xv (x_iaload 206 d_X8_order__205 rfl ((m_g1 (by omega) (by omega)).trans (rfl : _ = some (Value.int (zi ((M 1) 4)))))) ?_
                              have q_75 : -1000000 ≤ (M 1) 4 ∧ (M 1) 4 ≤ 1000000 := hr _
                              refine xv (x_istore 208 d_X8_order__206 rfl (Nat.le_of_ble_eq_true rfl)) ?_
                              show Xv E q_m_X8_order_ 208 [Value.ref am, Value.int (zi d), Value.int (zi a), Value.int (zi b), Value.int (zi c), Value.int (zi 1), Value.int (zi ((M 1) 4))] [] (q_mw h am (uA (uA M2 1 (M 1)) 4 (u1 (u1 (u1 (M 4) 0 a) 1 b) 2 c))) Q
                              refine xv (x_aload_n 209 d_X8_order__208 rfl rfl) ?_
                              refine xv (x_getfield 212 d_X8_order__209 rfl f_8_9 (Nat.le_of_ble_eq_true rfl) (Nat.le_of_ble_eq_true rfl) (q_gf_of m_o rfl)) ?_
                              refine xv (x_iload 214 d_X8_order__212 rfl rfl) ?_
                              refine xv (x_ins1 217 (as := [Value.int (zi ((M 1) 4))]) d_X8_order__214 rfl c_8_106 rfl (Nat.le_of_ble_eq_true rfl) (Nat.le_of_ble_eq_true rfl) (Nat.le_of_ble_eq_true rfl) rfl (S_X8_order (E := E) (h := h) (am := am) (M := (uA (uA M2 1 (M 1)) 4 (u1 (u1 (u1 (M 4) 0 a) 1 b) 2 c))))) ?_
                              show Xv E q_m_X8_order_ 217 [Value.ref am, Value.int (zi d), Value.int (zi a), Value.int (zi b), Value.int (zi c), Value.int (zi 1), Value.int (zi ((M 1) 4))] [Value.int (zi (320 + 8 * ((M 1) 4))), Value.ref (am + 1)] (q_mw h am (uA (uA M2 1 (M 1)) 4 (u1 (u1 (u1 (M 4) 0 a) 1 b) 2 c))) Q
                              refine xv (x_iconst 218 d_X8_order__217 rfl) ?_
                              refine xv (x_iadd 219 d_X8_order__218 rfl) ?_
                              refine xv (x_iload_n 220 d_X8_order__219 rfl rfl) ?_
                              refine xv (x_iastore 221 d_X8_order__220 rfl (m_s1 (by omega) (by omega))) ?_
                              show Xv E q_m_X8_order_ 221 [Value.ref am, Value.int (zi d), Value.int (zi a), Value.int (zi b), Value.int (zi c), Value.int (zi 1), Value.int (zi ((M 1) 4))] [] (q_mw h am (uM (uA (uA M2 1 (M 1)) 4 (u1 (u1 (u1 (M 4) 0 a) 1 b) 2 c)) 1 ((320 + 8 * ((M 1) 4)) + 0) d)) Q
                              refine xv (x_aload_n 222 d_X8_order__221 rfl rfl) ?_
                              refine xv (x_getfield 225 d_X8_order__222 rfl f_8_9 (Nat.le_of_ble_eq_true rfl) (Nat.le_of_ble_eq_true rfl) (q_gf_of m_o rfl)) ?_
                              refine xv (x_iload 227 d_X8_order__225 rfl rfl) ?_
                              refine xv (x_ins1 230 (as := [Value.int (zi ((M 1) 4))]) d_X8_order__227 rfl c_8_106 rfl (Nat.le_of_ble_eq_true rfl) (Nat.le_of_ble_eq_true rfl) (Nat.le_of_ble_eq_true rfl) rfl (S_X8_order (E := E) (h := h) (am := am) (M := (uM (uA (uA M2 1 (M 1)) 4 (u1 (u1 (u1 (M 4) 0 a) 1 b) 2 c)) 1 ((320 + 8 * ((M 1) 4)) + 0) d)))) ?_
                              show Xv E q_m_X8_order_ 230 [Value.ref am, Value.int (zi d), Value.int (zi a), Value.int (zi b), Value.int (zi c), Value.int (zi 1), Value.int (zi ((M 1) 4))] [Value.int (zi (320 + 8 * ((M 1) 4))), Value.ref (am + 1)] (q_mw h am (uM (uA (uA M2 1 (M 1)) 4 (u1 (u1 (u1 (M 4) 0 a) 1 b) 2 c)) 1 ((320 + 8 * ((M 1) 4)) + 0) d)) Q
                              refine xv (x_iconst 231 d_X8_order__230 rfl) ?_
                              refine xv (x_iadd 232 d_X8_order__231 rfl) ?_
                              refine xv (x_iload 234 d_X8_order__232 rfl rfl) ?_
                              refine xv (x_iastore 235 d_X8_order__234 rfl (m_s1 (by omega) (by omega))) ?_
                              show Xv E q_m_X8_order_ 235 [Value.ref am, Value.int (zi d), Value.int (zi a), Value.int (zi b), Value.int (zi c), Value.int (zi 1), Value.int (zi ((M 1) 4))] [] (q_mw h am (uM (uM (uA (uA M2 1 (M 1)) 4 (u1 (u1 (u1 (M 4) 0 a) 1 b) 2 c)) 1 ((320 + 8 * ((M 1) 4)) + 0) d) 1 ((320 + 8 * ((M 1) 4)) + 1) 1)) Q
                              refine xv (x_aload_n 236 d_X8_order__235 rfl rfl) ?_
                              refine xv (x_getfield 239 d_X8_order__236 rfl f_8_9 (Nat.le_of_ble_eq_true rfl) (Nat.le_of_ble_eq_true rfl) (q_gf_of m_o rfl)) ?_
                              refine xv (x_iload 241 d_X8_order__239 rfl rfl) ?_
                              refine xv (x_ins1 244 (as := [Value.int (zi ((M 1) 4))]) d_X8_order__241 rfl c_8_106 rfl (Nat.le_of_ble_eq_true rfl) (Nat.le_of_ble_eq_true rfl) (Nat.le_of_ble_eq_true rfl) rfl (S_X8_order (E := E) (h := h) (am := am) (M := (uM (uM (uA (uA M2 1 (M 1)) 4 (u1 (u1 (u1 (M 4) 0 a) 1 b) 2 c)) 1 ((320 + 8 * ((M 1) 4)) + 0) d) 1 ((320 + 8 * ((M 1) 4)) + 1) 1)))) ?_
                              show Xv E q_m_X8_order_ 244 [Value.ref am, Value.int (zi d), Value.int (zi a), Value.int (zi b), Value.int (zi c), Value.int (zi 1), Value.int (zi ((M 1) 4))] [Value.int (zi (320 + 8 * ((M 1) 4))), Value.ref (am + 1)] (q_mw h am (uM (uM (uA (uA M2 1 (M 1)) 4 (u1 (u1 (u1 (M 4) 0 a) 1 b) 2 c)) 1 ((320 + 8 * ((M 1) 4)) + 0) d) 1 ((320 + 8 * ((M 1) 4)) + 1) 1)) Q
                              refine xv (x_iconst 245 d_X8_order__244 rfl) ?_
                              refine xv (x_iadd 246 d_X8_order__245 rfl) ?_
                              refine xv (x_iconst 247 d_X8_order__246 rfl) ?_
                              refine xv (x_iastore 248 d_X8_order__247 rfl (m_s1 (by omega) (by omega))) ?_
                              show Xv E q_m_X8_order_ 248 [Value.ref am, Value.int (zi d), Value.int (zi a), Value.int (zi b), Value.int (zi c), Value.int (zi 1), Value.int (zi ((M 1) 4))] [] (q_mw h am (uM (uM (uM (uA (uA M2 1 (M 1)) 4 (u1 (u1 (u1 (M 4) 0 a) 1 b) 2 c)) 1 ((320 + 8 * ((M 1) 4)) + 0) d) 1 ((320 + 8 * ((M 1) 4)) + 1) 1) 1 ((320 + 8 * ((M 1) 4)) + 2) 0)) Q
                              refine xv (x_aload_n 249 d_X8_order__248 rfl rfl) ?_
                              refine xv (x_getfield 252 d_X8_order__249 rfl f_8_9 (Nat.le_of_ble_eq_true rfl) (Nat.le_of_ble_eq_true rfl) (q_gf_of m_o rfl)) ?_
                              refine xv (x_iload 254 d_X8_order__252 rfl rfl) ?_
                              refine xv (x_ins1 257 (as := [Value.int (zi ((M 1) 4))]) d_X8_order__254 rfl c_8_106 rfl (Nat.le_of_ble_eq_true rfl) (Nat.le_of_ble_eq_true rfl) (Nat.le_of_ble_eq_true rfl) rfl (S_X8_order (E := E) (h := h) (am := am) (M := (uM (uM (uM (uA (uA M2 1 (M 1)) 4 (u1 (u1 (u1 (M 4) 0 a) 1 b) 2 c)) 1 ((320 + 8 * ((M 1) 4)) + 0) d) 1 ((320 + 8 * ((M 1) 4)) + 1) 1) 1 ((320 + 8 * ((M 1) 4)) + 2) 0)))) ?_
                              show Xv E q_m_X8_order_ 257 [Value.ref am, Value.int (zi d), Value.int (zi a), Value.int (zi b), Value.int (zi c), Value.int (zi 1), Value.int (zi ((M 1) 4))] [Value.int (zi (320 + 8 * ((M 1) 4))), Value.ref (am + 1)] (q_mw h am (uM (uM (uM (uA (uA M2 1 (M 1)) 4 (u1 (u1 (u1 (M 4) 0 a) 1 b) 2 c)) 1 ((320 + 8 * ((M 1) 4)) + 0) d) 1 ((320 + 8 * ((M 1) 4)) + 1) 1) 1 ((320 + 8 * ((M 1) 4)) + 2) 0)) Q
                              refine xv (x_iconst 258 d_X8_order__257 rfl) ?_
                              refine xv (x_iadd 259 d_X8_order__258 rfl) ?_
                              refine xv (x_iconst 260 d_X8_order__259 rfl) ?_
                              refine xv (x_iastore 261 d_X8_order__260 rfl (m_s1 (by omega) (by omega))) ?_
                              show Xv E q_m_X8_order_ 261 [Value.ref am, Value.int (zi d), Value.int (zi a), Value.int (zi b), Value.int (zi c), Value.int (zi 1), Value.int (zi ((M 1) 4))] [] (q_mw h am (uM (uM (uM (uM (uA (uA M2 1 (M 1)) 4 (u1 (u1 (u1 (M 4) 0 a) 1 b) 2 c)) 1 ((320 + 8 * ((M 1) 4)) + 0) d) 1 ((320 + 8 * ((M 1) 4)) + 1) 1) 1 ((320 + 8 * ((M 1) 4)) + 2) 0) 1 ((320 + 8 * ((M 1) 4)) + 3) (-1))) Q
                              refine xv (x_aload_n 262 d_X8_order__261 rfl rfl) ?_
                              refine xv (x_getfield 265 d_X8_order__262 rfl f_8_9 (Nat.le_of_ble_eq_true rfl) (Nat.le_of_ble_eq_true rfl) (q_gf_of m_o rfl)) ?_
                              refine xv (x_iload 267 d_X8_order__265 rfl rfl) ?_
                              refine xv (x_ins1 270 (as := [Value.int (zi ((M 1) 4))]) d_X8_order__267 rfl c_8_106 rfl (Nat.le_of_ble_eq_true rfl) (Nat.le_of_ble_eq_true rfl) (Nat.le_of_ble_eq_true rfl) rfl (S_X8_order (E := E) (h := h) (am := am) (M := (uM (uM (uM (uM (uA (uA M2 1 (M 1)) 4 (u1 (u1 (u1 (M 4) 0 a) 1 b) 2 c)) 1 ((320 + 8 * ((M 1) 4)) + 0) d) 1 ((320 + 8 * ((M 1) 4)) + 1) 1) 1 ((320 + 8 * ((M 1) 4)) + 2) 0) 1 ((320 + 8 * ((M 1) 4)) + 3) (-1))))) ?_
                              show Xv E q_m_X8_order_ 270 [Value.ref am, Value.int (zi d), Value.int (zi a), Value.int (zi b), Value.int (zi c), Value.int (zi 1), Value.int (zi ((M 1) 4))] [Value.int (zi (320 + 8 * ((M 1) 4))), Value.ref (am + 1)] (q_mw h am (uM (uM (uM (uM (uA (uA M2 1 (M 1)) 4 (u1 (u1 (u1 (M 4) 0 a) 1 b) 2 c)) 1 ((320 + 8 * ((M 1) 4)) + 0) d) 1 ((320 + 8 * ((M 1) 4)) + 1) 1) 1 ((320 + 8 * ((M 1) 4)) + 2) 0) 1 ((320 + 8 * ((M 1) 4)) + 3) (-1))) Q
                              refine xv (x_iconst 271 d_X8_order__270 rfl) ?_
                              refine xv (x_iadd 272 d_X8_order__271 rfl) ?_
                              refine xv (x_iconst 273 d_X8_order__272 rfl) ?_
                              refine xv (x_iastore 274 d_X8_order__273 rfl (m_s1 (by omega) (by omega))) ?_
                              show Xv E q_m_X8_order_ 274 [Value.ref am, Value.int (zi d), Value.int (zi a), Value.int (zi b), Value.int (zi c), Value.int (zi 1), Value.int (zi ((M 1) 4))] [] (q_mw h am (uM (uM (uM (uM (uM (uA (uA M2 1 (M 1)) 4 (u1 (u1 (u1 (M 4) 0 a) 1 b) 2 c)) 1 ((320 + 8 * ((M 1) 4)) + 0) d) 1 ((320 + 8 * ((M 1) 4)) + 1) 1) 1 ((320 + 8 * ((M 1) 4)) + 2) 0) 1 ((320 + 8 * ((M 1) 4)) + 3) (-1)) 1 ((320 + 8 * ((M 1) 4)) + 4) (-1))) Q
                              refine xv (x_aload_n 275 d_X8_order__274 rfl rfl) ?_
                              refine xv (x_getfield 278 d_X8_order__275 rfl f_8_19 (Nat.le_of_ble_eq_true rfl) (Nat.le_of_ble_eq_true rfl) (q_gf_of m_o rfl)) ?_
                              refine xv (x_iconst 279 d_X8_order__278 rfl) ?_
                              refine xv (x_aload_n 280 d_X8_order__279 rfl rfl) ?_
                              refine xv (x_getfield 283 d_X8_order__280 rfl f_8_9 (Nat.le_of_ble_eq_true rfl) (Nat.le_of_ble_eq_true rfl) (q_gf_of m_o rfl)) ?_
                              refine xv (x_iload 285 d_X8_order__283 rfl rfl) ?_
                              refine xv (x_ins1 288 (as := [Value.int (zi ((M 1) 4))]) d_X8_order__285 rfl c_8_106 rfl (Nat.le_of_ble_eq_true rfl) (Nat.le_of_ble_eq_true rfl) (Nat.le_of_ble_eq_true rfl) rfl (S_X8_order (E := E) (h := h) (am := am) (M := (uM (uM (uM (uM (uM (uA (uA M2 1 (M 1)) 4 (u1 (u1 (u1 (M 4) 0 a) 1 b) 2 c)) 1 ((320 + 8 * ((M 1) 4)) + 0) d) 1 ((320 + 8 * ((M 1) 4)) + 1) 1) 1 ((320 + 8 * ((M 1) 4)) + 2) 0) 1 ((320 + 8 * ((M 1) 4)) + 3) (-1)) 1 ((320 + 8 * ((M 1) 4)) + 4) (-1))))) ?_
                              show Xv E q_m_X8_order_ 288 [Value.ref am, Value.int (zi d), Value.int (zi a), Value.int (zi b), Value.int (zi c), Value.int (zi 1), Value.int (zi ((M 1) 4))] [Value.int (zi (320 + 8 * ((M 1) 4))), Value.ref (am + 1), Value.int (zi 0), Value.ref (am + 4)] (q_mw h am (uM (uM (uM (uM (uM (uA (uA M2 1 (M 1)) 4 (u1 (u1 (u1 (M 4) 0 a) 1 b) 2 c)) 1 ((320 + 8 * ((M 1) 4)) + 0) d) 1 ((320 + 8 * ((M 1) 4)) + 1) 1) 1 ((320 + 8 * ((M 1) 4)) + 2) 0) 1 ((320 + 8 * ((M 1) 4)) + 3) (-1)) 1 ((320 + 8 * ((M 1) 4)) + 4) (-1))) Q
                              refine xv (x_iconst 289 d_X8_order__288 rfl) ?_
                              refine xv (x_iadd 290 d_X8_order__289 rfl) ?_
                              refine xv (x_iconst 291 d_X8_order__290 rfl) ?_
                              refine xv (x_copy 294 d_X8_order__291 rfl rfl rfl (Nat.le_of_ble_eq_true rfl) (Nat.le_of_ble_eq_true rfl) (Nat.le_of_ble_eq_true rfl) (m_cpy 4 1 m_a4 m_a1 m_w1 (by omega) (by omega) (by omega) (by omega) (by omega) (by decide) (by decide))) ?_
                              show Xv E q_m_X8_order_ 294 [Value.ref am, Value.int (zi d), Value.int (zi a), Value.int (zi b), Value.int (zi c), Value.int (zi 1), Value.int (zi ((M 1) 4))] [] (q_mw h am (uA (uM (uM (uM (uM (uM (uA (uA M2 1 (M 1)) 4 (u1 (u1 (u1 (M 4) 0 a) 1 b) 2 c)) 1 ((320 + 8 * ((M 1) 4)) + 0) d) 1 ((320 + 8 * ((M 1) 4)) + 1) 1) 1 ((320 + 8 * ((M 1) 4)) + 2) 0) 1 ((320 + 8 * ((M 1) 4)) + 3) (-1)) 1 ((320 + 8 * ((M 1) 4)) + 4) (-1)) 1 (cpI (u1 (u1 (u1 (M 4) 0 a) 1 b) 2 c) (u1 (u1 (u1 (u1 (u1 (M 1) ((320 + 8 * ((M 1) 4)) + 0) d) ((320 + 8 * ((M 1) 4)) + 1) 1) ((320 + 8 * ((M 1) 4)) + 2) 0) ((320 + 8 * ((M 1) 4)) + 3) (-1)) ((320 + 8 * ((M 1) 4)) + 4) (-1)) 0 ((320 + 8 * ((M 1) 4)) + 5) 3))) Q
                              refine xv (x_aload_n 295 d_X8_order__294 rfl rfl) ?_
                              refine xv (x_getfield 298 d_X8_order__295 rfl f_8_9 (Nat.le_of_ble_eq_true rfl) (Nat.le_of_ble_eq_true rfl) (q_gf_of m_o rfl)) ?_
                              refine xv (x_iconst 299 d_X8_order__298 rfl) ?_
                              refine xv (x_dup2 300 d_X8_order__299 rfl rfl rfl) ?_
                              refine xv (x_iaload 301 d_X8_order__300 rfl ((m_g1 (by omega) (by omega)).trans (rfl : _ = some (Value.int (zi ((cpI (u1 (u1 (u1 (M 4) 0 a) 1 b) 2 c) (u1 (u1 (u1 (u1 (u1 (M 1) ((320 + 8 * ((M 1) 4)) + 0) d) ((320 + 8 * ((M 1) 4)) + 1) 1) ((320 + 8 * ((M 1) 4)) + 2) 0) ((320 + 8 * ((M 1) 4)) + 3) (-1)) ((320 + 8 * ((M 1) 4)) + 4) (-1)) 0 ((320 + 8 * ((M 1) 4)) + 5) 3) 4)))))) ?_
                              refine xv (x_iconst 302 d_X8_order__301 rfl) ?_
                              refine xv (x_iadd 303 d_X8_order__302 rfl) ?_
                              refine xv (x_iastore 304 d_X8_order__303 rfl (m_s1 (by omega) (by omega))) ?_
                              show Xv E q_m_X8_order_ 304 [Value.ref am, Value.int (zi d), Value.int (zi a), Value.int (zi b), Value.int (zi c), Value.int (zi 1), Value.int (zi ((M 1) 4))] [] (q_mw h am (uM (uA (uM (uM (uM (uM (uM (uA (uA M2 1 (M 1)) 4 (u1 (u1 (u1 (M 4) 0 a) 1 b) 2 c)) 1 ((320 + 8 * ((M 1) 4)) + 0) d) 1 ((320 + 8 * ((M 1) 4)) + 1) 1) 1 ((320 + 8 * ((M 1) 4)) + 2) 0) 1 ((320 + 8 * ((M 1) 4)) + 3) (-1)) 1 ((320 + 8 * ((M 1) 4)) + 4) (-1)) 1 (cpI (u1 (u1 (u1 (M 4) 0 a) 1 b) 2 c) (u1 (u1 (u1 (u1 (u1 (M 1) ((320 + 8 * ((M 1) 4)) + 0) d) ((320 + 8 * ((M 1) 4)) + 1) 1) ((320 + 8 * ((M 1) 4)) + 2) 0) ((320 + 8 * ((M 1) 4)) + 3) (-1)) ((320 + 8 * ((M 1) 4)) + 4) (-1)) 0 ((320 + 8 * ((M 1) 4)) + 5) 3)) 1 4 (((cpI (u1 (u1 (u1 (M 4) 0 a) 1 b) 2 c) (u1 (u1 (u1 (u1 (u1 (M 1) ((320 + 8 * ((M 1) 4)) + 0) d) ((320 + 8 * ((M 1) 4)) + 1) 1) ((320 + 8 * ((M 1) 4)) + 2) 0) ((320 + 8 * ((M 1) 4)) + 3) (-1)) ((320 + 8 * ((M 1) 4)) + 4) (-1)) 0 ((320 + 8 * ((M 1) 4)) + 5) 3) 4) + 1))) Q
                              refine xv (x_iload 306 d_X8_order__304 rfl rfl) ?_
                              refine xv_r (x_ireturn d_X8_order__306 rfl rfl) ?_
                              have er : mOrd (M 1) d a b c = (0, 0) := by first | (exfalso; omega) | (unfold mOrd; repeat (first | rw [if_pos (by omega)] | rw [if_neg (by omega)]))
                              have ec : cntO b c = 1 := by first | (exfalso; omega) | (unfold cntO; repeat (first | rw [if_pos (by omega)] | rw [if_neg (by omega)]))
                              refine hQ _ _ ?_
                              unfold mMu2
                              rw [er, if_pos rfl, ec]
                              refine ⟨rfl, ?_⟩
                              unfold lnO
                              rw [hM2, ← eM]
                              simp only [uM_uA, uA_uA, uA_eq]
                              rfl
                            · omega
                          · refine xv (x_aload_n 177 d_X8_order__176 rfl rfl) ?_
                            refine xv (x_bipush 179 d_X8_order__177 rfl rfl) ?_
                            refine xv (x_aload_n 180 d_X8_order__179 rfl rfl) ?_
                            refine xv (x_getfield 183 d_X8_order__180 rfl f_8_19 (Nat.le_of_ble_eq_true rfl) (Nat.le_of_ble_eq_true rfl) (q_gf_of m_o rfl)) ?_
                            refine xv (x_iload 185 d_X8_order__183 rfl rfl) ?_
                            refine xv (x_iaload 186 d_X8_order__185 rfl ((m_g4 (by omega) (by omega)).trans (rfl : _ = some (Value.int (zi a))))) ?_
                            obtain ⟨r186, h186, e186, z186, y186⟩ := S_X8_refuse (E := E) (h := h) (am := am) (M := (uM (uM (uM (uM M 0 5 0) 4 0 a) 4 1 b) 4 2 c)) (y := 12) (z := a) 
                            subst z186
                            subst y186
                            refine xv (x_inv1 189 (as := [Value.int (zi 12), Value.int (zi a)]) d_X8_order__186 rfl c_8_90 rfl (Nat.le_of_ble_eq_true rfl) (Nat.le_of_ble_eq_true rfl) m_o (Nat.le_of_ble_eq_true rfl) (Nat.le_of_ble_eq_true rfl) rfl e186) ?_
                            show Xv E q_m_X8_order_ 189 [Value.ref am, Value.int (zi d), Value.int (zi a), Value.int (zi b), Value.int (zi c), Value.int (zi 1), Value.int (zi 0)] [Value.int (zi 0)] (q_mw h am (uM (uM (uM (uM (uM (uM (uM M 0 5 0) 4 0 a) 4 1 b) 4 2 c) 0 5 1) 0 6 12) 0 7 a)) Q
                            refine xv_r (x_ireturn d_X8_order__189 rfl rfl) ?_
                            have er : mOrd (M 1) d a b c = (12, a) := by first | (exfalso; omega) | (unfold mOrd; repeat (first | rw [if_pos (by omega)] | rw [if_neg (by omega)]))
                            refine hQ _ _ ?_
                            unfold mMu2
                            rw [er]
                            exact ⟨rfl, rfl⟩
                      · refine xv (x_aload_n 142 d_X8_order__141 rfl rfl) ?_
                        refine xv (x_iconst 143 d_X8_order__142 rfl) ?_
                        refine xv (x_iconst 144 d_X8_order__143 rfl) ?_
                        obtain ⟨r144, h144, e144, z144, y144⟩ := S_X8_refuse (E := E) (h := h) (am := am) (M := (uM (uM (uM (uM M 0 5 0) 4 0 a) 4 1 b) 4 2 c)) (y := 3) (z := 0) 
                        subst z144
                        subst y144
                        refine xv (x_inv1 147 (as := [Value.int (zi 3), Value.int (zi 0)]) d_X8_order__144 rfl c_8_90 rfl (Nat.le_of_ble_eq_true rfl) (Nat.le_of_ble_eq_true rfl) m_o (Nat.le_of_ble_eq_true rfl) (Nat.le_of_ble_eq_true rfl) rfl e144) ?_
                        show Xv E q_m_X8_order_ 147 [Value.ref am, Value.int (zi d), Value.int (zi a), Value.int (zi b), Value.int (zi c), Value.int (zi 1), Value.int (zi (((0 + 1) + 1) + 1))] [Value.int (zi 0)] (q_mw h am (uM (uM (uM (uM (uM (uM (uM M 0 5 0) 4 0 a) 4 1 b) 4 2 c) 0 5 1) 0 6 3) 0 7 0)) Q
                        refine xv_r (x_ireturn d_X8_order__147 rfl rfl) ?_
                        have er : mOrd (M 1) d a b c = (3, 0) := by first | (exfalso; omega) | (unfold mOrd; repeat (first | rw [if_pos (by omega)] | rw [if_neg (by omega)]))
                        refine hQ _ _ ?_
                        unfold mMu2
                        rw [er]
                        exact ⟨rfl, rfl⟩
                    · refine xv (x_iload 119 d_X8_order__117 rfl rfl) ?_
                      refine xv (x_iconst 120 d_X8_order__119 rfl) ?_
                      refine v_icmp_eq 130 123 d_X8_order__120 rfl rfl (by omega) (by omega) (by omega) (by omega) (fun k120 => ?_) (fun k120 => ?_)
                      · refine xv (x_aload_n 131 d_X8_order__130 rfl rfl) ?_
                        refine xv (x_getfield 134 d_X8_order__131 rfl f_8_9 (Nat.le_of_ble_eq_true rfl) (Nat.le_of_ble_eq_true rfl) (q_gf_of m_o rfl)) ?_
                        refine xv (x_iconst 135 d_X8_order__134 rfl) ?_
                        refine xv (x_iaload 136 d_X8_order__135 rfl ((m_g1 (by omega) (by omega)).trans (rfl : _ = some (Value.int (zi ((M 1) 4)))))) ?_
                        have q_76 : -1000000 ≤ (M 1) 4 ∧ (M 1) 4 ≤ 1000000 := hr _
                        refine xv (x_bipush 138 d_X8_order__136 rfl rfl) ?_
                        refine v_icmp_ne 148 141 d_X8_order__138 rfl rfl (by omega) (by omega) (by omega) (by omega) (fun k138 => ?_) (fun k138 => ?_)
                        · refine xv (x_iconst 149 d_X8_order__148 rfl) ?_
                          refine xv (x_istore 151 d_X8_order__149 rfl (Nat.le_of_ble_eq_true rfl)) ?_
                          show Xv E q_m_X8_order_ 151 [Value.ref am, Value.int (zi d), Value.int (zi a), Value.int (zi b), Value.int (zi c), Value.int (zi 1), Value.int (zi 0)] [] (q_mw h am (uM (uM (uM (uM M 0 5 0) 4 0 a) 4 1 b) 4 2 c)) Q
                          refine xv (x_iload 153 d_X8_order__151 rfl rfl) ?_
                          refine xv (x_iload 155 d_X8_order__153 rfl rfl) ?_
                          refine v_icmp_ge 196 158 d_X8_order__155 rfl rfl (by omega) (by omega) (by omega) (by omega) (fun k155 => ?_) (fun k155 => ?_)
                          · omega
                          · refine xv (x_aload_n 159 d_X8_order__158 rfl rfl) ?_
                            refine xv (x_getfield 162 d_X8_order__159 rfl f_8_9 (Nat.le_of_ble_eq_true rfl) (Nat.le_of_ble_eq_true rfl) (q_gf_of m_o rfl)) ?_
                            refine xv (x_bipush 164 d_X8_order__162 rfl rfl) ?_
                            refine xv (x_aload_n 165 d_X8_order__164 rfl rfl) ?_
                            refine xv (x_getfield 168 d_X8_order__165 rfl f_8_19 (Nat.le_of_ble_eq_true rfl) (Nat.le_of_ble_eq_true rfl) (q_gf_of m_o rfl)) ?_
                            refine xv (x_iload 170 d_X8_order__168 rfl rfl) ?_
                            refine xv (x_iaload 171 d_X8_order__170 rfl ((m_g4 (by omega) (by omega)).trans (rfl : _ = some (Value.int (zi a))))) ?_
                            refine xv (x_iadd 172 d_X8_order__171 rfl) ?_
                            refine xv (x_iaload 173 d_X8_order__172 rfl ((m_g1 (by omega) (by omega)).trans (rfl : _ = some (Value.int (zi ((M 1) (8 + a))))))) ?_
                            have q_77 : -1000000 ≤ (M 1) (8 + a) ∧ (M 1) (8 + a) ≤ 1000000 := hr _
                            refine v_if_eq 190 176 d_X8_order__173 rfl rfl (by omega) (by omega) (fun k173 => ?_) (fun k173 => ?_)
                            · refine xv (x_iinc 193 d_X8_order__190 rfl rfl) ?_
                              show Xv E q_m_X8_order_ 193 [Value.ref am, Value.int (zi d), Value.int (zi a), Value.int (zi b), Value.int (zi c), Value.int (zi 1), Value.int (zi (0 + 1))] [] (q_mw h am (uM (uM (uM (uM M 0 5 0) 4 0 a) 4 1 b) 4 2 c)) Q
                              refine xv (x_goto 151 d_X8_order__193 rfl) ?_
                              refine xv (x_iload 153 d_X8_order__151 rfl rfl) ?_
                              refine xv (x_iload 155 d_X8_order__153 rfl rfl) ?_
                              refine v_icmp_ge 196 158 d_X8_order__155 rfl rfl (by omega) (by omega) (by omega) (by omega) (fun k155 => ?_) (fun k155 => ?_)
                              · refine xv (x_aload_n 197 d_X8_order__196 rfl rfl) ?_
                                obtain ⟨r197, h197, e197, z197, y197⟩ := S_X8_change (E := E) (h := h) (am := am) (M := (uM (uM (uM (uM M 0 5 0) 4 0 a) 4 1 b) 4 2 c)) hc
                                subst z197
                                subst y197
                                refine xv (x_inv0 200 (as := []) d_X8_order__197 rfl c_8_100 rfl (Nat.le_of_ble_eq_true rfl) (Nat.le_of_ble_eq_true rfl) m_o (Nat.le_of_ble_eq_true rfl) (Nat.le_of_ble_eq_true rfl) rfl e197) ?_
                                generalize hM2 : mch (uM (uM (uM (uM M 0 5 0) 4 0 a) 4 1 b) 4 2 c) = M2
                                have e2 : M2 1 = M 1 := by rw [← hM2]; exact mch_1
                                have e4 : M2 4 = (u1 (u1 (u1 (M 4) 0 a) 1 b) 2 c) := by rw [← hM2]; exact mch_s (by decide) (by decide)
                                have eM : M2 = uA (uA M2 1 (M 1)) 4 (u1 (u1 (u1 (M 4) 0 a) 1 b) 2 c) := by rw [← e2, uA_self, ← e4, uA_self]
                                rw [eM]
                                show Xv E q_m_X8_order_ 200 [Value.ref am, Value.int (zi d), Value.int (zi a), Value.int (zi b), Value.int (zi c), Value.int (zi 1), Value.int (zi (0 + 1))] [] (q_mw h am (uA (uA M2 1 (M 1)) 4 (u1 (u1 (u1 (M 4) 0 a) 1 b) 2 c))) Q
                                refine xv (x_aload_n 201 d_X8_order__200 rfl rfl) ?_
                                refine xv (x_getfield 204 d_X8_order__201 rfl f_8_9 (Nat.le_of_ble_eq_true rfl) (Nat.le_of_ble_eq_true rfl) (q_gf_of m_o rfl)) ?_
                                refine xv (x_iconst 205 d_X8_order__204 rfl) ?_
                                refine xv (x_iaload 206 d_X8_order__205 rfl ((m_g1 (by omega) (by omega)).trans (rfl : _ = some (Value.int (zi ((M 1) 4)))))) ?_
                                have q_78 : -1000000 ≤ (M 1) 4 ∧ (M 1) 4 ≤ 1000000 := hr _
                                refine xv (x_istore 208 d_X8_order__206 rfl (Nat.le_of_ble_eq_true rfl)) ?_
                                show Xv E q_m_X8_order_ 208 [Value.ref am, Value.int (zi d), Value.int (zi a), Value.int (zi b), Value.int (zi c), Value.int (zi 1), Value.int (zi ((M 1) 4))] [] (q_mw h am (uA (uA M2 1 (M 1)) 4 (u1 (u1 (u1 (M 4) 0 a) 1 b) 2 c))) Q
                                refine xv (x_aload_n 209 d_X8_order__208 rfl rfl) ?_
                                refine xv (x_getfield 212 d_X8_order__209 rfl f_8_9 (Nat.le_of_ble_eq_true rfl) (Nat.le_of_ble_eq_true rfl) (q_gf_of m_o rfl)) ?_
                                refine xv (x_iload 214 d_X8_order__212 rfl rfl) ?_
                                refine xv (x_ins1 217 (as := [Value.int (zi ((M 1) 4))]) d_X8_order__214 rfl c_8_106 rfl (Nat.le_of_ble_eq_true rfl) (Nat.le_of_ble_eq_true rfl) (Nat.le_of_ble_eq_true rfl) rfl (S_X8_order (E := E) (h := h) (am := am) (M := (uA (uA M2 1 (M 1)) 4 (u1 (u1 (u1 (M 4) 0 a) 1 b) 2 c))))) ?_
                                show Xv E q_m_X8_order_ 217 [Value.ref am, Value.int (zi d), Value.int (zi a), Value.int (zi b), Value.int (zi c), Value.int (zi 1), Value.int (zi ((M 1) 4))] [Value.int (zi (320 + 8 * ((M 1) 4))), Value.ref (am + 1)] (q_mw h am (uA (uA M2 1 (M 1)) 4 (u1 (u1 (u1 (M 4) 0 a) 1 b) 2 c))) Q
                                refine xv (x_iconst 218 d_X8_order__217 rfl) ?_
                                refine xv (x_iadd 219 d_X8_order__218 rfl) ?_
                                refine xv (x_iload_n 220 d_X8_order__219 rfl rfl) ?_
                                refine xv (x_iastore 221 d_X8_order__220 rfl (m_s1 (by omega) (by omega))) ?_
                                show Xv E q_m_X8_order_ 221 [Value.ref am, Value.int (zi d), Value.int (zi a), Value.int (zi b), Value.int (zi c), Value.int (zi 1), Value.int (zi ((M 1) 4))] [] (q_mw h am (uM (uA (uA M2 1 (M 1)) 4 (u1 (u1 (u1 (M 4) 0 a) 1 b) 2 c)) 1 ((320 + 8 * ((M 1) 4)) + 0) d)) Q
                                refine xv (x_aload_n 222 d_X8_order__221 rfl rfl) ?_
                                refine xv (x_getfield 225 d_X8_order__222 rfl f_8_9 (Nat.le_of_ble_eq_true rfl) (Nat.le_of_ble_eq_true rfl) (q_gf_of m_o rfl)) ?_
                                refine xv (x_iload 227 d_X8_order__225 rfl rfl) ?_
                                refine xv (x_ins1 230 (as := [Value.int (zi ((M 1) 4))]) d_X8_order__227 rfl c_8_106 rfl (Nat.le_of_ble_eq_true rfl) (Nat.le_of_ble_eq_true rfl) (Nat.le_of_ble_eq_true rfl) rfl (S_X8_order (E := E) (h := h) (am := am) (M := (uM (uA (uA M2 1 (M 1)) 4 (u1 (u1 (u1 (M 4) 0 a) 1 b) 2 c)) 1 ((320 + 8 * ((M 1) 4)) + 0) d)))) ?_
                                show Xv E q_m_X8_order_ 230 [Value.ref am, Value.int (zi d), Value.int (zi a), Value.int (zi b), Value.int (zi c), Value.int (zi 1), Value.int (zi ((M 1) 4))] [Value.int (zi (320 + 8 * ((M 1) 4))), Value.ref (am + 1)] (q_mw h am (uM (uA (uA M2 1 (M 1)) 4 (u1 (u1 (u1 (M 4) 0 a) 1 b) 2 c)) 1 ((320 + 8 * ((M 1) 4)) + 0) d)) Q
                                refine xv (x_iconst 231 d_X8_order__230 rfl) ?_
                                refine xv (x_iadd 232 d_X8_order__231 rfl) ?_
                                refine xv (x_iload 234 d_X8_order__232 rfl rfl) ?_
                                refine xv (x_iastore 235 d_X8_order__234 rfl (m_s1 (by omega) (by omega))) ?_
                                show Xv E q_m_X8_order_ 235 [Value.ref am, Value.int (zi d), Value.int (zi a), Value.int (zi b), Value.int (zi c), Value.int (zi 1), Value.int (zi ((M 1) 4))] [] (q_mw h am (uM (uM (uA (uA M2 1 (M 1)) 4 (u1 (u1 (u1 (M 4) 0 a) 1 b) 2 c)) 1 ((320 + 8 * ((M 1) 4)) + 0) d) 1 ((320 + 8 * ((M 1) 4)) + 1) 1)) Q
                                refine xv (x_aload_n 236 d_X8_order__235 rfl rfl) ?_
                                refine xv (x_getfield 239 d_X8_order__236 rfl f_8_9 (Nat.le_of_ble_eq_true rfl) (Nat.le_of_ble_eq_true rfl) (q_gf_of m_o rfl)) ?_
                                refine xv (x_iload 241 d_X8_order__239 rfl rfl) ?_
                                refine xv (x_ins1 244 (as := [Value.int (zi ((M 1) 4))]) d_X8_order__241 rfl c_8_106 rfl (Nat.le_of_ble_eq_true rfl) (Nat.le_of_ble_eq_true rfl) (Nat.le_of_ble_eq_true rfl) rfl (S_X8_order (E := E) (h := h) (am := am) (M := (uM (uM (uA (uA M2 1 (M 1)) 4 (u1 (u1 (u1 (M 4) 0 a) 1 b) 2 c)) 1 ((320 + 8 * ((M 1) 4)) + 0) d) 1 ((320 + 8 * ((M 1) 4)) + 1) 1)))) ?_
                                show Xv E q_m_X8_order_ 244 [Value.ref am, Value.int (zi d), Value.int (zi a), Value.int (zi b), Value.int (zi c), Value.int (zi 1), Value.int (zi ((M 1) 4))] [Value.int (zi (320 + 8 * ((M 1) 4))), Value.ref (am + 1)] (q_mw h am (uM (uM (uA (uA M2 1 (M 1)) 4 (u1 (u1 (u1 (M 4) 0 a) 1 b) 2 c)) 1 ((320 + 8 * ((M 1) 4)) + 0) d) 1 ((320 + 8 * ((M 1) 4)) + 1) 1)) Q
                                refine xv (x_iconst 245 d_X8_order__244 rfl) ?_
                                refine xv (x_iadd 246 d_X8_order__245 rfl) ?_
                                refine xv (x_iconst 247 d_X8_order__246 rfl) ?_
                                refine xv (x_iastore 248 d_X8_order__247 rfl (m_s1 (by omega) (by omega))) ?_
                                show Xv E q_m_X8_order_ 248 [Value.ref am, Value.int (zi d), Value.int (zi a), Value.int (zi b), Value.int (zi c), Value.int (zi 1), Value.int (zi ((M 1) 4))] [] (q_mw h am (uM (uM (uM (uA (uA M2 1 (M 1)) 4 (u1 (u1 (u1 (M 4) 0 a) 1 b) 2 c)) 1 ((320 + 8 * ((M 1) 4)) + 0) d) 1 ((320 + 8 * ((M 1) 4)) + 1) 1) 1 ((320 + 8 * ((M 1) 4)) + 2) 0)) Q
                                refine xv (x_aload_n 249 d_X8_order__248 rfl rfl) ?_
                                refine xv (x_getfield 252 d_X8_order__249 rfl f_8_9 (Nat.le_of_ble_eq_true rfl) (Nat.le_of_ble_eq_true rfl) (q_gf_of m_o rfl)) ?_
                                refine xv (x_iload 254 d_X8_order__252 rfl rfl) ?_
                                refine xv (x_ins1 257 (as := [Value.int (zi ((M 1) 4))]) d_X8_order__254 rfl c_8_106 rfl (Nat.le_of_ble_eq_true rfl) (Nat.le_of_ble_eq_true rfl) (Nat.le_of_ble_eq_true rfl) rfl (S_X8_order (E := E) (h := h) (am := am) (M := (uM (uM (uM (uA (uA M2 1 (M 1)) 4 (u1 (u1 (u1 (M 4) 0 a) 1 b) 2 c)) 1 ((320 + 8 * ((M 1) 4)) + 0) d) 1 ((320 + 8 * ((M 1) 4)) + 1) 1) 1 ((320 + 8 * ((M 1) 4)) + 2) 0)))) ?_
                                show Xv E q_m_X8_order_ 257 [Value.ref am, Value.int (zi d), Value.int (zi a), Value.int (zi b), Value.int (zi c), Value.int (zi 1), Value.int (zi ((M 1) 4))] [Value.int (zi (320 + 8 * ((M 1) 4))), Value.ref (am + 1)] (q_mw h am (uM (uM (uM (uA (uA M2 1 (M 1)) 4 (u1 (u1 (u1 (M 4) 0 a) 1 b) 2 c)) 1 ((320 + 8 * ((M 1) 4)) + 0) d) 1 ((320 + 8 * ((M 1) 4)) + 1) 1) 1 ((320 + 8 * ((M 1) 4)) + 2) 0)) Q
                                refine xv (x_iconst 258 d_X8_order__257 rfl) ?_
                                refine xv (x_iadd 259 d_X8_order__258 rfl) ?_
                                refine xv (x_iconst 260 d_X8_order__259 rfl) ?_
                                refine xv (x_iastore 261 d_X8_order__260 rfl (m_s1 (by omega) (by omega))) ?_
                                show Xv E q_m_X8_order_ 261 [Value.ref am, Value.int (zi d), Value.int (zi a), Value.int (zi b), Value.int (zi c), Value.int (zi 1), Value.int (zi ((M 1) 4))] [] (q_mw h am (uM (uM (uM (uM (uA (uA M2 1 (M 1)) 4 (u1 (u1 (u1 (M 4) 0 a) 1 b) 2 c)) 1 ((320 + 8 * ((M 1) 4)) + 0) d) 1 ((320 + 8 * ((M 1) 4)) + 1) 1) 1 ((320 + 8 * ((M 1) 4)) + 2) 0) 1 ((320 + 8 * ((M 1) 4)) + 3) (-1))) Q
                                refine xv (x_aload_n 262 d_X8_order__261 rfl rfl) ?_
                                refine xv (x_getfield 265 d_X8_order__262 rfl f_8_9 (Nat.le_of_ble_eq_true rfl) (Nat.le_of_ble_eq_true rfl) (q_gf_of m_o rfl)) ?_
                                refine xv (x_iload 267 d_X8_order__265 rfl rfl) ?_
                                refine xv (x_ins1 270 (as := [Value.int (zi ((M 1) 4))]) d_X8_order__267 rfl c_8_106 rfl (Nat.le_of_ble_eq_true rfl) (Nat.le_of_ble_eq_true rfl) (Nat.le_of_ble_eq_true rfl) rfl (S_X8_order (E := E) (h := h) (am := am) (M := (uM (uM (uM (uM (uA (uA M2 1 (M 1)) 4 (u1 (u1 (u1 (M 4) 0 a) 1 b) 2 c)) 1 ((320 + 8 * ((M 1) 4)) + 0) d) 1 ((320 + 8 * ((M 1) 4)) + 1) 1) 1 ((320 + 8 * ((M 1) 4)) + 2) 0) 1 ((320 + 8 * ((M 1) 4)) + 3) (-1))))) ?_
                                show Xv E q_m_X8_order_ 270 [Value.ref am, Value.int (zi d), Value.int (zi a), Value.int (zi b), Value.int (zi c), Value.int (zi 1), Value.int (zi ((M 1) 4))] [Value.int (zi (320 + 8 * ((M 1) 4))), Value.ref (am + 1)] (q_mw h am (uM (uM (uM (uM (uA (uA M2 1 (M 1)) 4 (u1 (u1 (u1 (M 4) 0 a) 1 b) 2 c)) 1 ((320 + 8 * ((M 1) 4)) + 0) d) 1 ((320 + 8 * ((M 1) 4)) + 1) 1) 1 ((320 + 8 * ((M 1) 4)) + 2) 0) 1 ((320 + 8 * ((M 1) 4)) + 3) (-1))) Q
                                refine xv (x_iconst 271 d_X8_order__270 rfl) ?_
                                refine xv (x_iadd 272 d_X8_order__271 rfl) ?_
                                refine xv (x_iconst 273 d_X8_order__272 rfl) ?_
                                refine xv (x_iastore 274 d_X8_order__273 rfl (m_s1 (by omega) (by omega))) ?_
                                show Xv E q_m_X8_order_ 274 [Value.ref am, Value.int (zi d), Value.int (zi a), Value.int (zi b), Value.int (zi c), Value.int (zi 1), Value.int (zi ((M 1) 4))] [] (q_mw h am (uM (uM (uM (uM (uM (uA (uA M2 1 (M 1)) 4 (u1 (u1 (u1 (M 4) 0 a) 1 b) 2 c)) 1 ((320 + 8 * ((M 1) 4)) + 0) d) 1 ((320 + 8 * ((M 1) 4)) + 1) 1) 1 ((320 + 8 * ((M 1) 4)) + 2) 0) 1 ((320 + 8 * ((M 1) 4)) + 3) (-1)) 1 ((320 + 8 * ((M 1) 4)) + 4) (-1))) Q
                                refine xv (x_aload_n 275 d_X8_order__274 rfl rfl) ?_
                                refine xv (x_getfield 278 d_X8_order__275 rfl f_8_19 (Nat.le_of_ble_eq_true rfl) (Nat.le_of_ble_eq_true rfl) (q_gf_of m_o rfl)) ?_
                                refine xv (x_iconst 279 d_X8_order__278 rfl) ?_
                                refine xv (x_aload_n 280 d_X8_order__279 rfl rfl) ?_
                                refine xv (x_getfield 283 d_X8_order__280 rfl f_8_9 (Nat.le_of_ble_eq_true rfl) (Nat.le_of_ble_eq_true rfl) (q_gf_of m_o rfl)) ?_
                                refine xv (x_iload 285 d_X8_order__283 rfl rfl) ?_
                                refine xv (x_ins1 288 (as := [Value.int (zi ((M 1) 4))]) d_X8_order__285 rfl c_8_106 rfl (Nat.le_of_ble_eq_true rfl) (Nat.le_of_ble_eq_true rfl) (Nat.le_of_ble_eq_true rfl) rfl (S_X8_order (E := E) (h := h) (am := am) (M := (uM (uM (uM (uM (uM (uA (uA M2 1 (M 1)) 4 (u1 (u1 (u1 (M 4) 0 a) 1 b) 2 c)) 1 ((320 + 8 * ((M 1) 4)) + 0) d) 1 ((320 + 8 * ((M 1) 4)) + 1) 1) 1 ((320 + 8 * ((M 1) 4)) + 2) 0) 1 ((320 + 8 * ((M 1) 4)) + 3) (-1)) 1 ((320 + 8 * ((M 1) 4)) + 4) (-1))))) ?_
                                show Xv E q_m_X8_order_ 288 [Value.ref am, Value.int (zi d), Value.int (zi a), Value.int (zi b), Value.int (zi c), Value.int (zi 1), Value.int (zi ((M 1) 4))] [Value.int (zi (320 + 8 * ((M 1) 4))), Value.ref (am + 1), Value.int (zi 0), Value.ref (am + 4)] (q_mw h am (uM (uM (uM (uM (uM (uA (uA M2 1 (M 1)) 4 (u1 (u1 (u1 (M 4) 0 a) 1 b) 2 c)) 1 ((320 + 8 * ((M 1) 4)) + 0) d) 1 ((320 + 8 * ((M 1) 4)) + 1) 1) 1 ((320 + 8 * ((M 1) 4)) + 2) 0) 1 ((320 + 8 * ((M 1) 4)) + 3) (-1)) 1 ((320 + 8 * ((M 1) 4)) + 4) (-1))) Q
                                refine xv (x_iconst 289 d_X8_order__288 rfl) ?_
                                refine xv (x_iadd 290 d_X8_order__289 rfl) ?_
                                refine xv (x_iconst 291 d_X8_order__290 rfl) ?_
                                refine xv (x_copy 294 d_X8_order__291 rfl rfl rfl (Nat.le_of_ble_eq_true rfl) (Nat.le_of_ble_eq_true rfl) (Nat.le_of_ble_eq_true rfl) (m_cpy 4 1 m_a4 m_a1 m_w1 (by omega) (by omega) (by omega) (by omega) (by omega) (by decide) (by decide))) ?_
                                show Xv E q_m_X8_order_ 294 [Value.ref am, Value.int (zi d), Value.int (zi a), Value.int (zi b), Value.int (zi c), Value.int (zi 1), Value.int (zi ((M 1) 4))] [] (q_mw h am (uA (uM (uM (uM (uM (uM (uA (uA M2 1 (M 1)) 4 (u1 (u1 (u1 (M 4) 0 a) 1 b) 2 c)) 1 ((320 + 8 * ((M 1) 4)) + 0) d) 1 ((320 + 8 * ((M 1) 4)) + 1) 1) 1 ((320 + 8 * ((M 1) 4)) + 2) 0) 1 ((320 + 8 * ((M 1) 4)) + 3) (-1)) 1 ((320 + 8 * ((M 1) 4)) + 4) (-1)) 1 (cpI (u1 (u1 (u1 (M 4) 0 a) 1 b) 2 c) (u1 (u1 (u1 (u1 (u1 (M 1) ((320 + 8 * ((M 1) 4)) + 0) d) ((320 + 8 * ((M 1) 4)) + 1) 1) ((320 + 8 * ((M 1) 4)) + 2) 0) ((320 + 8 * ((M 1) 4)) + 3) (-1)) ((320 + 8 * ((M 1) 4)) + 4) (-1)) 0 ((320 + 8 * ((M 1) 4)) + 5) 3))) Q
                                refine xv (x_aload_n 295 d_X8_order__294 rfl rfl) ?_
                                refine xv (x_getfield 298 d_X8_order__295 rfl f_8_9 (Nat.le_of_ble_eq_true rfl) (Nat.le_of_ble_eq_true rfl) (q_gf_of m_o rfl)) ?_
                                refine xv (x_iconst 299 d_X8_order__298 rfl) ?_
                                refine xv (x_dup2 300 d_X8_order__299 rfl rfl rfl) ?_
                                refine xv (x_iaload 301 d_X8_order__300 rfl ((m_g1 (by omega) (by omega)).trans (rfl : _ = some (Value.int (zi ((cpI (u1 (u1 (u1 (M 4) 0 a) 1 b) 2 c) (u1 (u1 (u1 (u1 (u1 (M 1) ((320 + 8 * ((M 1) 4)) + 0) d) ((320 + 8 * ((M 1) 4)) + 1) 1) ((320 + 8 * ((M 1) 4)) + 2) 0) ((320 + 8 * ((M 1) 4)) + 3) (-1)) ((320 + 8 * ((M 1) 4)) + 4) (-1)) 0 ((320 + 8 * ((M 1) 4)) + 5) 3) 4)))))) ?_
                                refine xv (x_iconst 302 d_X8_order__301 rfl) ?_
                                refine xv (x_iadd 303 d_X8_order__302 rfl) ?_
                                refine xv (x_iastore 304 d_X8_order__303 rfl (m_s1 (by omega) (by omega))) ?_
                                show Xv E q_m_X8_order_ 304 [Value.ref am, Value.int (zi d), Value.int (zi a), Value.int (zi b), Value.int (zi c), Value.int (zi 1), Value.int (zi ((M 1) 4))] [] (q_mw h am (uM (uA (uM (uM (uM (uM (uM (uA (uA M2 1 (M 1)) 4 (u1 (u1 (u1 (M 4) 0 a) 1 b) 2 c)) 1 ((320 + 8 * ((M 1) 4)) + 0) d) 1 ((320 + 8 * ((M 1) 4)) + 1) 1) 1 ((320 + 8 * ((M 1) 4)) + 2) 0) 1 ((320 + 8 * ((M 1) 4)) + 3) (-1)) 1 ((320 + 8 * ((M 1) 4)) + 4) (-1)) 1 (cpI (u1 (u1 (u1 (M 4) 0 a) 1 b) 2 c) (u1 (u1 (u1 (u1 (u1 (M 1) ((320 + 8 * ((M 1) 4)) + 0) d) ((320 + 8 * ((M 1) 4)) + 1) 1) ((320 + 8 * ((M 1) 4)) + 2) 0) ((320 + 8 * ((M 1) 4)) + 3) (-1)) ((320 + 8 * ((M 1) 4)) + 4) (-1)) 0 ((320 + 8 * ((M 1) 4)) + 5) 3)) 1 4 (((cpI (u1 (u1 (u1 (M 4) 0 a) 1 b) 2 c) (u1 (u1 (u1 (u1 (u1 (M 1) ((320 + 8 * ((M 1) 4)) + 0) d) ((320 + 8 * ((M 1) 4)) + 1) 1) ((320 + 8 * ((M 1) 4)) + 2) 0) ((320 + 8 * ((M 1) 4)) + 3) (-1)) ((320 + 8 * ((M 1) 4)) + 4) (-1)) 0 ((320 + 8 * ((M 1) 4)) + 5) 3) 4) + 1))) Q
                                refine xv (x_iload 306 d_X8_order__304 rfl rfl) ?_
                                refine xv_r (x_ireturn d_X8_order__306 rfl rfl) ?_
                                have er : mOrd (M 1) d a b c = (0, 0) := by first | (exfalso; omega) | (unfold mOrd; repeat (first | rw [if_pos (by omega)] | rw [if_neg (by omega)]))
                                have ec : cntO b c = 1 := by first | (exfalso; omega) | (unfold cntO; repeat (first | rw [if_pos (by omega)] | rw [if_neg (by omega)]))
                                refine hQ _ _ ?_
                                unfold mMu2
                                rw [er, if_pos rfl, ec]
                                refine ⟨rfl, ?_⟩
                                unfold lnO
                                rw [hM2, ← eM]
                                simp only [uM_uA, uA_uA, uA_eq]
                                rfl
                              · omega
                            · refine xv (x_aload_n 177 d_X8_order__176 rfl rfl) ?_
                              refine xv (x_bipush 179 d_X8_order__177 rfl rfl) ?_
                              refine xv (x_aload_n 180 d_X8_order__179 rfl rfl) ?_
                              refine xv (x_getfield 183 d_X8_order__180 rfl f_8_19 (Nat.le_of_ble_eq_true rfl) (Nat.le_of_ble_eq_true rfl) (q_gf_of m_o rfl)) ?_
                              refine xv (x_iload 185 d_X8_order__183 rfl rfl) ?_
                              refine xv (x_iaload 186 d_X8_order__185 rfl ((m_g4 (by omega) (by omega)).trans (rfl : _ = some (Value.int (zi a))))) ?_
                              obtain ⟨r186, h186, e186, z186, y186⟩ := S_X8_refuse (E := E) (h := h) (am := am) (M := (uM (uM (uM (uM M 0 5 0) 4 0 a) 4 1 b) 4 2 c)) (y := 12) (z := a) 
                              subst z186
                              subst y186
                              refine xv (x_inv1 189 (as := [Value.int (zi 12), Value.int (zi a)]) d_X8_order__186 rfl c_8_90 rfl (Nat.le_of_ble_eq_true rfl) (Nat.le_of_ble_eq_true rfl) m_o (Nat.le_of_ble_eq_true rfl) (Nat.le_of_ble_eq_true rfl) rfl e186) ?_
                              show Xv E q_m_X8_order_ 189 [Value.ref am, Value.int (zi d), Value.int (zi a), Value.int (zi b), Value.int (zi c), Value.int (zi 1), Value.int (zi 0)] [Value.int (zi 0)] (q_mw h am (uM (uM (uM (uM (uM (uM (uM M 0 5 0) 4 0 a) 4 1 b) 4 2 c) 0 5 1) 0 6 12) 0 7 a)) Q
                              refine xv_r (x_ireturn d_X8_order__189 rfl rfl) ?_
                              have er : mOrd (M 1) d a b c = (12, a) := by first | (exfalso; omega) | (unfold mOrd; repeat (first | rw [if_pos (by omega)] | rw [if_neg (by omega)]))
                              refine hQ _ _ ?_
                              unfold mMu2
                              rw [er]
                              exact ⟨rfl, rfl⟩
                        · refine xv (x_aload_n 142 d_X8_order__141 rfl rfl) ?_
                          refine xv (x_iconst 143 d_X8_order__142 rfl) ?_
                          refine xv (x_iconst 144 d_X8_order__143 rfl) ?_
                          obtain ⟨r144, h144, e144, z144, y144⟩ := S_X8_refuse (E := E) (h := h) (am := am) (M := (uM (uM (uM (uM M 0 5 0) 4 0 a) 4 1 b) 4 2 c)) (y := 3) (z := 0) 
                          subst z144
                          subst y144
                          refine xv (x_inv1 147 (as := [Value.int (zi 3), Value.int (zi 0)]) d_X8_order__144 rfl c_8_90 rfl (Nat.le_of_ble_eq_true rfl) (Nat.le_of_ble_eq_true rfl) m_o (Nat.le_of_ble_eq_true rfl) (Nat.le_of_ble_eq_true rfl) rfl e144) ?_
                          show Xv E q_m_X8_order_ 147 [Value.ref am, Value.int (zi d), Value.int (zi a), Value.int (zi b), Value.int (zi c), Value.int (zi 1), Value.int (zi (((0 + 1) + 1) + 1))] [Value.int (zi 0)] (q_mw h am (uM (uM (uM (uM (uM (uM (uM M 0 5 0) 4 0 a) 4 1 b) 4 2 c) 0 5 1) 0 6 3) 0 7 0)) Q
                          refine xv_r (x_ireturn d_X8_order__147 rfl rfl) ?_
                          have er : mOrd (M 1) d a b c = (3, 0) := by first | (exfalso; omega) | (unfold mOrd; repeat (first | rw [if_pos (by omega)] | rw [if_neg (by omega)]))
                          refine hQ _ _ ?_
                          unfold mMu2
                          rw [er]
                          exact ⟨rfl, rfl⟩
                      · refine xv (x_aload_n 124 d_X8_order__123 rfl rfl) ?_
                        refine xv (x_iconst 125 d_X8_order__124 rfl) ?_
                        refine xv (x_iconst 126 d_X8_order__125 rfl) ?_
                        obtain ⟨r126, h126, e126, z126, y126⟩ := S_X8_refuse (E := E) (h := h) (am := am) (M := (uM (uM (uM (uM M 0 5 0) 4 0 a) 4 1 b) 4 2 c)) (y := 2) (z := 0) 
                        subst z126
                        subst y126
                        refine xv (x_inv1 129 (as := [Value.int (zi 2), Value.int (zi 0)]) d_X8_order__126 rfl c_8_90 rfl (Nat.le_of_ble_eq_true rfl) (Nat.le_of_ble_eq_true rfl) m_o (Nat.le_of_ble_eq_true rfl) (Nat.le_of_ble_eq_true rfl) rfl e126) ?_
                        show Xv E q_m_X8_order_ 129 [Value.ref am, Value.int (zi d), Value.int (zi a), Value.int (zi b), Value.int (zi c), Value.int (zi 1), Value.int (zi (((0 + 1) + 1) + 1))] [Value.int (zi 0)] (q_mw h am (uM (uM (uM (uM (uM (uM (uM M 0 5 0) 4 0 a) 4 1 b) 4 2 c) 0 5 1) 0 6 2) 0 7 0)) Q
                        refine xv_r (x_ireturn d_X8_order__129 rfl rfl) ?_
                        have er : mOrd (M 1) d a b c = (2, 0) := by first | (exfalso; omega) | (unfold mOrd; repeat (first | rw [if_pos (by omega)] | rw [if_neg (by omega)]))
                        refine hQ _ _ ?_
                        unfold mMu2
                        rw [er]
                        exact ⟨rfl, rfl⟩
                · omega
              · replace k69 := bI_0.mp k69
                refine xv (x_iload 74 d_X8_order__72 rfl rfl) ?_
                refine v_if_eq 88 77 d_X8_order__74 rfl rfl (by omega) (by omega) (fun k74 => ?_) (fun k74 => ?_)
                · omega
                · refine xv (x_aload_n 78 d_X8_order__77 rfl rfl) ?_
                  refine xv (x_getfield 81 d_X8_order__78 rfl f_8_19 (Nat.le_of_ble_eq_true rfl) (Nat.le_of_ble_eq_true rfl) (q_gf_of m_o rfl)) ?_
                  refine xv (x_iload 83 d_X8_order__81 rfl rfl) ?_
                  refine xv (x_iaload 84 d_X8_order__83 rfl ((m_g4 (by omega) (by omega)).trans (rfl : _ = some (Value.int (zi c))))) ?_
                  refine xv (x_iconst 85 d_X8_order__84 rfl) ?_
                  refine v_icmp_eq 95 88 d_X8_order__85 rfl rfl (by omega) (by omega) (by omega) (by omega) (fun k85 => ?_) (fun k85 => ?_)
                  · refine xv (x_iinc 98 d_X8_order__95 rfl rfl) ?_
                    show Xv E q_m_X8_order_ 98 [Value.ref am, Value.int (zi d), Value.int (zi a), Value.int (zi b), Value.int (zi c), Value.int (zi 1), Value.int (zi (((0 + 1) + 1) + 1))] [] (q_mw h am (uM (uM (uM (uM M 0 5 0) 4 0 a) 4 1 b) 4 2 c)) Q
                    refine xv (x_goto 52 d_X8_order__98 rfl) ?_
                    refine xv (x_iload 54 d_X8_order__52 rfl rfl) ?_
                    refine xv (x_iconst 55 d_X8_order__54 rfl) ?_
                    refine v_icmp_ge 101 58 d_X8_order__55 rfl rfl (by omega) (by omega) (by omega) (by omega) (fun k55 => ?_) (fun k55 => ?_)
                    · refine xv (x_iload_n 102 d_X8_order__101 rfl rfl) ?_
                      refine xv (x_iconst 103 d_X8_order__102 rfl) ?_
                      refine xv (x_sipush 106 d_X8_order__103 rfl rfl) ?_
                      refine xv (x_ins1 109 (as := [Value.int (zi d), Value.int (zi 0), Value.int (zi 999)]) d_X8_order__106 rfl c_8_71 rfl (Nat.le_of_ble_eq_true rfl) (Nat.le_of_ble_eq_true rfl) (Nat.le_of_ble_eq_true rfl) rfl (S_X8_in (E := E) (h := h) (am := am) (M := (uM (uM (uM (uM M 0 5 0) 4 0 a) 4 1 b) 4 2 c)) (by first | omega | (rw [show (uM (uM (uM (uM M 0 5 0) 4 0 a) 4 1 b) 4 2 c) 1 = (M 1) from rfl]; omega)) (by first | omega | (rw [show (uM (uM (uM (uM M 0 5 0) 4 0 a) 4 1 b) 4 2 c) 1 = (M 1) from rfl]; omega)) (by first | omega | (rw [show (uM (uM (uM (uM M 0 5 0) 4 0 a) 4 1 b) 4 2 c) 1 = (M 1) from rfl]; omega)) (by first | omega | (rw [show (uM (uM (uM (uM M 0 5 0) 4 0 a) 4 1 b) 4 2 c) 1 = (M 1) from rfl]; omega)) (by first | omega | (rw [show (uM (uM (uM (uM M 0 5 0) 4 0 a) 4 1 b) 4 2 c) 1 = (M 1) from rfl]; omega)) (by first | omega | (rw [show (uM (uM (uM (uM M 0 5 0) 4 0 a) 4 1 b) 4 2 c) 1 = (M 1) from rfl]; omega)))) ?_
                      show Xv E q_m_X8_order_ 109 [Value.ref am, Value.int (zi d), Value.int (zi a), Value.int (zi b), Value.int (zi c), Value.int (zi 1), Value.int (zi (((0 + 1) + 1) + 1))] [Value.int (zi (bI (inn d 0 999)))] (q_mw h am (uM (uM (uM (uM M 0 5 0) 4 0 a) 4 1 b) 4 2 c)) Q
                      refine v_if_eq 123 112 d_X8_order__109 rfl rfl (by have := bI_r (inn d 0 999); omega) (by have := bI_r (inn d 0 999); omega) (fun k109 => ?_) (fun k109 => ?_)
                      · replace k109 := bI_0.mp k109
                        refine xv (x_aload_n 124 d_X8_order__123 rfl rfl) ?_
                        refine xv (x_iconst 125 d_X8_order__124 rfl) ?_
                        refine xv (x_iconst 126 d_X8_order__125 rfl) ?_
                        obtain ⟨r126, h126, e126, z126, y126⟩ := S_X8_refuse (E := E) (h := h) (am := am) (M := (uM (uM (uM (uM M 0 5 0) 4 0 a) 4 1 b) 4 2 c)) (y := 2) (z := 0) 
                        subst z126
                        subst y126
                        refine xv (x_inv1 129 (as := [Value.int (zi 2), Value.int (zi 0)]) d_X8_order__126 rfl c_8_90 rfl (Nat.le_of_ble_eq_true rfl) (Nat.le_of_ble_eq_true rfl) m_o (Nat.le_of_ble_eq_true rfl) (Nat.le_of_ble_eq_true rfl) rfl e126) ?_
                        show Xv E q_m_X8_order_ 129 [Value.ref am, Value.int (zi d), Value.int (zi a), Value.int (zi b), Value.int (zi c), Value.int (zi 1), Value.int (zi (((0 + 1) + 1) + 1))] [Value.int (zi 0)] (q_mw h am (uM (uM (uM (uM (uM (uM (uM M 0 5 0) 4 0 a) 4 1 b) 4 2 c) 0 5 1) 0 6 2) 0 7 0)) Q
                        refine xv_r (x_ireturn d_X8_order__129 rfl rfl) ?_
                        have er : mOrd (M 1) d a b c = (2, 0) := by first | (exfalso; omega) | (unfold mOrd; repeat (first | rw [if_pos (by omega)] | rw [if_neg (by omega)]))
                        refine hQ _ _ ?_
                        unfold mMu2
                        rw [er]
                        exact ⟨rfl, rfl⟩
                      · replace k109 := bI_n0.mp k109
                        refine xv (x_iload_n 113 d_X8_order__112 rfl rfl) ?_
                        refine xv (x_iconst 114 d_X8_order__113 rfl) ?_
                        refine v_icmp_ne 130 117 d_X8_order__114 rfl rfl (by omega) (by omega) (by omega) (by omega) (fun k114 => ?_) (fun k114 => ?_)
                        · refine xv (x_aload_n 131 d_X8_order__130 rfl rfl) ?_
                          refine xv (x_getfield 134 d_X8_order__131 rfl f_8_9 (Nat.le_of_ble_eq_true rfl) (Nat.le_of_ble_eq_true rfl) (q_gf_of m_o rfl)) ?_
                          refine xv (x_iconst 135 d_X8_order__134 rfl) ?_
                          refine xv (x_iaload 136 d_X8_order__135 rfl ((m_g1 (by omega) (by omega)).trans (rfl : _ = some (Value.int (zi ((M 1) 4)))))) ?_
                          have q_79 : -1000000 ≤ (M 1) 4 ∧ (M 1) 4 ≤ 1000000 := hr _
                          refine xv (x_bipush 138 d_X8_order__136 rfl rfl) ?_
                          refine v_icmp_ne 148 141 d_X8_order__138 rfl rfl (by omega) (by omega) (by omega) (by omega) (fun k138 => ?_) (fun k138 => ?_)
                          · refine xv (x_iconst 149 d_X8_order__148 rfl) ?_
                            refine xv (x_istore 151 d_X8_order__149 rfl (Nat.le_of_ble_eq_true rfl)) ?_
                            show Xv E q_m_X8_order_ 151 [Value.ref am, Value.int (zi d), Value.int (zi a), Value.int (zi b), Value.int (zi c), Value.int (zi 1), Value.int (zi 0)] [] (q_mw h am (uM (uM (uM (uM M 0 5 0) 4 0 a) 4 1 b) 4 2 c)) Q
                            refine xv (x_iload 153 d_X8_order__151 rfl rfl) ?_
                            refine xv (x_iload 155 d_X8_order__153 rfl rfl) ?_
                            refine v_icmp_ge 196 158 d_X8_order__155 rfl rfl (by omega) (by omega) (by omega) (by omega) (fun k155 => ?_) (fun k155 => ?_)
                            · omega
                            · refine xv (x_aload_n 159 d_X8_order__158 rfl rfl) ?_
                              refine xv (x_getfield 162 d_X8_order__159 rfl f_8_9 (Nat.le_of_ble_eq_true rfl) (Nat.le_of_ble_eq_true rfl) (q_gf_of m_o rfl)) ?_
                              refine xv (x_bipush 164 d_X8_order__162 rfl rfl) ?_
                              refine xv (x_aload_n 165 d_X8_order__164 rfl rfl) ?_
                              refine xv (x_getfield 168 d_X8_order__165 rfl f_8_19 (Nat.le_of_ble_eq_true rfl) (Nat.le_of_ble_eq_true rfl) (q_gf_of m_o rfl)) ?_
                              refine xv (x_iload 170 d_X8_order__168 rfl rfl) ?_
                              refine xv (x_iaload 171 d_X8_order__170 rfl ((m_g4 (by omega) (by omega)).trans (rfl : _ = some (Value.int (zi a))))) ?_
                              refine xv (x_iadd 172 d_X8_order__171 rfl) ?_
                              refine xv (x_iaload 173 d_X8_order__172 rfl ((m_g1 (by omega) (by omega)).trans (rfl : _ = some (Value.int (zi ((M 1) (8 + a))))))) ?_
                              have q_80 : -1000000 ≤ (M 1) (8 + a) ∧ (M 1) (8 + a) ≤ 1000000 := hr _
                              refine v_if_eq 190 176 d_X8_order__173 rfl rfl (by omega) (by omega) (fun k173 => ?_) (fun k173 => ?_)
                              · refine xv (x_iinc 193 d_X8_order__190 rfl rfl) ?_
                                show Xv E q_m_X8_order_ 193 [Value.ref am, Value.int (zi d), Value.int (zi a), Value.int (zi b), Value.int (zi c), Value.int (zi 1), Value.int (zi (0 + 1))] [] (q_mw h am (uM (uM (uM (uM M 0 5 0) 4 0 a) 4 1 b) 4 2 c)) Q
                                refine xv (x_goto 151 d_X8_order__193 rfl) ?_
                                refine xv (x_iload 153 d_X8_order__151 rfl rfl) ?_
                                refine xv (x_iload 155 d_X8_order__153 rfl rfl) ?_
                                refine v_icmp_ge 196 158 d_X8_order__155 rfl rfl (by omega) (by omega) (by omega) (by omega) (fun k155 => ?_) (fun k155 => ?_)
                                · refine xv (x_aload_n 197 d_X8_order__196 rfl rfl) ?_
                                  obtain ⟨r197, h197, e197, z197, y197⟩ := S_X8_change (E := E) (h := h) (am := am) (M := (uM (uM (uM (uM M 0 5 0) 4 0 a) 4 1 b) 4 2 c)) hc
                                  subst z197
                                  subst y197
                                  refine xv (x_inv0 200 (as := []) d_X8_order__197 rfl c_8_100 rfl (Nat.le_of_ble_eq_true rfl) (Nat.le_of_ble_eq_true rfl) m_o (Nat.le_of_ble_eq_true rfl) (Nat.le_of_ble_eq_true rfl) rfl e197) ?_
                                  generalize hM2 : mch (uM (uM (uM (uM M 0 5 0) 4 0 a) 4 1 b) 4 2 c) = M2
                                  have e2 : M2 1 = M 1 := by rw [← hM2]; exact mch_1
                                  have e4 : M2 4 = (u1 (u1 (u1 (M 4) 0 a) 1 b) 2 c) := by rw [← hM2]; exact mch_s (by decide) (by decide)
                                  have eM : M2 = uA (uA M2 1 (M 1)) 4 (u1 (u1 (u1 (M 4) 0 a) 1 b) 2 c) := by rw [← e2, uA_self, ← e4, uA_self]
                                  rw [eM]
                                  show Xv E q_m_X8_order_ 200 [Value.ref am, Value.int (zi d), Value.int (zi a), Value.int (zi b), Value.int (zi c), Value.int (zi 1), Value.int (zi (0 + 1))] [] (q_mw h am (uA (uA M2 1 (M 1)) 4 (u1 (u1 (u1 (M 4) 0 a) 1 b) 2 c))) Q
                                  refine xv (x_aload_n 201 d_X8_order__200 rfl rfl) ?_
                                  refine xv (x_getfield 204 d_X8_order__201 rfl f_8_9 (Nat.le_of_ble_eq_true rfl) (Nat.le_of_ble_eq_true rfl) (q_gf_of m_o rfl)) ?_
                                  refine xv (x_iconst 205 d_X8_order__204 rfl) ?_
                                  refine xv (x_iaload 206 d_X8_order__205 rfl ((m_g1 (by omega) (by omega)).trans (rfl : _ = some (Value.int (zi ((M 1) 4)))))) ?_
                                  have q_81 : -1000000 ≤ (M 1) 4 ∧ (M 1) 4 ≤ 1000000 := hr _
                                  refine xv (x_istore 208 d_X8_order__206 rfl (Nat.le_of_ble_eq_true rfl)) ?_
                                  show Xv E q_m_X8_order_ 208 [Value.ref am, Value.int (zi d), Value.int (zi a), Value.int (zi b), Value.int (zi c), Value.int (zi 1), Value.int (zi ((M 1) 4))] [] (q_mw h am (uA (uA M2 1 (M 1)) 4 (u1 (u1 (u1 (M 4) 0 a) 1 b) 2 c))) Q
                                  refine xv (x_aload_n 209 d_X8_order__208 rfl rfl) ?_
                                  refine xv (x_getfield 212 d_X8_order__209 rfl f_8_9 (Nat.le_of_ble_eq_true rfl) (Nat.le_of_ble_eq_true rfl) (q_gf_of m_o rfl)) ?_
                                  refine xv (x_iload 214 d_X8_order__212 rfl rfl) ?_
                                  refine xv (x_ins1 217 (as := [Value.int (zi ((M 1) 4))]) d_X8_order__214 rfl c_8_106 rfl (Nat.le_of_ble_eq_true rfl) (Nat.le_of_ble_eq_true rfl) (Nat.le_of_ble_eq_true rfl) rfl (S_X8_order (E := E) (h := h) (am := am) (M := (uA (uA M2 1 (M 1)) 4 (u1 (u1 (u1 (M 4) 0 a) 1 b) 2 c))))) ?_
                                  show Xv E q_m_X8_order_ 217 [Value.ref am, Value.int (zi d), Value.int (zi a), Value.int (zi b), Value.int (zi c), Value.int (zi 1), Value.int (zi ((M 1) 4))] [Value.int (zi (320 + 8 * ((M 1) 4))), Value.ref (am + 1)] (q_mw h am (uA (uA M2 1 (M 1)) 4 (u1 (u1 (u1 (M 4) 0 a) 1 b) 2 c))) Q
                                  refine xv (x_iconst 218 d_X8_order__217 rfl) ?_
                                  refine xv (x_iadd 219 d_X8_order__218 rfl) ?_
                                  refine xv (x_iload_n 220 d_X8_order__219 rfl rfl) ?_
                                  refine xv (x_iastore 221 d_X8_order__220 rfl (m_s1 (by omega) (by omega))) ?_
                                  show Xv E q_m_X8_order_ 221 [Value.ref am, Value.int (zi d), Value.int (zi a), Value.int (zi b), Value.int (zi c), Value.int (zi 1), Value.int (zi ((M 1) 4))] [] (q_mw h am (uM (uA (uA M2 1 (M 1)) 4 (u1 (u1 (u1 (M 4) 0 a) 1 b) 2 c)) 1 ((320 + 8 * ((M 1) 4)) + 0) d)) Q
                                  refine xv (x_aload_n 222 d_X8_order__221 rfl rfl) ?_
                                  refine xv (x_getfield 225 d_X8_order__222 rfl f_8_9 (Nat.le_of_ble_eq_true rfl) (Nat.le_of_ble_eq_true rfl) (q_gf_of m_o rfl)) ?_
                                  refine xv (x_iload 227 d_X8_order__225 rfl rfl) ?_
                                  refine xv (x_ins1 230 (as := [Value.int (zi ((M 1) 4))]) d_X8_order__227 rfl c_8_106 rfl (Nat.le_of_ble_eq_true rfl) (Nat.le_of_ble_eq_true rfl) (Nat.le_of_ble_eq_true rfl) rfl (S_X8_order (E := E) (h := h) (am := am) (M := (uM (uA (uA M2 1 (M 1)) 4 (u1 (u1 (u1 (M 4) 0 a) 1 b) 2 c)) 1 ((320 + 8 * ((M 1) 4)) + 0) d)))) ?_
                                  show Xv E q_m_X8_order_ 230 [Value.ref am, Value.int (zi d), Value.int (zi a), Value.int (zi b), Value.int (zi c), Value.int (zi 1), Value.int (zi ((M 1) 4))] [Value.int (zi (320 + 8 * ((M 1) 4))), Value.ref (am + 1)] (q_mw h am (uM (uA (uA M2 1 (M 1)) 4 (u1 (u1 (u1 (M 4) 0 a) 1 b) 2 c)) 1 ((320 + 8 * ((M 1) 4)) + 0) d)) Q
                                  refine xv (x_iconst 231 d_X8_order__230 rfl) ?_
                                  refine xv (x_iadd 232 d_X8_order__231 rfl) ?_
                                  refine xv (x_iload 234 d_X8_order__232 rfl rfl) ?_
                                  refine xv (x_iastore 235 d_X8_order__234 rfl (m_s1 (by omega) (by omega))) ?_
                                  show Xv E q_m_X8_order_ 235 [Value.ref am, Value.int (zi d), Value.int (zi a), Value.int (zi b), Value.int (zi c), Value.int (zi 1), Value.int (zi ((M 1) 4))] [] (q_mw h am (uM (uM (uA (uA M2 1 (M 1)) 4 (u1 (u1 (u1 (M 4) 0 a) 1 b) 2 c)) 1 ((320 + 8 * ((M 1) 4)) + 0) d) 1 ((320 + 8 * ((M 1) 4)) + 1) 1)) Q
                                  refine xv (x_aload_n 236 d_X8_order__235 rfl rfl) ?_
                                  refine xv (x_getfield 239 d_X8_order__236 rfl f_8_9 (Nat.le_of_ble_eq_true rfl) (Nat.le_of_ble_eq_true rfl) (q_gf_of m_o rfl)) ?_
                                  refine xv (x_iload 241 d_X8_order__239 rfl rfl) ?_
                                  refine xv (x_ins1 244 (as := [Value.int (zi ((M 1) 4))]) d_X8_order__241 rfl c_8_106 rfl (Nat.le_of_ble_eq_true rfl) (Nat.le_of_ble_eq_true rfl) (Nat.le_of_ble_eq_true rfl) rfl (S_X8_order (E := E) (h := h) (am := am) (M := (uM (uM (uA (uA M2 1 (M 1)) 4 (u1 (u1 (u1 (M 4) 0 a) 1 b) 2 c)) 1 ((320 + 8 * ((M 1) 4)) + 0) d) 1 ((320 + 8 * ((M 1) 4)) + 1) 1)))) ?_
                                  show Xv E q_m_X8_order_ 244 [Value.ref am, Value.int (zi d), Value.int (zi a), Value.int (zi b), Value.int (zi c), Value.int (zi 1), Value.int (zi ((M 1) 4))] [Value.int (zi (320 + 8 * ((M 1) 4))), Value.ref (am + 1)] (q_mw h am (uM (uM (uA (uA M2 1 (M 1)) 4 (u1 (u1 (u1 (M 4) 0 a) 1 b) 2 c)) 1 ((320 + 8 * ((M 1) 4)) + 0) d) 1 ((320 + 8 * ((M 1) 4)) + 1) 1)) Q
                                  refine xv (x_iconst 245 d_X8_order__244 rfl) ?_
                                  refine xv (x_iadd 246 d_X8_order__245 rfl) ?_
                                  refine xv (x_iconst 247 d_X8_order__246 rfl) ?_
                                  refine xv (x_iastore 248 d_X8_order__247 rfl (m_s1 (by omega) (by omega))) ?_
                                  show Xv E q_m_X8_order_ 248 [Value.ref am, Value.int (zi d), Value.int (zi a), Value.int (zi b), Value.int (zi c), Value.int (zi 1), Value.int (zi ((M 1) 4))] [] (q_mw h am (uM (uM (uM (uA (uA M2 1 (M 1)) 4 (u1 (u1 (u1 (M 4) 0 a) 1 b) 2 c)) 1 ((320 + 8 * ((M 1) 4)) + 0) d) 1 ((320 + 8 * ((M 1) 4)) + 1) 1) 1 ((320 + 8 * ((M 1) 4)) + 2) 0)) Q
                                  refine xv (x_aload_n 249 d_X8_order__248 rfl rfl) ?_
                                  refine xv (x_getfield 252 d_X8_order__249 rfl f_8_9 (Nat.le_of_ble_eq_true rfl) (Nat.le_of_ble_eq_true rfl) (q_gf_of m_o rfl)) ?_
                                  refine xv (x_iload 254 d_X8_order__252 rfl rfl) ?_
                                  refine xv (x_ins1 257 (as := [Value.int (zi ((M 1) 4))]) d_X8_order__254 rfl c_8_106 rfl (Nat.le_of_ble_eq_true rfl) (Nat.le_of_ble_eq_true rfl) (Nat.le_of_ble_eq_true rfl) rfl (S_X8_order (E := E) (h := h) (am := am) (M := (uM (uM (uM (uA (uA M2 1 (M 1)) 4 (u1 (u1 (u1 (M 4) 0 a) 1 b) 2 c)) 1 ((320 + 8 * ((M 1) 4)) + 0) d) 1 ((320 + 8 * ((M 1) 4)) + 1) 1) 1 ((320 + 8 * ((M 1) 4)) + 2) 0)))) ?_
                                  show Xv E q_m_X8_order_ 257 [Value.ref am, Value.int (zi d), Value.int (zi a), Value.int (zi b), Value.int (zi c), Value.int (zi 1), Value.int (zi ((M 1) 4))] [Value.int (zi (320 + 8 * ((M 1) 4))), Value.ref (am + 1)] (q_mw h am (uM (uM (uM (uA (uA M2 1 (M 1)) 4 (u1 (u1 (u1 (M 4) 0 a) 1 b) 2 c)) 1 ((320 + 8 * ((M 1) 4)) + 0) d) 1 ((320 + 8 * ((M 1) 4)) + 1) 1) 1 ((320 + 8 * ((M 1) 4)) + 2) 0)) Q
                                  refine xv (x_iconst 258 d_X8_order__257 rfl) ?_
                                  refine xv (x_iadd 259 d_X8_order__258 rfl) ?_
                                  refine xv (x_iconst 260 d_X8_order__259 rfl) ?_
                                  refine xv (x_iastore 261 d_X8_order__260 rfl (m_s1 (by omega) (by omega))) ?_
                                  show Xv E q_m_X8_order_ 261 [Value.ref am, Value.int (zi d), Value.int (zi a), Value.int (zi b), Value.int (zi c), Value.int (zi 1), Value.int (zi ((M 1) 4))] [] (q_mw h am (uM (uM (uM (uM (uA (uA M2 1 (M 1)) 4 (u1 (u1 (u1 (M 4) 0 a) 1 b) 2 c)) 1 ((320 + 8 * ((M 1) 4)) + 0) d) 1 ((320 + 8 * ((M 1) 4)) + 1) 1) 1 ((320 + 8 * ((M 1) 4)) + 2) 0) 1 ((320 + 8 * ((M 1) 4)) + 3) (-1))) Q
                                  refine xv (x_aload_n 262 d_X8_order__261 rfl rfl) ?_
                                  refine xv (x_getfield 265 d_X8_order__262 rfl f_8_9 (Nat.le_of_ble_eq_true rfl) (Nat.le_of_ble_eq_true rfl) (q_gf_of m_o rfl)) ?_
                                  refine xv (x_iload 267 d_X8_order__265 rfl rfl) ?_
                                  refine xv (x_ins1 270 (as := [Value.int (zi ((M 1) 4))]) d_X8_order__267 rfl c_8_106 rfl (Nat.le_of_ble_eq_true rfl) (Nat.le_of_ble_eq_true rfl) (Nat.le_of_ble_eq_true rfl) rfl (S_X8_order (E := E) (h := h) (am := am) (M := (uM (uM (uM (uM (uA (uA M2 1 (M 1)) 4 (u1 (u1 (u1 (M 4) 0 a) 1 b) 2 c)) 1 ((320 + 8 * ((M 1) 4)) + 0) d) 1 ((320 + 8 * ((M 1) 4)) + 1) 1) 1 ((320 + 8 * ((M 1) 4)) + 2) 0) 1 ((320 + 8 * ((M 1) 4)) + 3) (-1))))) ?_
                                  show Xv E q_m_X8_order_ 270 [Value.ref am, Value.int (zi d), Value.int (zi a), Value.int (zi b), Value.int (zi c), Value.int (zi 1), Value.int (zi ((M 1) 4))] [Value.int (zi (320 + 8 * ((M 1) 4))), Value.ref (am + 1)] (q_mw h am (uM (uM (uM (uM (uA (uA M2 1 (M 1)) 4 (u1 (u1 (u1 (M 4) 0 a) 1 b) 2 c)) 1 ((320 + 8 * ((M 1) 4)) + 0) d) 1 ((320 + 8 * ((M 1) 4)) + 1) 1) 1 ((320 + 8 * ((M 1) 4)) + 2) 0) 1 ((320 + 8 * ((M 1) 4)) + 3) (-1))) Q
                                  refine xv (x_iconst 271 d_X8_order__270 rfl) ?_
                                  refine xv (x_iadd 272 d_X8_order__271 rfl) ?_
                                  refine xv (x_iconst 273 d_X8_order__272 rfl) ?_
                                  refine xv (x_iastore 274 d_X8_order__273 rfl (m_s1 (by omega) (by omega))) ?_
                                  show Xv E q_m_X8_order_ 274 [Value.ref am, Value.int (zi d), Value.int (zi a), Value.int (zi b), Value.int (zi c), Value.int (zi 1), Value.int (zi ((M 1) 4))] [] (q_mw h am (uM (uM (uM (uM (uM (uA (uA M2 1 (M 1)) 4 (u1 (u1 (u1 (M 4) 0 a) 1 b) 2 c)) 1 ((320 + 8 * ((M 1) 4)) + 0) d) 1 ((320 + 8 * ((M 1) 4)) + 1) 1) 1 ((320 + 8 * ((M 1) 4)) + 2) 0) 1 ((320 + 8 * ((M 1) 4)) + 3) (-1)) 1 ((320 + 8 * ((M 1) 4)) + 4) (-1))) Q
                                  refine xv (x_aload_n 275 d_X8_order__274 rfl rfl) ?_
                                  refine xv (x_getfield 278 d_X8_order__275 rfl f_8_19 (Nat.le_of_ble_eq_true rfl) (Nat.le_of_ble_eq_true rfl) (q_gf_of m_o rfl)) ?_
                                  refine xv (x_iconst 279 d_X8_order__278 rfl) ?_
                                  refine xv (x_aload_n 280 d_X8_order__279 rfl rfl) ?_
                                  refine xv (x_getfield 283 d_X8_order__280 rfl f_8_9 (Nat.le_of_ble_eq_true rfl) (Nat.le_of_ble_eq_true rfl) (q_gf_of m_o rfl)) ?_
                                  refine xv (x_iload 285 d_X8_order__283 rfl rfl) ?_
                                  refine xv (x_ins1 288 (as := [Value.int (zi ((M 1) 4))]) d_X8_order__285 rfl c_8_106 rfl (Nat.le_of_ble_eq_true rfl) (Nat.le_of_ble_eq_true rfl) (Nat.le_of_ble_eq_true rfl) rfl (S_X8_order (E := E) (h := h) (am := am) (M := (uM (uM (uM (uM (uM (uA (uA M2 1 (M 1)) 4 (u1 (u1 (u1 (M 4) 0 a) 1 b) 2 c)) 1 ((320 + 8 * ((M 1) 4)) + 0) d) 1 ((320 + 8 * ((M 1) 4)) + 1) 1) 1 ((320 + 8 * ((M 1) 4)) + 2) 0) 1 ((320 + 8 * ((M 1) 4)) + 3) (-1)) 1 ((320 + 8 * ((M 1) 4)) + 4) (-1))))) ?_
                                  show Xv E q_m_X8_order_ 288 [Value.ref am, Value.int (zi d), Value.int (zi a), Value.int (zi b), Value.int (zi c), Value.int (zi 1), Value.int (zi ((M 1) 4))] [Value.int (zi (320 + 8 * ((M 1) 4))), Value.ref (am + 1), Value.int (zi 0), Value.ref (am + 4)] (q_mw h am (uM (uM (uM (uM (uM (uA (uA M2 1 (M 1)) 4 (u1 (u1 (u1 (M 4) 0 a) 1 b) 2 c)) 1 ((320 + 8 * ((M 1) 4)) + 0) d) 1 ((320 + 8 * ((M 1) 4)) + 1) 1) 1 ((320 + 8 * ((M 1) 4)) + 2) 0) 1 ((320 + 8 * ((M 1) 4)) + 3) (-1)) 1 ((320 + 8 * ((M 1) 4)) + 4) (-1))) Q
                                  refine xv (x_iconst 289 d_X8_order__288 rfl) ?_
                                  refine xv (x_iadd 290 d_X8_order__289 rfl) ?_
                                  refine xv (x_iconst 291 d_X8_order__290 rfl) ?_
                                  refine xv (x_copy 294 d_X8_order__291 rfl rfl rfl (Nat.le_of_ble_eq_true rfl) (Nat.le_of_ble_eq_true rfl) (Nat.le_of_ble_eq_true rfl) (m_cpy 4 1 m_a4 m_a1 m_w1 (by omega) (by omega) (by omega) (by omega) (by omega) (by decide) (by decide))) ?_
                                  show Xv E q_m_X8_order_ 294 [Value.ref am, Value.int (zi d), Value.int (zi a), Value.int (zi b), Value.int (zi c), Value.int (zi 1), Value.int (zi ((M 1) 4))] [] (q_mw h am (uA (uM (uM (uM (uM (uM (uA (uA M2 1 (M 1)) 4 (u1 (u1 (u1 (M 4) 0 a) 1 b) 2 c)) 1 ((320 + 8 * ((M 1) 4)) + 0) d) 1 ((320 + 8 * ((M 1) 4)) + 1) 1) 1 ((320 + 8 * ((M 1) 4)) + 2) 0) 1 ((320 + 8 * ((M 1) 4)) + 3) (-1)) 1 ((320 + 8 * ((M 1) 4)) + 4) (-1)) 1 (cpI (u1 (u1 (u1 (M 4) 0 a) 1 b) 2 c) (u1 (u1 (u1 (u1 (u1 (M 1) ((320 + 8 * ((M 1) 4)) + 0) d) ((320 + 8 * ((M 1) 4)) + 1) 1) ((320 + 8 * ((M 1) 4)) + 2) 0) ((320 + 8 * ((M 1) 4)) + 3) (-1)) ((320 + 8 * ((M 1) 4)) + 4) (-1)) 0 ((320 + 8 * ((M 1) 4)) + 5) 3))) Q
                                  refine xv (x_aload_n 295 d_X8_order__294 rfl rfl) ?_
                                  refine xv (x_getfield 298 d_X8_order__295 rfl f_8_9 (Nat.le_of_ble_eq_true rfl) (Nat.le_of_ble_eq_true rfl) (q_gf_of m_o rfl)) ?_
                                  refine xv (x_iconst 299 d_X8_order__298 rfl) ?_
                                  refine xv (x_dup2 300 d_X8_order__299 rfl rfl rfl) ?_
                                  refine xv (x_iaload 301 d_X8_order__300 rfl ((m_g1 (by omega) (by omega)).trans (rfl : _ = some (Value.int (zi ((cpI (u1 (u1 (u1 (M 4) 0 a) 1 b) 2 c) (u1 (u1 (u1 (u1 (u1 (M 1) ((320 + 8 * ((M 1) 4)) + 0) d) ((320 + 8 * ((M 1) 4)) + 1) 1) ((320 + 8 * ((M 1) 4)) + 2) 0) ((320 + 8 * ((M 1) 4)) + 3) (-1)) ((320 + 8 * ((M 1) 4)) + 4) (-1)) 0 ((320 + 8 * ((M 1) 4)) + 5) 3) 4)))))) ?_
                                  refine xv (x_iconst 302 d_X8_order__301 rfl) ?_
                                  refine xv (x_iadd 303 d_X8_order__302 rfl) ?_
                                  refine xv (x_iastore 304 d_X8_order__303 rfl (m_s1 (by omega) (by omega))) ?_
                                  show Xv E q_m_X8_order_ 304 [Value.ref am, Value.int (zi d), Value.int (zi a), Value.int (zi b), Value.int (zi c), Value.int (zi 1), Value.int (zi ((M 1) 4))] [] (q_mw h am (uM (uA (uM (uM (uM (uM (uM (uA (uA M2 1 (M 1)) 4 (u1 (u1 (u1 (M 4) 0 a) 1 b) 2 c)) 1 ((320 + 8 * ((M 1) 4)) + 0) d) 1 ((320 + 8 * ((M 1) 4)) + 1) 1) 1 ((320 + 8 * ((M 1) 4)) + 2) 0) 1 ((320 + 8 * ((M 1) 4)) + 3) (-1)) 1 ((320 + 8 * ((M 1) 4)) + 4) (-1)) 1 (cpI (u1 (u1 (u1 (M 4) 0 a) 1 b) 2 c) (u1 (u1 (u1 (u1 (u1 (M 1) ((320 + 8 * ((M 1) 4)) + 0) d) ((320 + 8 * ((M 1) 4)) + 1) 1) ((320 + 8 * ((M 1) 4)) + 2) 0) ((320 + 8 * ((M 1) 4)) + 3) (-1)) ((320 + 8 * ((M 1) 4)) + 4) (-1)) 0 ((320 + 8 * ((M 1) 4)) + 5) 3)) 1 4 (((cpI (u1 (u1 (u1 (M 4) 0 a) 1 b) 2 c) (u1 (u1 (u1 (u1 (u1 (M 1) ((320 + 8 * ((M 1) 4)) + 0) d) ((320 + 8 * ((M 1) 4)) + 1) 1) ((320 + 8 * ((M 1) 4)) + 2) 0) ((320 + 8 * ((M 1) 4)) + 3) (-1)) ((320 + 8 * ((M 1) 4)) + 4) (-1)) 0 ((320 + 8 * ((M 1) 4)) + 5) 3) 4) + 1))) Q
                                  refine xv (x_iload 306 d_X8_order__304 rfl rfl) ?_
                                  refine xv_r (x_ireturn d_X8_order__306 rfl rfl) ?_
                                  have er : mOrd (M 1) d a b c = (0, 0) := by first | (exfalso; omega) | (unfold mOrd; repeat (first | rw [if_pos (by omega)] | rw [if_neg (by omega)]))
                                  have ec : cntO b c = 1 := by first | (exfalso; omega) | (unfold cntO; repeat (first | rw [if_pos (by omega)] | rw [if_neg (by omega)]))
                                  refine hQ _ _ ?_
                                  unfold mMu2
                                  rw [er, if_pos rfl, ec]
                                  refine ⟨rfl, ?_⟩
                                  unfold lnO
                                  rw [hM2, ← eM]
                                  simp only [uM_uA, uA_uA, uA_eq]
                                  rfl
                                · omega
                              · refine xv (x_aload_n 177 d_X8_order__176 rfl rfl) ?_
                                refine xv (x_bipush 179 d_X8_order__177 rfl rfl) ?_
                                refine xv (x_aload_n 180 d_X8_order__179 rfl rfl) ?_
                                refine xv (x_getfield 183 d_X8_order__180 rfl f_8_19 (Nat.le_of_ble_eq_true rfl) (Nat.le_of_ble_eq_true rfl) (q_gf_of m_o rfl)) ?_
                                refine xv (x_iload 185 d_X8_order__183 rfl rfl) ?_
                                refine xv (x_iaload 186 d_X8_order__185 rfl ((m_g4 (by omega) (by omega)).trans (rfl : _ = some (Value.int (zi a))))) ?_
                                obtain ⟨r186, h186, e186, z186, y186⟩ := S_X8_refuse (E := E) (h := h) (am := am) (M := (uM (uM (uM (uM M 0 5 0) 4 0 a) 4 1 b) 4 2 c)) (y := 12) (z := a) 
                                subst z186
                                subst y186
                                refine xv (x_inv1 189 (as := [Value.int (zi 12), Value.int (zi a)]) d_X8_order__186 rfl c_8_90 rfl (Nat.le_of_ble_eq_true rfl) (Nat.le_of_ble_eq_true rfl) m_o (Nat.le_of_ble_eq_true rfl) (Nat.le_of_ble_eq_true rfl) rfl e186) ?_
                                show Xv E q_m_X8_order_ 189 [Value.ref am, Value.int (zi d), Value.int (zi a), Value.int (zi b), Value.int (zi c), Value.int (zi 1), Value.int (zi 0)] [Value.int (zi 0)] (q_mw h am (uM (uM (uM (uM (uM (uM (uM M 0 5 0) 4 0 a) 4 1 b) 4 2 c) 0 5 1) 0 6 12) 0 7 a)) Q
                                refine xv_r (x_ireturn d_X8_order__189 rfl rfl) ?_
                                have er : mOrd (M 1) d a b c = (12, a) := by first | (exfalso; omega) | (unfold mOrd; repeat (first | rw [if_pos (by omega)] | rw [if_neg (by omega)]))
                                refine hQ _ _ ?_
                                unfold mMu2
                                rw [er]
                                exact ⟨rfl, rfl⟩
                          · refine xv (x_aload_n 142 d_X8_order__141 rfl rfl) ?_
                            refine xv (x_iconst 143 d_X8_order__142 rfl) ?_
                            refine xv (x_iconst 144 d_X8_order__143 rfl) ?_
                            obtain ⟨r144, h144, e144, z144, y144⟩ := S_X8_refuse (E := E) (h := h) (am := am) (M := (uM (uM (uM (uM M 0 5 0) 4 0 a) 4 1 b) 4 2 c)) (y := 3) (z := 0) 
                            subst z144
                            subst y144
                            refine xv (x_inv1 147 (as := [Value.int (zi 3), Value.int (zi 0)]) d_X8_order__144 rfl c_8_90 rfl (Nat.le_of_ble_eq_true rfl) (Nat.le_of_ble_eq_true rfl) m_o (Nat.le_of_ble_eq_true rfl) (Nat.le_of_ble_eq_true rfl) rfl e144) ?_
                            show Xv E q_m_X8_order_ 147 [Value.ref am, Value.int (zi d), Value.int (zi a), Value.int (zi b), Value.int (zi c), Value.int (zi 1), Value.int (zi (((0 + 1) + 1) + 1))] [Value.int (zi 0)] (q_mw h am (uM (uM (uM (uM (uM (uM (uM M 0 5 0) 4 0 a) 4 1 b) 4 2 c) 0 5 1) 0 6 3) 0 7 0)) Q
                            refine xv_r (x_ireturn d_X8_order__147 rfl rfl) ?_
                            have er : mOrd (M 1) d a b c = (3, 0) := by first | (exfalso; omega) | (unfold mOrd; repeat (first | rw [if_pos (by omega)] | rw [if_neg (by omega)]))
                            refine hQ _ _ ?_
                            unfold mMu2
                            rw [er]
                            exact ⟨rfl, rfl⟩
                        · refine xv (x_iload 119 d_X8_order__117 rfl rfl) ?_
                          refine xv (x_iconst 120 d_X8_order__119 rfl) ?_
                          refine v_icmp_eq 130 123 d_X8_order__120 rfl rfl (by omega) (by omega) (by omega) (by omega) (fun k120 => ?_) (fun k120 => ?_)
                          · refine xv (x_aload_n 131 d_X8_order__130 rfl rfl) ?_
                            refine xv (x_getfield 134 d_X8_order__131 rfl f_8_9 (Nat.le_of_ble_eq_true rfl) (Nat.le_of_ble_eq_true rfl) (q_gf_of m_o rfl)) ?_
                            refine xv (x_iconst 135 d_X8_order__134 rfl) ?_
                            refine xv (x_iaload 136 d_X8_order__135 rfl ((m_g1 (by omega) (by omega)).trans (rfl : _ = some (Value.int (zi ((M 1) 4)))))) ?_
                            have q_82 : -1000000 ≤ (M 1) 4 ∧ (M 1) 4 ≤ 1000000 := hr _
                            refine xv (x_bipush 138 d_X8_order__136 rfl rfl) ?_
                            refine v_icmp_ne 148 141 d_X8_order__138 rfl rfl (by omega) (by omega) (by omega) (by omega) (fun k138 => ?_) (fun k138 => ?_)
                            · refine xv (x_iconst 149 d_X8_order__148 rfl) ?_
                              refine xv (x_istore 151 d_X8_order__149 rfl (Nat.le_of_ble_eq_true rfl)) ?_
                              show Xv E q_m_X8_order_ 151 [Value.ref am, Value.int (zi d), Value.int (zi a), Value.int (zi b), Value.int (zi c), Value.int (zi 1), Value.int (zi 0)] [] (q_mw h am (uM (uM (uM (uM M 0 5 0) 4 0 a) 4 1 b) 4 2 c)) Q
                              refine xv (x_iload 153 d_X8_order__151 rfl rfl) ?_
                              refine xv (x_iload 155 d_X8_order__153 rfl rfl) ?_
                              refine v_icmp_ge 196 158 d_X8_order__155 rfl rfl (by omega) (by omega) (by omega) (by omega) (fun k155 => ?_) (fun k155 => ?_)
                              · omega
                              · refine xv (x_aload_n 159 d_X8_order__158 rfl rfl) ?_
                                refine xv (x_getfield 162 d_X8_order__159 rfl f_8_9 (Nat.le_of_ble_eq_true rfl) (Nat.le_of_ble_eq_true rfl) (q_gf_of m_o rfl)) ?_
                                refine xv (x_bipush 164 d_X8_order__162 rfl rfl) ?_
                                refine xv (x_aload_n 165 d_X8_order__164 rfl rfl) ?_
                                refine xv (x_getfield 168 d_X8_order__165 rfl f_8_19 (Nat.le_of_ble_eq_true rfl) (Nat.le_of_ble_eq_true rfl) (q_gf_of m_o rfl)) ?_
                                refine xv (x_iload 170 d_X8_order__168 rfl rfl) ?_
                                refine xv (x_iaload 171 d_X8_order__170 rfl ((m_g4 (by omega) (by omega)).trans (rfl : _ = some (Value.int (zi a))))) ?_
                                refine xv (x_iadd 172 d_X8_order__171 rfl) ?_
                                refine xv (x_iaload 173 d_X8_order__172 rfl ((m_g1 (by omega) (by omega)).trans (rfl : _ = some (Value.int (zi ((M 1) (8 + a))))))) ?_
                                have q_83 : -1000000 ≤ (M 1) (8 + a) ∧ (M 1) (8 + a) ≤ 1000000 := hr _
                                refine v_if_eq 190 176 d_X8_order__173 rfl rfl (by omega) (by omega) (fun k173 => ?_) (fun k173 => ?_)
                                · refine xv (x_iinc 193 d_X8_order__190 rfl rfl) ?_
                                  show Xv E q_m_X8_order_ 193 [Value.ref am, Value.int (zi d), Value.int (zi a), Value.int (zi b), Value.int (zi c), Value.int (zi 1), Value.int (zi (0 + 1))] [] (q_mw h am (uM (uM (uM (uM M 0 5 0) 4 0 a) 4 1 b) 4 2 c)) Q
                                  refine xv (x_goto 151 d_X8_order__193 rfl) ?_
                                  refine xv (x_iload 153 d_X8_order__151 rfl rfl) ?_
                                  refine xv (x_iload 155 d_X8_order__153 rfl rfl) ?_
                                  refine v_icmp_ge 196 158 d_X8_order__155 rfl rfl (by omega) (by omega) (by omega) (by omega) (fun k155 => ?_) (fun k155 => ?_)
                                  · refine xv (x_aload_n 197 d_X8_order__196 rfl rfl) ?_
                                    obtain ⟨r197, h197, e197, z197, y197⟩ := S_X8_change (E := E) (h := h) (am := am) (M := (uM (uM (uM (uM M 0 5 0) 4 0 a) 4 1 b) 4 2 c)) hc
                                    subst z197
                                    subst y197
                                    refine xv (x_inv0 200 (as := []) d_X8_order__197 rfl c_8_100 rfl (Nat.le_of_ble_eq_true rfl) (Nat.le_of_ble_eq_true rfl) m_o (Nat.le_of_ble_eq_true rfl) (Nat.le_of_ble_eq_true rfl) rfl e197) ?_
                                    generalize hM2 : mch (uM (uM (uM (uM M 0 5 0) 4 0 a) 4 1 b) 4 2 c) = M2
                                    have e2 : M2 1 = M 1 := by rw [← hM2]; exact mch_1
                                    have e4 : M2 4 = (u1 (u1 (u1 (M 4) 0 a) 1 b) 2 c) := by rw [← hM2]; exact mch_s (by decide) (by decide)
                                    have eM : M2 = uA (uA M2 1 (M 1)) 4 (u1 (u1 (u1 (M 4) 0 a) 1 b) 2 c) := by rw [← e2, uA_self, ← e4, uA_self]
                                    rw [eM]
                                    show Xv E q_m_X8_order_ 200 [Value.ref am, Value.int (zi d), Value.int (zi a), Value.int (zi b), Value.int (zi c), Value.int (zi 1), Value.int (zi (0 + 1))] [] (q_mw h am (uA (uA M2 1 (M 1)) 4 (u1 (u1 (u1 (M 4) 0 a) 1 b) 2 c))) Q
                                    refine xv (x_aload_n 201 d_X8_order__200 rfl rfl) ?_
                                    refine xv (x_getfield 204 d_X8_order__201 rfl f_8_9 (Nat.le_of_ble_eq_true rfl) (Nat.le_of_ble_eq_true rfl) (q_gf_of m_o rfl)) ?_
                                    refine xv (x_iconst 205 d_X8_order__204 rfl) ?_
                                    refine xv (x_iaload 206 d_X8_order__205 rfl ((m_g1 (by omega) (by omega)).trans (rfl : _ = some (Value.int (zi ((M 1) 4)))))) ?_
                                    have q_84 : -1000000 ≤ (M 1) 4 ∧ (M 1) 4 ≤ 1000000 := hr _
                                    refine xv (x_istore 208 d_X8_order__206 rfl (Nat.le_of_ble_eq_true rfl)) ?_
                                    show Xv E q_m_X8_order_ 208 [Value.ref am, Value.int (zi d), Value.int (zi a), Value.int (zi b), Value.int (zi c), Value.int (zi 1), Value.int (zi ((M 1) 4))] [] (q_mw h am (uA (uA M2 1 (M 1)) 4 (u1 (u1 (u1 (M 4) 0 a) 1 b) 2 c))) Q
                                    refine xv (x_aload_n 209 d_X8_order__208 rfl rfl) ?_
                                    refine xv (x_getfield 212 d_X8_order__209 rfl f_8_9 (Nat.le_of_ble_eq_true rfl) (Nat.le_of_ble_eq_true rfl) (q_gf_of m_o rfl)) ?_
                                    refine xv (x_iload 214 d_X8_order__212 rfl rfl) ?_
                                    refine xv (x_ins1 217 (as := [Value.int (zi ((M 1) 4))]) d_X8_order__214 rfl c_8_106 rfl (Nat.le_of_ble_eq_true rfl) (Nat.le_of_ble_eq_true rfl) (Nat.le_of_ble_eq_true rfl) rfl (S_X8_order (E := E) (h := h) (am := am) (M := (uA (uA M2 1 (M 1)) 4 (u1 (u1 (u1 (M 4) 0 a) 1 b) 2 c))))) ?_
                                    show Xv E q_m_X8_order_ 217 [Value.ref am, Value.int (zi d), Value.int (zi a), Value.int (zi b), Value.int (zi c), Value.int (zi 1), Value.int (zi ((M 1) 4))] [Value.int (zi (320 + 8 * ((M 1) 4))), Value.ref (am + 1)] (q_mw h am (uA (uA M2 1 (M 1)) 4 (u1 (u1 (u1 (M 4) 0 a) 1 b) 2 c))) Q
                                    refine xv (x_iconst 218 d_X8_order__217 rfl) ?_
                                    refine xv (x_iadd 219 d_X8_order__218 rfl) ?_
                                    refine xv (x_iload_n 220 d_X8_order__219 rfl rfl) ?_
                                    refine xv (x_iastore 221 d_X8_order__220 rfl (m_s1 (by omega) (by omega))) ?_
                                    show Xv E q_m_X8_order_ 221 [Value.ref am, Value.int (zi d), Value.int (zi a), Value.int (zi b), Value.int (zi c), Value.int (zi 1), Value.int (zi ((M 1) 4))] [] (q_mw h am (uM (uA (uA M2 1 (M 1)) 4 (u1 (u1 (u1 (M 4) 0 a) 1 b) 2 c)) 1 ((320 + 8 * ((M 1) 4)) + 0) d)) Q
                                    refine xv (x_aload_n 222 d_X8_order__221 rfl rfl) ?_
                                    refine xv (x_getfield 225 d_X8_order__222 rfl f_8_9 (Nat.le_of_ble_eq_true rfl) (Nat.le_of_ble_eq_true rfl) (q_gf_of m_o rfl)) ?_
                                    refine xv (x_iload 227 d_X8_order__225 rfl rfl) ?_
                                    refine xv (x_ins1 230 (as := [Value.int (zi ((M 1) 4))]) d_X8_order__227 rfl c_8_106 rfl (Nat.le_of_ble_eq_true rfl) (Nat.le_of_ble_eq_true rfl) (Nat.le_of_ble_eq_true rfl) rfl (S_X8_order (E := E) (h := h) (am := am) (M := (uM (uA (uA M2 1 (M 1)) 4 (u1 (u1 (u1 (M 4) 0 a) 1 b) 2 c)) 1 ((320 + 8 * ((M 1) 4)) + 0) d)))) ?_
                                    show Xv E q_m_X8_order_ 230 [Value.ref am, Value.int (zi d), Value.int (zi a), Value.int (zi b), Value.int (zi c), Value.int (zi 1), Value.int (zi ((M 1) 4))] [Value.int (zi (320 + 8 * ((M 1) 4))), Value.ref (am + 1)] (q_mw h am (uM (uA (uA M2 1 (M 1)) 4 (u1 (u1 (u1 (M 4) 0 a) 1 b) 2 c)) 1 ((320 + 8 * ((M 1) 4)) + 0) d)) Q
                                    refine xv (x_iconst 231 d_X8_order__230 rfl) ?_
                                    refine xv (x_iadd 232 d_X8_order__231 rfl) ?_
                                    refine xv (x_iload 234 d_X8_order__232 rfl rfl) ?_
                                    refine xv (x_iastore 235 d_X8_order__234 rfl (m_s1 (by omega) (by omega))) ?_
                                    show Xv E q_m_X8_order_ 235 [Value.ref am, Value.int (zi d), Value.int (zi a), Value.int (zi b), Value.int (zi c), Value.int (zi 1), Value.int (zi ((M 1) 4))] [] (q_mw h am (uM (uM (uA (uA M2 1 (M 1)) 4 (u1 (u1 (u1 (M 4) 0 a) 1 b) 2 c)) 1 ((320 + 8 * ((M 1) 4)) + 0) d) 1 ((320 + 8 * ((M 1) 4)) + 1) 1)) Q
                                    refine xv (x_aload_n 236 d_X8_order__235 rfl rfl) ?_
                                    refine xv (x_getfield 239 d_X8_order__236 rfl f_8_9 (Nat.le_of_ble_eq_true rfl) (Nat.le_of_ble_eq_true rfl) (q_gf_of m_o rfl)) ?_
                                    refine xv (x_iload 241 d_X8_order__239 rfl rfl) ?_
                                    refine xv (x_ins1 244 (as := [Value.int (zi ((M 1) 4))]) d_X8_order__241 rfl c_8_106 rfl (Nat.le_of_ble_eq_true rfl) (Nat.le_of_ble_eq_true rfl) (Nat.le_of_ble_eq_true rfl) rfl (S_X8_order (E := E) (h := h) (am := am) (M := (uM (uM (uA (uA M2 1 (M 1)) 4 (u1 (u1 (u1 (M 4) 0 a) 1 b) 2 c)) 1 ((320 + 8 * ((M 1) 4)) + 0) d) 1 ((320 + 8 * ((M 1) 4)) + 1) 1)))) ?_
                                    show Xv E q_m_X8_order_ 244 [Value.ref am, Value.int (zi d), Value.int (zi a), Value.int (zi b), Value.int (zi c), Value.int (zi 1), Value.int (zi ((M 1) 4))] [Value.int (zi (320 + 8 * ((M 1) 4))), Value.ref (am + 1)] (q_mw h am (uM (uM (uA (uA M2 1 (M 1)) 4 (u1 (u1 (u1 (M 4) 0 a) 1 b) 2 c)) 1 ((320 + 8 * ((M 1) 4)) + 0) d) 1 ((320 + 8 * ((M 1) 4)) + 1) 1)) Q
                                    refine xv (x_iconst 245 d_X8_order__244 rfl) ?_
                                    refine xv (x_iadd 246 d_X8_order__245 rfl) ?_
                                    refine xv (x_iconst 247 d_X8_order__246 rfl) ?_
                                    refine xv (x_iastore 248 d_X8_order__247 rfl (m_s1 (by omega) (by omega))) ?_
                                    show Xv E q_m_X8_order_ 248 [Value.ref am, Value.int (zi d), Value.int (zi a), Value.int (zi b), Value.int (zi c), Value.int (zi 1), Value.int (zi ((M 1) 4))] [] (q_mw h am (uM (uM (uM (uA (uA M2 1 (M 1)) 4 (u1 (u1 (u1 (M 4) 0 a) 1 b) 2 c)) 1 ((320 + 8 * ((M 1) 4)) + 0) d) 1 ((320 + 8 * ((M 1) 4)) + 1) 1) 1 ((320 + 8 * ((M 1) 4)) + 2) 0)) Q
                                    refine xv (x_aload_n 249 d_X8_order__248 rfl rfl) ?_
                                    refine xv (x_getfield 252 d_X8_order__249 rfl f_8_9 (Nat.le_of_ble_eq_true rfl) (Nat.le_of_ble_eq_true rfl) (q_gf_of m_o rfl)) ?_
                                    refine xv (x_iload 254 d_X8_order__252 rfl rfl) ?_
                                    refine xv (x_ins1 257 (as := [Value.int (zi ((M 1) 4))]) d_X8_order__254 rfl c_8_106 rfl (Nat.le_of_ble_eq_true rfl) (Nat.le_of_ble_eq_true rfl) (Nat.le_of_ble_eq_true rfl) rfl (S_X8_order (E := E) (h := h) (am := am) (M := (uM (uM (uM (uA (uA M2 1 (M 1)) 4 (u1 (u1 (u1 (M 4) 0 a) 1 b) 2 c)) 1 ((320 + 8 * ((M 1) 4)) + 0) d) 1 ((320 + 8 * ((M 1) 4)) + 1) 1) 1 ((320 + 8 * ((M 1) 4)) + 2) 0)))) ?_
                                    show Xv E q_m_X8_order_ 257 [Value.ref am, Value.int (zi d), Value.int (zi a), Value.int (zi b), Value.int (zi c), Value.int (zi 1), Value.int (zi ((M 1) 4))] [Value.int (zi (320 + 8 * ((M 1) 4))), Value.ref (am + 1)] (q_mw h am (uM (uM (uM (uA (uA M2 1 (M 1)) 4 (u1 (u1 (u1 (M 4) 0 a) 1 b) 2 c)) 1 ((320 + 8 * ((M 1) 4)) + 0) d) 1 ((320 + 8 * ((M 1) 4)) + 1) 1) 1 ((320 + 8 * ((M 1) 4)) + 2) 0)) Q
                                    refine xv (x_iconst 258 d_X8_order__257 rfl) ?_
                                    refine xv (x_iadd 259 d_X8_order__258 rfl) ?_
                                    refine xv (x_iconst 260 d_X8_order__259 rfl) ?_
                                    refine xv (x_iastore 261 d_X8_order__260 rfl (m_s1 (by omega) (by omega))) ?_
                                    show Xv E q_m_X8_order_ 261 [Value.ref am, Value.int (zi d), Value.int (zi a), Value.int (zi b), Value.int (zi c), Value.int (zi 1), Value.int (zi ((M 1) 4))] [] (q_mw h am (uM (uM (uM (uM (uA (uA M2 1 (M 1)) 4 (u1 (u1 (u1 (M 4) 0 a) 1 b) 2 c)) 1 ((320 + 8 * ((M 1) 4)) + 0) d) 1 ((320 + 8 * ((M 1) 4)) + 1) 1) 1 ((320 + 8 * ((M 1) 4)) + 2) 0) 1 ((320 + 8 * ((M 1) 4)) + 3) (-1))) Q
                                    refine xv (x_aload_n 262 d_X8_order__261 rfl rfl) ?_
                                    refine xv (x_getfield 265 d_X8_order__262 rfl f_8_9 (Nat.le_of_ble_eq_true rfl) (Nat.le_of_ble_eq_true rfl) (q_gf_of m_o rfl)) ?_
                                    refine xv (x_iload 267 d_X8_order__265 rfl rfl) ?_
                                    refine xv (x_ins1 270 (as := [Value.int (zi ((M 1) 4))]) d_X8_order__267 rfl c_8_106 rfl (Nat.le_of_ble_eq_true rfl) (Nat.le_of_ble_eq_true rfl) (Nat.le_of_ble_eq_true rfl) rfl (S_X8_order (E := E) (h := h) (am := am) (M := (uM (uM (uM (uM (uA (uA M2 1 (M 1)) 4 (u1 (u1 (u1 (M 4) 0 a) 1 b) 2 c)) 1 ((320 + 8 * ((M 1) 4)) + 0) d) 1 ((320 + 8 * ((M 1) 4)) + 1) 1) 1 ((320 + 8 * ((M 1) 4)) + 2) 0) 1 ((320 + 8 * ((M 1) 4)) + 3) (-1))))) ?_
                                    show Xv E q_m_X8_order_ 270 [Value.ref am, Value.int (zi d), Value.int (zi a), Value.int (zi b), Value.int (zi c), Value.int (zi 1), Value.int (zi ((M 1) 4))] [Value.int (zi (320 + 8 * ((M 1) 4))), Value.ref (am + 1)] (q_mw h am (uM (uM (uM (uM (uA (uA M2 1 (M 1)) 4 (u1 (u1 (u1 (M 4) 0 a) 1 b) 2 c)) 1 ((320 + 8 * ((M 1) 4)) + 0) d) 1 ((320 + 8 * ((M 1) 4)) + 1) 1) 1 ((320 + 8 * ((M 1) 4)) + 2) 0) 1 ((320 + 8 * ((M 1) 4)) + 3) (-1))) Q
                                    refine xv (x_iconst 271 d_X8_order__270 rfl) ?_
                                    refine xv (x_iadd 272 d_X8_order__271 rfl) ?_
                                    refine xv (x_iconst 273 d_X8_order__272 rfl) ?_
                                    refine xv (x_iastore 274 d_X8_order__273 rfl (m_s1 (by omega) (by omega))) ?_
                                    show Xv E q_m_X8_order_ 274 [Value.ref am, Value.int (zi d), Value.int (zi a), Value.int (zi b), Value.int (zi c), Value.int (zi 1), Value.int (zi ((M 1) 4))] [] (q_mw h am (uM (uM (uM (uM (uM (uA (uA M2 1 (M 1)) 4 (u1 (u1 (u1 (M 4) 0 a) 1 b) 2 c)) 1 ((320 + 8 * ((M 1) 4)) + 0) d) 1 ((320 + 8 * ((M 1) 4)) + 1) 1) 1 ((320 + 8 * ((M 1) 4)) + 2) 0) 1 ((320 + 8 * ((M 1) 4)) + 3) (-1)) 1 ((320 + 8 * ((M 1) 4)) + 4) (-1))) Q
                                    refine xv (x_aload_n 275 d_X8_order__274 rfl rfl) ?_
                                    refine xv (x_getfield 278 d_X8_order__275 rfl f_8_19 (Nat.le_of_ble_eq_true rfl) (Nat.le_of_ble_eq_true rfl) (q_gf_of m_o rfl)) ?_
                                    refine xv (x_iconst 279 d_X8_order__278 rfl) ?_
                                    refine xv (x_aload_n 280 d_X8_order__279 rfl rfl) ?_
                                    refine xv (x_getfield 283 d_X8_order__280 rfl f_8_9 (Nat.le_of_ble_eq_true rfl) (Nat.le_of_ble_eq_true rfl) (q_gf_of m_o rfl)) ?_
                                    refine xv (x_iload 285 d_X8_order__283 rfl rfl) ?_
                                    refine xv (x_ins1 288 (as := [Value.int (zi ((M 1) 4))]) d_X8_order__285 rfl c_8_106 rfl (Nat.le_of_ble_eq_true rfl) (Nat.le_of_ble_eq_true rfl) (Nat.le_of_ble_eq_true rfl) rfl (S_X8_order (E := E) (h := h) (am := am) (M := (uM (uM (uM (uM (uM (uA (uA M2 1 (M 1)) 4 (u1 (u1 (u1 (M 4) 0 a) 1 b) 2 c)) 1 ((320 + 8 * ((M 1) 4)) + 0) d) 1 ((320 + 8 * ((M 1) 4)) + 1) 1) 1 ((320 + 8 * ((M 1) 4)) + 2) 0) 1 ((320 + 8 * ((M 1) 4)) + 3) (-1)) 1 ((320 + 8 * ((M 1) 4)) + 4) (-1))))) ?_
                                    show Xv E q_m_X8_order_ 288 [Value.ref am, Value.int (zi d), Value.int (zi a), Value.int (zi b), Value.int (zi c), Value.int (zi 1), Value.int (zi ((M 1) 4))] [Value.int (zi (320 + 8 * ((M 1) 4))), Value.ref (am + 1), Value.int (zi 0), Value.ref (am + 4)] (q_mw h am (uM (uM (uM (uM (uM (uA (uA M2 1 (M 1)) 4 (u1 (u1 (u1 (M 4) 0 a) 1 b) 2 c)) 1 ((320 + 8 * ((M 1) 4)) + 0) d) 1 ((320 + 8 * ((M 1) 4)) + 1) 1) 1 ((320 + 8 * ((M 1) 4)) + 2) 0) 1 ((320 + 8 * ((M 1) 4)) + 3) (-1)) 1 ((320 + 8 * ((M 1) 4)) + 4) (-1))) Q
                                    refine xv (x_iconst 289 d_X8_order__288 rfl) ?_
                                    refine xv (x_iadd 290 d_X8_order__289 rfl) ?_
                                    refine xv (x_iconst 291 d_X8_order__290 rfl) ?_
                                    refine xv (x_copy 294 d_X8_order__291 rfl rfl rfl (Nat.le_of_ble_eq_true rfl) (Nat.le_of_ble_eq_true rfl) (Nat.le_of_ble_eq_true rfl) (m_cpy 4 1 m_a4 m_a1 m_w1 (by omega) (by omega) (by omega) (by omega) (by omega) (by decide) (by decide))) ?_
                                    show Xv E q_m_X8_order_ 294 [Value.ref am, Value.int (zi d), Value.int (zi a), Value.int (zi b), Value.int (zi c), Value.int (zi 1), Value.int (zi ((M 1) 4))] [] (q_mw h am (uA (uM (uM (uM (uM (uM (uA (uA M2 1 (M 1)) 4 (u1 (u1 (u1 (M 4) 0 a) 1 b) 2 c)) 1 ((320 + 8 * ((M 1) 4)) + 0) d) 1 ((320 + 8 * ((M 1) 4)) + 1) 1) 1 ((320 + 8 * ((M 1) 4)) + 2) 0) 1 ((320 + 8 * ((M 1) 4)) + 3) (-1)) 1 ((320 + 8 * ((M 1) 4)) + 4) (-1)) 1 (cpI (u1 (u1 (u1 (M 4) 0 a) 1 b) 2 c) (u1 (u1 (u1 (u1 (u1 (M 1) ((320 + 8 * ((M 1) 4)) + 0) d) ((320 + 8 * ((M 1) 4)) + 1) 1) ((320 + 8 * ((M 1) 4)) + 2) 0) ((320 + 8 * ((M 1) 4)) + 3) (-1)) ((320 + 8 * ((M 1) 4)) + 4) (-1)) 0 ((320 + 8 * ((M 1) 4)) + 5) 3))) Q
                                    refine xv (x_aload_n 295 d_X8_order__294 rfl rfl) ?_
                                    refine xv (x_getfield 298 d_X8_order__295 rfl f_8_9 (Nat.le_of_ble_eq_true rfl) (Nat.le_of_ble_eq_true rfl) (q_gf_of m_o rfl)) ?_
                                    refine xv (x_iconst 299 d_X8_order__298 rfl) ?_
                                    refine xv (x_dup2 300 d_X8_order__299 rfl rfl rfl) ?_
                                    refine xv (x_iaload 301 d_X8_order__300 rfl ((m_g1 (by omega) (by omega)).trans (rfl : _ = some (Value.int (zi ((cpI (u1 (u1 (u1 (M 4) 0 a) 1 b) 2 c) (u1 (u1 (u1 (u1 (u1 (M 1) ((320 + 8 * ((M 1) 4)) + 0) d) ((320 + 8 * ((M 1) 4)) + 1) 1) ((320 + 8 * ((M 1) 4)) + 2) 0) ((320 + 8 * ((M 1) 4)) + 3) (-1)) ((320 + 8 * ((M 1) 4)) + 4) (-1)) 0 ((320 + 8 * ((M 1) 4)) + 5) 3) 4)))))) ?_
                                    refine xv (x_iconst 302 d_X8_order__301 rfl) ?_
                                    refine xv (x_iadd 303 d_X8_order__302 rfl) ?_
                                    refine xv (x_iastore 304 d_X8_order__303 rfl (m_s1 (by omega) (by omega))) ?_
                                    show Xv E q_m_X8_order_ 304 [Value.ref am, Value.int (zi d), Value.int (zi a), Value.int (zi b), Value.int (zi c), Value.int (zi 1), Value.int (zi ((M 1) 4))] [] (q_mw h am (uM (uA (uM (uM (uM (uM (uM (uA (uA M2 1 (M 1)) 4 (u1 (u1 (u1 (M 4) 0 a) 1 b) 2 c)) 1 ((320 + 8 * ((M 1) 4)) + 0) d) 1 ((320 + 8 * ((M 1) 4)) + 1) 1) 1 ((320 + 8 * ((M 1) 4)) + 2) 0) 1 ((320 + 8 * ((M 1) 4)) + 3) (-1)) 1 ((320 + 8 * ((M 1) 4)) + 4) (-1)) 1 (cpI (u1 (u1 (u1 (M 4) 0 a) 1 b) 2 c) (u1 (u1 (u1 (u1 (u1 (M 1) ((320 + 8 * ((M 1) 4)) + 0) d) ((320 + 8 * ((M 1) 4)) + 1) 1) ((320 + 8 * ((M 1) 4)) + 2) 0) ((320 + 8 * ((M 1) 4)) + 3) (-1)) ((320 + 8 * ((M 1) 4)) + 4) (-1)) 0 ((320 + 8 * ((M 1) 4)) + 5) 3)) 1 4 (((cpI (u1 (u1 (u1 (M 4) 0 a) 1 b) 2 c) (u1 (u1 (u1 (u1 (u1 (M 1) ((320 + 8 * ((M 1) 4)) + 0) d) ((320 + 8 * ((M 1) 4)) + 1) 1) ((320 + 8 * ((M 1) 4)) + 2) 0) ((320 + 8 * ((M 1) 4)) + 3) (-1)) ((320 + 8 * ((M 1) 4)) + 4) (-1)) 0 ((320 + 8 * ((M 1) 4)) + 5) 3) 4) + 1))) Q
                                    refine xv (x_iload 306 d_X8_order__304 rfl rfl) ?_
                                    refine xv_r (x_ireturn d_X8_order__306 rfl rfl) ?_
                                    have er : mOrd (M 1) d a b c = (0, 0) := by first | (exfalso; omega) | (unfold mOrd; repeat (first | rw [if_pos (by omega)] | rw [if_neg (by omega)]))
                                    have ec : cntO b c = 1 := by first | (exfalso; omega) | (unfold cntO; repeat (first | rw [if_pos (by omega)] | rw [if_neg (by omega)]))
                                    refine hQ _ _ ?_
                                    unfold mMu2
                                    rw [er, if_pos rfl, ec]
                                    refine ⟨rfl, ?_⟩
                                    unfold lnO
                                    rw [hM2, ← eM]
                                    simp only [uM_uA, uA_uA, uA_eq]
                                    rfl
                                  · omega
                                · refine xv (x_aload_n 177 d_X8_order__176 rfl rfl) ?_
                                  refine xv (x_bipush 179 d_X8_order__177 rfl rfl) ?_
                                  refine xv (x_aload_n 180 d_X8_order__179 rfl rfl) ?_
                                  refine xv (x_getfield 183 d_X8_order__180 rfl f_8_19 (Nat.le_of_ble_eq_true rfl) (Nat.le_of_ble_eq_true rfl) (q_gf_of m_o rfl)) ?_
                                  refine xv (x_iload 185 d_X8_order__183 rfl rfl) ?_
                                  refine xv (x_iaload 186 d_X8_order__185 rfl ((m_g4 (by omega) (by omega)).trans (rfl : _ = some (Value.int (zi a))))) ?_
                                  obtain ⟨r186, h186, e186, z186, y186⟩ := S_X8_refuse (E := E) (h := h) (am := am) (M := (uM (uM (uM (uM M 0 5 0) 4 0 a) 4 1 b) 4 2 c)) (y := 12) (z := a) 
                                  subst z186
                                  subst y186
                                  refine xv (x_inv1 189 (as := [Value.int (zi 12), Value.int (zi a)]) d_X8_order__186 rfl c_8_90 rfl (Nat.le_of_ble_eq_true rfl) (Nat.le_of_ble_eq_true rfl) m_o (Nat.le_of_ble_eq_true rfl) (Nat.le_of_ble_eq_true rfl) rfl e186) ?_
                                  show Xv E q_m_X8_order_ 189 [Value.ref am, Value.int (zi d), Value.int (zi a), Value.int (zi b), Value.int (zi c), Value.int (zi 1), Value.int (zi 0)] [Value.int (zi 0)] (q_mw h am (uM (uM (uM (uM (uM (uM (uM M 0 5 0) 4 0 a) 4 1 b) 4 2 c) 0 5 1) 0 6 12) 0 7 a)) Q
                                  refine xv_r (x_ireturn d_X8_order__189 rfl rfl) ?_
                                  have er : mOrd (M 1) d a b c = (12, a) := by first | (exfalso; omega) | (unfold mOrd; repeat (first | rw [if_pos (by omega)] | rw [if_neg (by omega)]))
                                  refine hQ _ _ ?_
                                  unfold mMu2
                                  rw [er]
                                  exact ⟨rfl, rfl⟩
                            · refine xv (x_aload_n 142 d_X8_order__141 rfl rfl) ?_
                              refine xv (x_iconst 143 d_X8_order__142 rfl) ?_
                              refine xv (x_iconst 144 d_X8_order__143 rfl) ?_
                              obtain ⟨r144, h144, e144, z144, y144⟩ := S_X8_refuse (E := E) (h := h) (am := am) (M := (uM (uM (uM (uM M 0 5 0) 4 0 a) 4 1 b) 4 2 c)) (y := 3) (z := 0) 
                              subst z144
                              subst y144
                              refine xv (x_inv1 147 (as := [Value.int (zi 3), Value.int (zi 0)]) d_X8_order__144 rfl c_8_90 rfl (Nat.le_of_ble_eq_true rfl) (Nat.le_of_ble_eq_true rfl) m_o (Nat.le_of_ble_eq_true rfl) (Nat.le_of_ble_eq_true rfl) rfl e144) ?_
                              show Xv E q_m_X8_order_ 147 [Value.ref am, Value.int (zi d), Value.int (zi a), Value.int (zi b), Value.int (zi c), Value.int (zi 1), Value.int (zi (((0 + 1) + 1) + 1))] [Value.int (zi 0)] (q_mw h am (uM (uM (uM (uM (uM (uM (uM M 0 5 0) 4 0 a) 4 1 b) 4 2 c) 0 5 1) 0 6 3) 0 7 0)) Q
                              refine xv_r (x_ireturn d_X8_order__147 rfl rfl) ?_
                              have er : mOrd (M 1) d a b c = (3, 0) := by first | (exfalso; omega) | (unfold mOrd; repeat (first | rw [if_pos (by omega)] | rw [if_neg (by omega)]))
                              refine hQ _ _ ?_
                              unfold mMu2
                              rw [er]
                              exact ⟨rfl, rfl⟩
                          · refine xv (x_aload_n 124 d_X8_order__123 rfl rfl) ?_
                            refine xv (x_iconst 125 d_X8_order__124 rfl) ?_
                            refine xv (x_iconst 126 d_X8_order__125 rfl) ?_
                            obtain ⟨r126, h126, e126, z126, y126⟩ := S_X8_refuse (E := E) (h := h) (am := am) (M := (uM (uM (uM (uM M 0 5 0) 4 0 a) 4 1 b) 4 2 c)) (y := 2) (z := 0) 
                            subst z126
                            subst y126
                            refine xv (x_inv1 129 (as := [Value.int (zi 2), Value.int (zi 0)]) d_X8_order__126 rfl c_8_90 rfl (Nat.le_of_ble_eq_true rfl) (Nat.le_of_ble_eq_true rfl) m_o (Nat.le_of_ble_eq_true rfl) (Nat.le_of_ble_eq_true rfl) rfl e126) ?_
                            show Xv E q_m_X8_order_ 129 [Value.ref am, Value.int (zi d), Value.int (zi a), Value.int (zi b), Value.int (zi c), Value.int (zi 1), Value.int (zi (((0 + 1) + 1) + 1))] [Value.int (zi 0)] (q_mw h am (uM (uM (uM (uM (uM (uM (uM M 0 5 0) 4 0 a) 4 1 b) 4 2 c) 0 5 1) 0 6 2) 0 7 0)) Q
                            refine xv_r (x_ireturn d_X8_order__129 rfl rfl) ?_
                            have er : mOrd (M 1) d a b c = (2, 0) := by first | (exfalso; omega) | (unfold mOrd; repeat (first | rw [if_pos (by omega)] | rw [if_neg (by omega)]))
                            refine hQ _ _ ?_
                            unfold mMu2
                            rw [er]
                            exact ⟨rfl, rfl⟩
                    · omega
                  · refine xv (x_aload_n 89 d_X8_order__88 rfl rfl) ?_
                    refine xv (x_iconst 90 d_X8_order__89 rfl) ?_
                    refine xv (x_iconst 91 d_X8_order__90 rfl) ?_
                    obtain ⟨r91, h91, e91, z91, y91⟩ := S_X8_refuse (E := E) (h := h) (am := am) (M := (uM (uM (uM (uM M 0 5 0) 4 0 a) 4 1 b) 4 2 c)) (y := 1) (z := 0) 
                    subst z91
                    subst y91
                    refine xv (x_inv1 94 (as := [Value.int (zi 1), Value.int (zi 0)]) d_X8_order__91 rfl c_8_90 rfl (Nat.le_of_ble_eq_true rfl) (Nat.le_of_ble_eq_true rfl) m_o (Nat.le_of_ble_eq_true rfl) (Nat.le_of_ble_eq_true rfl) rfl e91) ?_
                    show Xv E q_m_X8_order_ 94 [Value.ref am, Value.int (zi d), Value.int (zi a), Value.int (zi b), Value.int (zi c), Value.int (zi 1), Value.int (zi ((0 + 1) + 1))] [Value.int (zi 0)] (q_mw h am (uM (uM (uM (uM (uM (uM (uM M 0 5 0) 4 0 a) 4 1 b) 4 2 c) 0 5 1) 0 6 1) 0 7 0)) Q
                    refine xv_r (x_ireturn d_X8_order__94 rfl rfl) ?_
                    have er : mOrd (M 1) d a b c = (1, 0) := by first | (exfalso; omega) | (unfold mOrd; repeat (first | rw [if_pos (by omega)] | rw [if_neg (by omega)]))
                    refine hQ _ _ ?_
                    unfold mMu2
                    rw [er]
                    exact ⟨rfl, rfl⟩
          · replace k69 := bI_0.mp k69
            refine xv (x_iload 74 d_X8_order__72 rfl rfl) ?_
            refine v_if_eq 88 77 d_X8_order__74 rfl rfl (by omega) (by omega) (fun k74 => ?_) (fun k74 => ?_)
            · omega
            · refine xv (x_aload_n 78 d_X8_order__77 rfl rfl) ?_
              refine xv (x_getfield 81 d_X8_order__78 rfl f_8_19 (Nat.le_of_ble_eq_true rfl) (Nat.le_of_ble_eq_true rfl) (q_gf_of m_o rfl)) ?_
              refine xv (x_iload 83 d_X8_order__81 rfl rfl) ?_
              refine xv (x_iaload 84 d_X8_order__83 rfl ((m_g4 (by omega) (by omega)).trans (rfl : _ = some (Value.int (zi b))))) ?_
              refine xv (x_iconst 85 d_X8_order__84 rfl) ?_
              refine v_icmp_eq 95 88 d_X8_order__85 rfl rfl (by omega) (by omega) (by omega) (by omega) (fun k85 => ?_) (fun k85 => ?_)
              · refine xv (x_iinc 98 d_X8_order__95 rfl rfl) ?_
                show Xv E q_m_X8_order_ 98 [Value.ref am, Value.int (zi d), Value.int (zi a), Value.int (zi b), Value.int (zi c), Value.int (zi 1), Value.int (zi ((0 + 1) + 1))] [] (q_mw h am (uM (uM (uM (uM M 0 5 0) 4 0 a) 4 1 b) 4 2 c)) Q
                refine xv (x_goto 52 d_X8_order__98 rfl) ?_
                refine xv (x_iload 54 d_X8_order__52 rfl rfl) ?_
                refine xv (x_iconst 55 d_X8_order__54 rfl) ?_
                refine v_icmp_ge 101 58 d_X8_order__55 rfl rfl (by omega) (by omega) (by omega) (by omega) (fun k55 => ?_) (fun k55 => ?_)
                · omega
                · refine xv (x_aload_n 59 d_X8_order__58 rfl rfl) ?_
                  refine xv (x_aload_n 60 d_X8_order__59 rfl rfl) ?_
                  refine xv (x_getfield 63 d_X8_order__60 rfl f_8_19 (Nat.le_of_ble_eq_true rfl) (Nat.le_of_ble_eq_true rfl) (q_gf_of m_o rfl)) ?_
                  refine xv (x_iload 65 d_X8_order__63 rfl rfl) ?_
                  refine xv (x_iaload 66 d_X8_order__65 rfl ((m_g4 (by omega) (by omega)).trans (rfl : _ = some (Value.int (zi c))))) ?_
                  refine xv (x_inv1 69 (as := [Value.int (zi c)]) d_X8_order__66 rfl c_8_86 rfl (Nat.le_of_ble_eq_true rfl) (Nat.le_of_ble_eq_true rfl) m_o (Nat.le_of_ble_eq_true rfl) (Nat.le_of_ble_eq_true rfl) rfl (S_X8_isCell (E := E) (h := h) (am := am) (M := (uM (uM (uM (uM M 0 5 0) 4 0 a) 4 1 b) 4 2 c)) hR (by first | omega | (rw [show (uM (uM (uM (uM M 0 5 0) 4 0 a) 4 1 b) 4 2 c) 1 = (M 1) from rfl]; omega)) (by first | omega | (rw [show (uM (uM (uM (uM M 0 5 0) 4 0 a) 4 1 b) 4 2 c) 1 = (M 1) from rfl]; omega)))) ?_
                  show Xv E q_m_X8_order_ 69 [Value.ref am, Value.int (zi d), Value.int (zi a), Value.int (zi b), Value.int (zi c), Value.int (zi 1), Value.int (zi ((0 + 1) + 1))] [Value.int (zi (bI (isC (M 1) c)))] (q_mw h am (uM (uM (uM (uM M 0 5 0) 4 0 a) 4 1 b) 4 2 c)) Q
                  refine v_if_ne 95 72 d_X8_order__69 rfl rfl (by have := bI_r (isC (M 1) c); omega) (by have := bI_r (isC (M 1) c); omega) (fun k69 => ?_) (fun k69 => ?_)
                  · replace k69 := bI_n0.mp k69
                    refine xv (x_iinc 98 d_X8_order__95 rfl rfl) ?_
                    show Xv E q_m_X8_order_ 98 [Value.ref am, Value.int (zi d), Value.int (zi a), Value.int (zi b), Value.int (zi c), Value.int (zi 1), Value.int (zi (((0 + 1) + 1) + 1))] [] (q_mw h am (uM (uM (uM (uM M 0 5 0) 4 0 a) 4 1 b) 4 2 c)) Q
                    refine xv (x_goto 52 d_X8_order__98 rfl) ?_
                    refine xv (x_iload 54 d_X8_order__52 rfl rfl) ?_
                    refine xv (x_iconst 55 d_X8_order__54 rfl) ?_
                    refine v_icmp_ge 101 58 d_X8_order__55 rfl rfl (by omega) (by omega) (by omega) (by omega) (fun k55 => ?_) (fun k55 => ?_)
                    · refine xv (x_iload_n 102 d_X8_order__101 rfl rfl) ?_
                      refine xv (x_iconst 103 d_X8_order__102 rfl) ?_
                      refine xv (x_sipush 106 d_X8_order__103 rfl rfl) ?_
                      refine xv (x_ins1 109 (as := [Value.int (zi d), Value.int (zi 0), Value.int (zi 999)]) d_X8_order__106 rfl c_8_71 rfl (Nat.le_of_ble_eq_true rfl) (Nat.le_of_ble_eq_true rfl) (Nat.le_of_ble_eq_true rfl) rfl (S_X8_in (E := E) (h := h) (am := am) (M := (uM (uM (uM (uM M 0 5 0) 4 0 a) 4 1 b) 4 2 c)) (by first | omega | (rw [show (uM (uM (uM (uM M 0 5 0) 4 0 a) 4 1 b) 4 2 c) 1 = (M 1) from rfl]; omega)) (by first | omega | (rw [show (uM (uM (uM (uM M 0 5 0) 4 0 a) 4 1 b) 4 2 c) 1 = (M 1) from rfl]; omega)) (by first | omega | (rw [show (uM (uM (uM (uM M 0 5 0) 4 0 a) 4 1 b) 4 2 c) 1 = (M 1) from rfl]; omega)) (by first | omega | (rw [show (uM (uM (uM (uM M 0 5 0) 4 0 a) 4 1 b) 4 2 c) 1 = (M 1) from rfl]; omega)) (by first | omega | (rw [show (uM (uM (uM (uM M 0 5 0) 4 0 a) 4 1 b) 4 2 c) 1 = (M 1) from rfl]; omega)) (by first | omega | (rw [show (uM (uM (uM (uM M 0 5 0) 4 0 a) 4 1 b) 4 2 c) 1 = (M 1) from rfl]; omega)))) ?_
                      show Xv E q_m_X8_order_ 109 [Value.ref am, Value.int (zi d), Value.int (zi a), Value.int (zi b), Value.int (zi c), Value.int (zi 1), Value.int (zi (((0 + 1) + 1) + 1))] [Value.int (zi (bI (inn d 0 999)))] (q_mw h am (uM (uM (uM (uM M 0 5 0) 4 0 a) 4 1 b) 4 2 c)) Q
                      refine v_if_eq 123 112 d_X8_order__109 rfl rfl (by have := bI_r (inn d 0 999); omega) (by have := bI_r (inn d 0 999); omega) (fun k109 => ?_) (fun k109 => ?_)
                      · replace k109 := bI_0.mp k109
                        refine xv (x_aload_n 124 d_X8_order__123 rfl rfl) ?_
                        refine xv (x_iconst 125 d_X8_order__124 rfl) ?_
                        refine xv (x_iconst 126 d_X8_order__125 rfl) ?_
                        obtain ⟨r126, h126, e126, z126, y126⟩ := S_X8_refuse (E := E) (h := h) (am := am) (M := (uM (uM (uM (uM M 0 5 0) 4 0 a) 4 1 b) 4 2 c)) (y := 2) (z := 0) 
                        subst z126
                        subst y126
                        refine xv (x_inv1 129 (as := [Value.int (zi 2), Value.int (zi 0)]) d_X8_order__126 rfl c_8_90 rfl (Nat.le_of_ble_eq_true rfl) (Nat.le_of_ble_eq_true rfl) m_o (Nat.le_of_ble_eq_true rfl) (Nat.le_of_ble_eq_true rfl) rfl e126) ?_
                        show Xv E q_m_X8_order_ 129 [Value.ref am, Value.int (zi d), Value.int (zi a), Value.int (zi b), Value.int (zi c), Value.int (zi 1), Value.int (zi (((0 + 1) + 1) + 1))] [Value.int (zi 0)] (q_mw h am (uM (uM (uM (uM (uM (uM (uM M 0 5 0) 4 0 a) 4 1 b) 4 2 c) 0 5 1) 0 6 2) 0 7 0)) Q
                        refine xv_r (x_ireturn d_X8_order__129 rfl rfl) ?_
                        have er : mOrd (M 1) d a b c = (2, 0) := by first | (exfalso; omega) | (unfold mOrd; repeat (first | rw [if_pos (by omega)] | rw [if_neg (by omega)]))
                        refine hQ _ _ ?_
                        unfold mMu2
                        rw [er]
                        exact ⟨rfl, rfl⟩
                      · replace k109 := bI_n0.mp k109
                        refine xv (x_iload_n 113 d_X8_order__112 rfl rfl) ?_
                        refine xv (x_iconst 114 d_X8_order__113 rfl) ?_
                        refine v_icmp_ne 130 117 d_X8_order__114 rfl rfl (by omega) (by omega) (by omega) (by omega) (fun k114 => ?_) (fun k114 => ?_)
                        · refine xv (x_aload_n 131 d_X8_order__130 rfl rfl) ?_
                          refine xv (x_getfield 134 d_X8_order__131 rfl f_8_9 (Nat.le_of_ble_eq_true rfl) (Nat.le_of_ble_eq_true rfl) (q_gf_of m_o rfl)) ?_
                          refine xv (x_iconst 135 d_X8_order__134 rfl) ?_
                          refine xv (x_iaload 136 d_X8_order__135 rfl ((m_g1 (by omega) (by omega)).trans (rfl : _ = some (Value.int (zi ((M 1) 4)))))) ?_
                          have q_85 : -1000000 ≤ (M 1) 4 ∧ (M 1) 4 ≤ 1000000 := hr _
                          refine xv (x_bipush 138 d_X8_order__136 rfl rfl) ?_
                          refine v_icmp_ne 148 141 d_X8_order__138 rfl rfl (by omega) (by omega) (by omega) (by omega) (fun k138 => ?_) (fun k138 => ?_)
                          · refine xv (x_iconst 149 d_X8_order__148 rfl) ?_
                            refine xv (x_istore 151 d_X8_order__149 rfl (Nat.le_of_ble_eq_true rfl)) ?_
                            show Xv E q_m_X8_order_ 151 [Value.ref am, Value.int (zi d), Value.int (zi a), Value.int (zi b), Value.int (zi c), Value.int (zi 1), Value.int (zi 0)] [] (q_mw h am (uM (uM (uM (uM M 0 5 0) 4 0 a) 4 1 b) 4 2 c)) Q
                            refine xv (x_iload 153 d_X8_order__151 rfl rfl) ?_
                            refine xv (x_iload 155 d_X8_order__153 rfl rfl) ?_
                            refine v_icmp_ge 196 158 d_X8_order__155 rfl rfl (by omega) (by omega) (by omega) (by omega) (fun k155 => ?_) (fun k155 => ?_)
                            · omega
                            · refine xv (x_aload_n 159 d_X8_order__158 rfl rfl) ?_
                              refine xv (x_getfield 162 d_X8_order__159 rfl f_8_9 (Nat.le_of_ble_eq_true rfl) (Nat.le_of_ble_eq_true rfl) (q_gf_of m_o rfl)) ?_
                              refine xv (x_bipush 164 d_X8_order__162 rfl rfl) ?_
                              refine xv (x_aload_n 165 d_X8_order__164 rfl rfl) ?_
                              refine xv (x_getfield 168 d_X8_order__165 rfl f_8_19 (Nat.le_of_ble_eq_true rfl) (Nat.le_of_ble_eq_true rfl) (q_gf_of m_o rfl)) ?_
                              refine xv (x_iload 170 d_X8_order__168 rfl rfl) ?_
                              refine xv (x_iaload 171 d_X8_order__170 rfl ((m_g4 (by omega) (by omega)).trans (rfl : _ = some (Value.int (zi a))))) ?_
                              refine xv (x_iadd 172 d_X8_order__171 rfl) ?_
                              refine xv (x_iaload 173 d_X8_order__172 rfl ((m_g1 (by omega) (by omega)).trans (rfl : _ = some (Value.int (zi ((M 1) (8 + a))))))) ?_
                              have q_86 : -1000000 ≤ (M 1) (8 + a) ∧ (M 1) (8 + a) ≤ 1000000 := hr _
                              refine v_if_eq 190 176 d_X8_order__173 rfl rfl (by omega) (by omega) (fun k173 => ?_) (fun k173 => ?_)
                              · refine xv (x_iinc 193 d_X8_order__190 rfl rfl) ?_
                                show Xv E q_m_X8_order_ 193 [Value.ref am, Value.int (zi d), Value.int (zi a), Value.int (zi b), Value.int (zi c), Value.int (zi 1), Value.int (zi (0 + 1))] [] (q_mw h am (uM (uM (uM (uM M 0 5 0) 4 0 a) 4 1 b) 4 2 c)) Q
                                refine xv (x_goto 151 d_X8_order__193 rfl) ?_
                                refine xv (x_iload 153 d_X8_order__151 rfl rfl) ?_
                                refine xv (x_iload 155 d_X8_order__153 rfl rfl) ?_
                                refine v_icmp_ge 196 158 d_X8_order__155 rfl rfl (by omega) (by omega) (by omega) (by omega) (fun k155 => ?_) (fun k155 => ?_)
                                · refine xv (x_aload_n 197 d_X8_order__196 rfl rfl) ?_
                                  obtain ⟨r197, h197, e197, z197, y197⟩ := S_X8_change (E := E) (h := h) (am := am) (M := (uM (uM (uM (uM M 0 5 0) 4 0 a) 4 1 b) 4 2 c)) hc
                                  subst z197
                                  subst y197
                                  refine xv (x_inv0 200 (as := []) d_X8_order__197 rfl c_8_100 rfl (Nat.le_of_ble_eq_true rfl) (Nat.le_of_ble_eq_true rfl) m_o (Nat.le_of_ble_eq_true rfl) (Nat.le_of_ble_eq_true rfl) rfl e197) ?_
                                  generalize hM2 : mch (uM (uM (uM (uM M 0 5 0) 4 0 a) 4 1 b) 4 2 c) = M2
                                  have e2 : M2 1 = M 1 := by rw [← hM2]; exact mch_1
                                  have e4 : M2 4 = (u1 (u1 (u1 (M 4) 0 a) 1 b) 2 c) := by rw [← hM2]; exact mch_s (by decide) (by decide)
                                  have eM : M2 = uA (uA M2 1 (M 1)) 4 (u1 (u1 (u1 (M 4) 0 a) 1 b) 2 c) := by rw [← e2, uA_self, ← e4, uA_self]
                                  rw [eM]
                                  show Xv E q_m_X8_order_ 200 [Value.ref am, Value.int (zi d), Value.int (zi a), Value.int (zi b), Value.int (zi c), Value.int (zi 1), Value.int (zi (0 + 1))] [] (q_mw h am (uA (uA M2 1 (M 1)) 4 (u1 (u1 (u1 (M 4) 0 a) 1 b) 2 c))) Q
                                  refine xv (x_aload_n 201 d_X8_order__200 rfl rfl) ?_
                                  refine xv (x_getfield 204 d_X8_order__201 rfl f_8_9 (Nat.le_of_ble_eq_true rfl) (Nat.le_of_ble_eq_true rfl) (q_gf_of m_o rfl)) ?_
                                  refine xv (x_iconst 205 d_X8_order__204 rfl) ?_
                                  refine xv (x_iaload 206 d_X8_order__205 rfl ((m_g1 (by omega) (by omega)).trans (rfl : _ = some (Value.int (zi ((M 1) 4)))))) ?_
                                  have q_87 : -1000000 ≤ (M 1) 4 ∧ (M 1) 4 ≤ 1000000 := hr _
                                  refine xv (x_istore 208 d_X8_order__206 rfl (Nat.le_of_ble_eq_true rfl)) ?_
                                  show Xv E q_m_X8_order_ 208 [Value.ref am, Value.int (zi d), Value.int (zi a), Value.int (zi b), Value.int (zi c), Value.int (zi 1), Value.int (zi ((M 1) 4))] [] (q_mw h am (uA (uA M2 1 (M 1)) 4 (u1 (u1 (u1 (M 4) 0 a) 1 b) 2 c))) Q
                                  refine xv (x_aload_n 209 d_X8_order__208 rfl rfl) ?_
                                  refine xv (x_getfield 212 d_X8_order__209 rfl f_8_9 (Nat.le_of_ble_eq_true rfl) (Nat.le_of_ble_eq_true rfl) (q_gf_of m_o rfl)) ?_
                                  refine xv (x_iload 214 d_X8_order__212 rfl rfl) ?_
                                  refine xv (x_ins1 217 (as := [Value.int (zi ((M 1) 4))]) d_X8_order__214 rfl c_8_106 rfl (Nat.le_of_ble_eq_true rfl) (Nat.le_of_ble_eq_true rfl) (Nat.le_of_ble_eq_true rfl) rfl (S_X8_order (E := E) (h := h) (am := am) (M := (uA (uA M2 1 (M 1)) 4 (u1 (u1 (u1 (M 4) 0 a) 1 b) 2 c))))) ?_
                                  show Xv E q_m_X8_order_ 217 [Value.ref am, Value.int (zi d), Value.int (zi a), Value.int (zi b), Value.int (zi c), Value.int (zi 1), Value.int (zi ((M 1) 4))] [Value.int (zi (320 + 8 * ((M 1) 4))), Value.ref (am + 1)] (q_mw h am (uA (uA M2 1 (M 1)) 4 (u1 (u1 (u1 (M 4) 0 a) 1 b) 2 c))) Q
                                  refine xv (x_iconst 218 d_X8_order__217 rfl) ?_
                                  refine xv (x_iadd 219 d_X8_order__218 rfl) ?_
                                  refine xv (x_iload_n 220 d_X8_order__219 rfl rfl) ?_
                                  refine xv (x_iastore 221 d_X8_order__220 rfl (m_s1 (by omega) (by omega))) ?_
                                  show Xv E q_m_X8_order_ 221 [Value.ref am, Value.int (zi d), Value.int (zi a), Value.int (zi b), Value.int (zi c), Value.int (zi 1), Value.int (zi ((M 1) 4))] [] (q_mw h am (uM (uA (uA M2 1 (M 1)) 4 (u1 (u1 (u1 (M 4) 0 a) 1 b) 2 c)) 1 ((320 + 8 * ((M 1) 4)) + 0) d)) Q
                                  refine xv (x_aload_n 222 d_X8_order__221 rfl rfl) ?_
                                  refine xv (x_getfield 225 d_X8_order__222 rfl f_8_9 (Nat.le_of_ble_eq_true rfl) (Nat.le_of_ble_eq_true rfl) (q_gf_of m_o rfl)) ?_
                                  refine xv (x_iload 227 d_X8_order__225 rfl rfl) ?_
                                  refine xv (x_ins1 230 (as := [Value.int (zi ((M 1) 4))]) d_X8_order__227 rfl c_8_106 rfl (Nat.le_of_ble_eq_true rfl) (Nat.le_of_ble_eq_true rfl) (Nat.le_of_ble_eq_true rfl) rfl (S_X8_order (E := E) (h := h) (am := am) (M := (uM (uA (uA M2 1 (M 1)) 4 (u1 (u1 (u1 (M 4) 0 a) 1 b) 2 c)) 1 ((320 + 8 * ((M 1) 4)) + 0) d)))) ?_
                                  show Xv E q_m_X8_order_ 230 [Value.ref am, Value.int (zi d), Value.int (zi a), Value.int (zi b), Value.int (zi c), Value.int (zi 1), Value.int (zi ((M 1) 4))] [Value.int (zi (320 + 8 * ((M 1) 4))), Value.ref (am + 1)] (q_mw h am (uM (uA (uA M2 1 (M 1)) 4 (u1 (u1 (u1 (M 4) 0 a) 1 b) 2 c)) 1 ((320 + 8 * ((M 1) 4)) + 0) d)) Q
                                  refine xv (x_iconst 231 d_X8_order__230 rfl) ?_
                                  refine xv (x_iadd 232 d_X8_order__231 rfl) ?_
                                  refine xv (x_iload 234 d_X8_order__232 rfl rfl) ?_
                                  refine xv (x_iastore 235 d_X8_order__234 rfl (m_s1 (by omega) (by omega))) ?_
                                  show Xv E q_m_X8_order_ 235 [Value.ref am, Value.int (zi d), Value.int (zi a), Value.int (zi b), Value.int (zi c), Value.int (zi 1), Value.int (zi ((M 1) 4))] [] (q_mw h am (uM (uM (uA (uA M2 1 (M 1)) 4 (u1 (u1 (u1 (M 4) 0 a) 1 b) 2 c)) 1 ((320 + 8 * ((M 1) 4)) + 0) d) 1 ((320 + 8 * ((M 1) 4)) + 1) 1)) Q
                                  refine xv (x_aload_n 236 d_X8_order__235 rfl rfl) ?_
                                  refine xv (x_getfield 239 d_X8_order__236 rfl f_8_9 (Nat.le_of_ble_eq_true rfl) (Nat.le_of_ble_eq_true rfl) (q_gf_of m_o rfl)) ?_
                                  refine xv (x_iload 241 d_X8_order__239 rfl rfl) ?_
                                  refine xv (x_ins1 244 (as := [Value.int (zi ((M 1) 4))]) d_X8_order__241 rfl c_8_106 rfl (Nat.le_of_ble_eq_true rfl) (Nat.le_of_ble_eq_true rfl) (Nat.le_of_ble_eq_true rfl) rfl (S_X8_order (E := E) (h := h) (am := am) (M := (uM (uM (uA (uA M2 1 (M 1)) 4 (u1 (u1 (u1 (M 4) 0 a) 1 b) 2 c)) 1 ((320 + 8 * ((M 1) 4)) + 0) d) 1 ((320 + 8 * ((M 1) 4)) + 1) 1)))) ?_
                                  show Xv E q_m_X8_order_ 244 [Value.ref am, Value.int (zi d), Value.int (zi a), Value.int (zi b), Value.int (zi c), Value.int (zi 1), Value.int (zi ((M 1) 4))] [Value.int (zi (320 + 8 * ((M 1) 4))), Value.ref (am + 1)] (q_mw h am (uM (uM (uA (uA M2 1 (M 1)) 4 (u1 (u1 (u1 (M 4) 0 a) 1 b) 2 c)) 1 ((320 + 8 * ((M 1) 4)) + 0) d) 1 ((320 + 8 * ((M 1) 4)) + 1) 1)) Q
                                  refine xv (x_iconst 245 d_X8_order__244 rfl) ?_
                                  refine xv (x_iadd 246 d_X8_order__245 rfl) ?_
                                  refine xv (x_iconst 247 d_X8_order__246 rfl) ?_
                                  refine xv (x_iastore 248 d_X8_order__247 rfl (m_s1 (by omega) (by omega))) ?_
                                  show Xv E q_m_X8_order_ 248 [Value.ref am, Value.int (zi d), Value.int (zi a), Value.int (zi b), Value.int (zi c), Value.int (zi 1), Value.int (zi ((M 1) 4))] [] (q_mw h am (uM (uM (uM (uA (uA M2 1 (M 1)) 4 (u1 (u1 (u1 (M 4) 0 a) 1 b) 2 c)) 1 ((320 + 8 * ((M 1) 4)) + 0) d) 1 ((320 + 8 * ((M 1) 4)) + 1) 1) 1 ((320 + 8 * ((M 1) 4)) + 2) 0)) Q
                                  refine xv (x_aload_n 249 d_X8_order__248 rfl rfl) ?_
                                  refine xv (x_getfield 252 d_X8_order__249 rfl f_8_9 (Nat.le_of_ble_eq_true rfl) (Nat.le_of_ble_eq_true rfl) (q_gf_of m_o rfl)) ?_
                                  refine xv (x_iload 254 d_X8_order__252 rfl rfl) ?_
                                  refine xv (x_ins1 257 (as := [Value.int (zi ((M 1) 4))]) d_X8_order__254 rfl c_8_106 rfl (Nat.le_of_ble_eq_true rfl) (Nat.le_of_ble_eq_true rfl) (Nat.le_of_ble_eq_true rfl) rfl (S_X8_order (E := E) (h := h) (am := am) (M := (uM (uM (uM (uA (uA M2 1 (M 1)) 4 (u1 (u1 (u1 (M 4) 0 a) 1 b) 2 c)) 1 ((320 + 8 * ((M 1) 4)) + 0) d) 1 ((320 + 8 * ((M 1) 4)) + 1) 1) 1 ((320 + 8 * ((M 1) 4)) + 2) 0)))) ?_
                                  show Xv E q_m_X8_order_ 257 [Value.ref am, Value.int (zi d), Value.int (zi a), Value.int (zi b), Value.int (zi c), Value.int (zi 1), Value.int (zi ((M 1) 4))] [Value.int (zi (320 + 8 * ((M 1) 4))), Value.ref (am + 1)] (q_mw h am (uM (uM (uM (uA (uA M2 1 (M 1)) 4 (u1 (u1 (u1 (M 4) 0 a) 1 b) 2 c)) 1 ((320 + 8 * ((M 1) 4)) + 0) d) 1 ((320 + 8 * ((M 1) 4)) + 1) 1) 1 ((320 + 8 * ((M 1) 4)) + 2) 0)) Q
                                  refine xv (x_iconst 258 d_X8_order__257 rfl) ?_
                                  refine xv (x_iadd 259 d_X8_order__258 rfl) ?_
                                  refine xv (x_iconst 260 d_X8_order__259 rfl) ?_
                                  refine xv (x_iastore 261 d_X8_order__260 rfl (m_s1 (by omega) (by omega))) ?_
                                  show Xv E q_m_X8_order_ 261 [Value.ref am, Value.int (zi d), Value.int (zi a), Value.int (zi b), Value.int (zi c), Value.int (zi 1), Value.int (zi ((M 1) 4))] [] (q_mw h am (uM (uM (uM (uM (uA (uA M2 1 (M 1)) 4 (u1 (u1 (u1 (M 4) 0 a) 1 b) 2 c)) 1 ((320 + 8 * ((M 1) 4)) + 0) d) 1 ((320 + 8 * ((M 1) 4)) + 1) 1) 1 ((320 + 8 * ((M 1) 4)) + 2) 0) 1 ((320 + 8 * ((M 1) 4)) + 3) (-1))) Q
                                  refine xv (x_aload_n 262 d_X8_order__261 rfl rfl) ?_
                                  refine xv (x_getfield 265 d_X8_order__262 rfl f_8_9 (Nat.le_of_ble_eq_true rfl) (Nat.le_of_ble_eq_true rfl) (q_gf_of m_o rfl)) ?_
                                  refine xv (x_iload 267 d_X8_order__265 rfl rfl) ?_
                                  refine xv (x_ins1 270 (as := [Value.int (zi ((M 1) 4))]) d_X8_order__267 rfl c_8_106 rfl (Nat.le_of_ble_eq_true rfl) (Nat.le_of_ble_eq_true rfl) (Nat.le_of_ble_eq_true rfl) rfl (S_X8_order (E := E) (h := h) (am := am) (M := (uM (uM (uM (uM (uA (uA M2 1 (M 1)) 4 (u1 (u1 (u1 (M 4) 0 a) 1 b) 2 c)) 1 ((320 + 8 * ((M 1) 4)) + 0) d) 1 ((320 + 8 * ((M 1) 4)) + 1) 1) 1 ((320 + 8 * ((M 1) 4)) + 2) 0) 1 ((320 + 8 * ((M 1) 4)) + 3) (-1))))) ?_
                                  show Xv E q_m_X8_order_ 270 [Value.ref am, Value.int (zi d), Value.int (zi a), Value.int (zi b), Value.int (zi c), Value.int (zi 1), Value.int (zi ((M 1) 4))] [Value.int (zi (320 + 8 * ((M 1) 4))), Value.ref (am + 1)] (q_mw h am (uM (uM (uM (uM (uA (uA M2 1 (M 1)) 4 (u1 (u1 (u1 (M 4) 0 a) 1 b) 2 c)) 1 ((320 + 8 * ((M 1) 4)) + 0) d) 1 ((320 + 8 * ((M 1) 4)) + 1) 1) 1 ((320 + 8 * ((M 1) 4)) + 2) 0) 1 ((320 + 8 * ((M 1) 4)) + 3) (-1))) Q
                                  refine xv (x_iconst 271 d_X8_order__270 rfl) ?_
                                  refine xv (x_iadd 272 d_X8_order__271 rfl) ?_
                                  refine xv (x_iconst 273 d_X8_order__272 rfl) ?_
                                  refine xv (x_iastore 274 d_X8_order__273 rfl (m_s1 (by omega) (by omega))) ?_
                                  show Xv E q_m_X8_order_ 274 [Value.ref am, Value.int (zi d), Value.int (zi a), Value.int (zi b), Value.int (zi c), Value.int (zi 1), Value.int (zi ((M 1) 4))] [] (q_mw h am (uM (uM (uM (uM (uM (uA (uA M2 1 (M 1)) 4 (u1 (u1 (u1 (M 4) 0 a) 1 b) 2 c)) 1 ((320 + 8 * ((M 1) 4)) + 0) d) 1 ((320 + 8 * ((M 1) 4)) + 1) 1) 1 ((320 + 8 * ((M 1) 4)) + 2) 0) 1 ((320 + 8 * ((M 1) 4)) + 3) (-1)) 1 ((320 + 8 * ((M 1) 4)) + 4) (-1))) Q
                                  refine xv (x_aload_n 275 d_X8_order__274 rfl rfl) ?_
                                  refine xv (x_getfield 278 d_X8_order__275 rfl f_8_19 (Nat.le_of_ble_eq_true rfl) (Nat.le_of_ble_eq_true rfl) (q_gf_of m_o rfl)) ?_
                                  refine xv (x_iconst 279 d_X8_order__278 rfl) ?_
                                  refine xv (x_aload_n 280 d_X8_order__279 rfl rfl) ?_
                                  refine xv (x_getfield 283 d_X8_order__280 rfl f_8_9 (Nat.le_of_ble_eq_true rfl) (Nat.le_of_ble_eq_true rfl) (q_gf_of m_o rfl)) ?_
                                  refine xv (x_iload 285 d_X8_order__283 rfl rfl) ?_
                                  refine xv (x_ins1 288 (as := [Value.int (zi ((M 1) 4))]) d_X8_order__285 rfl c_8_106 rfl (Nat.le_of_ble_eq_true rfl) (Nat.le_of_ble_eq_true rfl) (Nat.le_of_ble_eq_true rfl) rfl (S_X8_order (E := E) (h := h) (am := am) (M := (uM (uM (uM (uM (uM (uA (uA M2 1 (M 1)) 4 (u1 (u1 (u1 (M 4) 0 a) 1 b) 2 c)) 1 ((320 + 8 * ((M 1) 4)) + 0) d) 1 ((320 + 8 * ((M 1) 4)) + 1) 1) 1 ((320 + 8 * ((M 1) 4)) + 2) 0) 1 ((320 + 8 * ((M 1) 4)) + 3) (-1)) 1 ((320 + 8 * ((M 1) 4)) + 4) (-1))))) ?_
                                  show Xv E q_m_X8_order_ 288 [Value.ref am, Value.int (zi d), Value.int (zi a), Value.int (zi b), Value.int (zi c), Value.int (zi 1), Value.int (zi ((M 1) 4))] [Value.int (zi (320 + 8 * ((M 1) 4))), Value.ref (am + 1), Value.int (zi 0), Value.ref (am + 4)] (q_mw h am (uM (uM (uM (uM (uM (uA (uA M2 1 (M 1)) 4 (u1 (u1 (u1 (M 4) 0 a) 1 b) 2 c)) 1 ((320 + 8 * ((M 1) 4)) + 0) d) 1 ((320 + 8 * ((M 1) 4)) + 1) 1) 1 ((320 + 8 * ((M 1) 4)) + 2) 0) 1 ((320 + 8 * ((M 1) 4)) + 3) (-1)) 1 ((320 + 8 * ((M 1) 4)) + 4) (-1))) Q
                                  refine xv (x_iconst 289 d_X8_order__288 rfl) ?_
                                  refine xv (x_iadd 290 d_X8_order__289 rfl) ?_
                                  refine xv (x_iconst 291 d_X8_order__290 rfl) ?_
                                  refine xv (x_copy 294 d_X8_order__291 rfl rfl rfl (Nat.le_of_ble_eq_true rfl) (Nat.le_of_ble_eq_true rfl) (Nat.le_of_ble_eq_true rfl) (m_cpy 4 1 m_a4 m_a1 m_w1 (by omega) (by omega) (by omega) (by omega) (by omega) (by decide) (by decide))) ?_
                                  show Xv E q_m_X8_order_ 294 [Value.ref am, Value.int (zi d), Value.int (zi a), Value.int (zi b), Value.int (zi c), Value.int (zi 1), Value.int (zi ((M 1) 4))] [] (q_mw h am (uA (uM (uM (uM (uM (uM (uA (uA M2 1 (M 1)) 4 (u1 (u1 (u1 (M 4) 0 a) 1 b) 2 c)) 1 ((320 + 8 * ((M 1) 4)) + 0) d) 1 ((320 + 8 * ((M 1) 4)) + 1) 1) 1 ((320 + 8 * ((M 1) 4)) + 2) 0) 1 ((320 + 8 * ((M 1) 4)) + 3) (-1)) 1 ((320 + 8 * ((M 1) 4)) + 4) (-1)) 1 (cpI (u1 (u1 (u1 (M 4) 0 a) 1 b) 2 c) (u1 (u1 (u1 (u1 (u1 (M 1) ((320 + 8 * ((M 1) 4)) + 0) d) ((320 + 8 * ((M 1) 4)) + 1) 1) ((320 + 8 * ((M 1) 4)) + 2) 0) ((320 + 8 * ((M 1) 4)) + 3) (-1)) ((320 + 8 * ((M 1) 4)) + 4) (-1)) 0 ((320 + 8 * ((M 1) 4)) + 5) 3))) Q
                                  refine xv (x_aload_n 295 d_X8_order__294 rfl rfl) ?_
                                  refine xv (x_getfield 298 d_X8_order__295 rfl f_8_9 (Nat.le_of_ble_eq_true rfl) (Nat.le_of_ble_eq_true rfl) (q_gf_of m_o rfl)) ?_
                                  refine xv (x_iconst 299 d_X8_order__298 rfl) ?_
                                  refine xv (x_dup2 300 d_X8_order__299 rfl rfl rfl) ?_
                                  refine xv (x_iaload 301 d_X8_order__300 rfl ((m_g1 (by omega) (by omega)).trans (rfl : _ = some (Value.int (zi ((cpI (u1 (u1 (u1 (M 4) 0 a) 1 b) 2 c) (u1 (u1 (u1 (u1 (u1 (M 1) ((320 + 8 * ((M 1) 4)) + 0) d) ((320 + 8 * ((M 1) 4)) + 1) 1) ((320 + 8 * ((M 1) 4)) + 2) 0) ((320 + 8 * ((M 1) 4)) + 3) (-1)) ((320 + 8 * ((M 1) 4)) + 4) (-1)) 0 ((320 + 8 * ((M 1) 4)) + 5) 3) 4)))))) ?_
                                  refine xv (x_iconst 302 d_X8_order__301 rfl) ?_
                                  refine xv (x_iadd 303 d_X8_order__302 rfl) ?_
                                  refine xv (x_iastore 304 d_X8_order__303 rfl (m_s1 (by omega) (by omega))) ?_
                                  show Xv E q_m_X8_order_ 304 [Value.ref am, Value.int (zi d), Value.int (zi a), Value.int (zi b), Value.int (zi c), Value.int (zi 1), Value.int (zi ((M 1) 4))] [] (q_mw h am (uM (uA (uM (uM (uM (uM (uM (uA (uA M2 1 (M 1)) 4 (u1 (u1 (u1 (M 4) 0 a) 1 b) 2 c)) 1 ((320 + 8 * ((M 1) 4)) + 0) d) 1 ((320 + 8 * ((M 1) 4)) + 1) 1) 1 ((320 + 8 * ((M 1) 4)) + 2) 0) 1 ((320 + 8 * ((M 1) 4)) + 3) (-1)) 1 ((320 + 8 * ((M 1) 4)) + 4) (-1)) 1 (cpI (u1 (u1 (u1 (M 4) 0 a) 1 b) 2 c) (u1 (u1 (u1 (u1 (u1 (M 1) ((320 + 8 * ((M 1) 4)) + 0) d) ((320 + 8 * ((M 1) 4)) + 1) 1) ((320 + 8 * ((M 1) 4)) + 2) 0) ((320 + 8 * ((M 1) 4)) + 3) (-1)) ((320 + 8 * ((M 1) 4)) + 4) (-1)) 0 ((320 + 8 * ((M 1) 4)) + 5) 3)) 1 4 (((cpI (u1 (u1 (u1 (M 4) 0 a) 1 b) 2 c) (u1 (u1 (u1 (u1 (u1 (M 1) ((320 + 8 * ((M 1) 4)) + 0) d) ((320 + 8 * ((M 1) 4)) + 1) 1) ((320 + 8 * ((M 1) 4)) + 2) 0) ((320 + 8 * ((M 1) 4)) + 3) (-1)) ((320 + 8 * ((M 1) 4)) + 4) (-1)) 0 ((320 + 8 * ((M 1) 4)) + 5) 3) 4) + 1))) Q
                                  refine xv (x_iload 306 d_X8_order__304 rfl rfl) ?_
                                  refine xv_r (x_ireturn d_X8_order__306 rfl rfl) ?_
                                  have er : mOrd (M 1) d a b c = (0, 0) := by first | (exfalso; omega) | (unfold mOrd; repeat (first | rw [if_pos (by omega)] | rw [if_neg (by omega)]))
                                  have ec : cntO b c = 1 := by first | (exfalso; omega) | (unfold cntO; repeat (first | rw [if_pos (by omega)] | rw [if_neg (by omega)]))
                                  refine hQ _ _ ?_
                                  unfold mMu2
                                  rw [er, if_pos rfl, ec]
                                  refine ⟨rfl, ?_⟩
                                  unfold lnO
                                  rw [hM2, ← eM]
                                  simp only [uM_uA, uA_uA, uA_eq]
                                  rfl
                                · omega
                              · refine xv (x_aload_n 177 d_X8_order__176 rfl rfl) ?_
                                refine xv (x_bipush 179 d_X8_order__177 rfl rfl) ?_
                                refine xv (x_aload_n 180 d_X8_order__179 rfl rfl) ?_
                                refine xv (x_getfield 183 d_X8_order__180 rfl f_8_19 (Nat.le_of_ble_eq_true rfl) (Nat.le_of_ble_eq_true rfl) (q_gf_of m_o rfl)) ?_
                                refine xv (x_iload 185 d_X8_order__183 rfl rfl) ?_
                                refine xv (x_iaload 186 d_X8_order__185 rfl ((m_g4 (by omega) (by omega)).trans (rfl : _ = some (Value.int (zi a))))) ?_
                                obtain ⟨r186, h186, e186, z186, y186⟩ := S_X8_refuse (E := E) (h := h) (am := am) (M := (uM (uM (uM (uM M 0 5 0) 4 0 a) 4 1 b) 4 2 c)) (y := 12) (z := a) 
                                subst z186
                                subst y186
                                refine xv (x_inv1 189 (as := [Value.int (zi 12), Value.int (zi a)]) d_X8_order__186 rfl c_8_90 rfl (Nat.le_of_ble_eq_true rfl) (Nat.le_of_ble_eq_true rfl) m_o (Nat.le_of_ble_eq_true rfl) (Nat.le_of_ble_eq_true rfl) rfl e186) ?_
                                show Xv E q_m_X8_order_ 189 [Value.ref am, Value.int (zi d), Value.int (zi a), Value.int (zi b), Value.int (zi c), Value.int (zi 1), Value.int (zi 0)] [Value.int (zi 0)] (q_mw h am (uM (uM (uM (uM (uM (uM (uM M 0 5 0) 4 0 a) 4 1 b) 4 2 c) 0 5 1) 0 6 12) 0 7 a)) Q
                                refine xv_r (x_ireturn d_X8_order__189 rfl rfl) ?_
                                have er : mOrd (M 1) d a b c = (12, a) := by first | (exfalso; omega) | (unfold mOrd; repeat (first | rw [if_pos (by omega)] | rw [if_neg (by omega)]))
                                refine hQ _ _ ?_
                                unfold mMu2
                                rw [er]
                                exact ⟨rfl, rfl⟩
                          · refine xv (x_aload_n 142 d_X8_order__141 rfl rfl) ?_
                            refine xv (x_iconst 143 d_X8_order__142 rfl) ?_
                            refine xv (x_iconst 144 d_X8_order__143 rfl) ?_
                            obtain ⟨r144, h144, e144, z144, y144⟩ := S_X8_refuse (E := E) (h := h) (am := am) (M := (uM (uM (uM (uM M 0 5 0) 4 0 a) 4 1 b) 4 2 c)) (y := 3) (z := 0) 
                            subst z144
                            subst y144
                            refine xv (x_inv1 147 (as := [Value.int (zi 3), Value.int (zi 0)]) d_X8_order__144 rfl c_8_90 rfl (Nat.le_of_ble_eq_true rfl) (Nat.le_of_ble_eq_true rfl) m_o (Nat.le_of_ble_eq_true rfl) (Nat.le_of_ble_eq_true rfl) rfl e144) ?_
                            show Xv E q_m_X8_order_ 147 [Value.ref am, Value.int (zi d), Value.int (zi a), Value.int (zi b), Value.int (zi c), Value.int (zi 1), Value.int (zi (((0 + 1) + 1) + 1))] [Value.int (zi 0)] (q_mw h am (uM (uM (uM (uM (uM (uM (uM M 0 5 0) 4 0 a) 4 1 b) 4 2 c) 0 5 1) 0 6 3) 0 7 0)) Q
                            refine xv_r (x_ireturn d_X8_order__147 rfl rfl) ?_
                            have er : mOrd (M 1) d a b c = (3, 0) := by first | (exfalso; omega) | (unfold mOrd; repeat (first | rw [if_pos (by omega)] | rw [if_neg (by omega)]))
                            refine hQ _ _ ?_
                            unfold mMu2
                            rw [er]
                            exact ⟨rfl, rfl⟩
                        · refine xv (x_iload 119 d_X8_order__117 rfl rfl) ?_
                          refine xv (x_iconst 120 d_X8_order__119 rfl) ?_
                          refine v_icmp_eq 130 123 d_X8_order__120 rfl rfl (by omega) (by omega) (by omega) (by omega) (fun k120 => ?_) (fun k120 => ?_)
                          · refine xv (x_aload_n 131 d_X8_order__130 rfl rfl) ?_
                            refine xv (x_getfield 134 d_X8_order__131 rfl f_8_9 (Nat.le_of_ble_eq_true rfl) (Nat.le_of_ble_eq_true rfl) (q_gf_of m_o rfl)) ?_
                            refine xv (x_iconst 135 d_X8_order__134 rfl) ?_
                            refine xv (x_iaload 136 d_X8_order__135 rfl ((m_g1 (by omega) (by omega)).trans (rfl : _ = some (Value.int (zi ((M 1) 4)))))) ?_
                            have q_88 : -1000000 ≤ (M 1) 4 ∧ (M 1) 4 ≤ 1000000 := hr _
                            refine xv (x_bipush 138 d_X8_order__136 rfl rfl) ?_
                            refine v_icmp_ne 148 141 d_X8_order__138 rfl rfl (by omega) (by omega) (by omega) (by omega) (fun k138 => ?_) (fun k138 => ?_)
                            · refine xv (x_iconst 149 d_X8_order__148 rfl) ?_
                              refine xv (x_istore 151 d_X8_order__149 rfl (Nat.le_of_ble_eq_true rfl)) ?_
                              show Xv E q_m_X8_order_ 151 [Value.ref am, Value.int (zi d), Value.int (zi a), Value.int (zi b), Value.int (zi c), Value.int (zi 1), Value.int (zi 0)] [] (q_mw h am (uM (uM (uM (uM M 0 5 0) 4 0 a) 4 1 b) 4 2 c)) Q
                              refine xv (x_iload 153 d_X8_order__151 rfl rfl) ?_
                              refine xv (x_iload 155 d_X8_order__153 rfl rfl) ?_
                              refine v_icmp_ge 196 158 d_X8_order__155 rfl rfl (by omega) (by omega) (by omega) (by omega) (fun k155 => ?_) (fun k155 => ?_)
                              · omega
                              · refine xv (x_aload_n 159 d_X8_order__158 rfl rfl) ?_
                                refine xv (x_getfield 162 d_X8_order__159 rfl f_8_9 (Nat.le_of_ble_eq_true rfl) (Nat.le_of_ble_eq_true rfl) (q_gf_of m_o rfl)) ?_
                                refine xv (x_bipush 164 d_X8_order__162 rfl rfl) ?_
                                refine xv (x_aload_n 165 d_X8_order__164 rfl rfl) ?_
                                refine xv (x_getfield 168 d_X8_order__165 rfl f_8_19 (Nat.le_of_ble_eq_true rfl) (Nat.le_of_ble_eq_true rfl) (q_gf_of m_o rfl)) ?_
                                refine xv (x_iload 170 d_X8_order__168 rfl rfl) ?_
                                refine xv (x_iaload 171 d_X8_order__170 rfl ((m_g4 (by omega) (by omega)).trans (rfl : _ = some (Value.int (zi a))))) ?_
                                refine xv (x_iadd 172 d_X8_order__171 rfl) ?_
                                refine xv (x_iaload 173 d_X8_order__172 rfl ((m_g1 (by omega) (by omega)).trans (rfl : _ = some (Value.int (zi ((M 1) (8 + a))))))) ?_
                                have q_89 : -1000000 ≤ (M 1) (8 + a) ∧ (M 1) (8 + a) ≤ 1000000 := hr _
                                refine v_if_eq 190 176 d_X8_order__173 rfl rfl (by omega) (by omega) (fun k173 => ?_) (fun k173 => ?_)
                                · refine xv (x_iinc 193 d_X8_order__190 rfl rfl) ?_
                                  show Xv E q_m_X8_order_ 193 [Value.ref am, Value.int (zi d), Value.int (zi a), Value.int (zi b), Value.int (zi c), Value.int (zi 1), Value.int (zi (0 + 1))] [] (q_mw h am (uM (uM (uM (uM M 0 5 0) 4 0 a) 4 1 b) 4 2 c)) Q
                                  refine xv (x_goto 151 d_X8_order__193 rfl) ?_
                                  refine xv (x_iload 153 d_X8_order__151 rfl rfl) ?_
                                  refine xv (x_iload 155 d_X8_order__153 rfl rfl) ?_
                                  refine v_icmp_ge 196 158 d_X8_order__155 rfl rfl (by omega) (by omega) (by omega) (by omega) (fun k155 => ?_) (fun k155 => ?_)
                                  · refine xv (x_aload_n 197 d_X8_order__196 rfl rfl) ?_
                                    obtain ⟨r197, h197, e197, z197, y197⟩ := S_X8_change (E := E) (h := h) (am := am) (M := (uM (uM (uM (uM M 0 5 0) 4 0 a) 4 1 b) 4 2 c)) hc
                                    subst z197
                                    subst y197
                                    refine xv (x_inv0 200 (as := []) d_X8_order__197 rfl c_8_100 rfl (Nat.le_of_ble_eq_true rfl) (Nat.le_of_ble_eq_true rfl) m_o (Nat.le_of_ble_eq_true rfl) (Nat.le_of_ble_eq_true rfl) rfl e197) ?_
                                    generalize hM2 : mch (uM (uM (uM (uM M 0 5 0) 4 0 a) 4 1 b) 4 2 c) = M2
                                    have e2 : M2 1 = M 1 := by rw [← hM2]; exact mch_1
                                    have e4 : M2 4 = (u1 (u1 (u1 (M 4) 0 a) 1 b) 2 c) := by rw [← hM2]; exact mch_s (by decide) (by decide)
                                    have eM : M2 = uA (uA M2 1 (M 1)) 4 (u1 (u1 (u1 (M 4) 0 a) 1 b) 2 c) := by rw [← e2, uA_self, ← e4, uA_self]
                                    rw [eM]
                                    show Xv E q_m_X8_order_ 200 [Value.ref am, Value.int (zi d), Value.int (zi a), Value.int (zi b), Value.int (zi c), Value.int (zi 1), Value.int (zi (0 + 1))] [] (q_mw h am (uA (uA M2 1 (M 1)) 4 (u1 (u1 (u1 (M 4) 0 a) 1 b) 2 c))) Q
                                    refine xv (x_aload_n 201 d_X8_order__200 rfl rfl) ?_
                                    refine xv (x_getfield 204 d_X8_order__201 rfl f_8_9 (Nat.le_of_ble_eq_true rfl) (Nat.le_of_ble_eq_true rfl) (q_gf_of m_o rfl)) ?_
                                    refine xv (x_iconst 205 d_X8_order__204 rfl) ?_
                                    refine xv (x_iaload 206 d_X8_order__205 rfl ((m_g1 (by omega) (by omega)).trans (rfl : _ = some (Value.int (zi ((M 1) 4)))))) ?_
                                    have q_90 : -1000000 ≤ (M 1) 4 ∧ (M 1) 4 ≤ 1000000 := hr _
                                    refine xv (x_istore 208 d_X8_order__206 rfl (Nat.le_of_ble_eq_true rfl)) ?_
                                    show Xv E q_m_X8_order_ 208 [Value.ref am, Value.int (zi d), Value.int (zi a), Value.int (zi b), Value.int (zi c), Value.int (zi 1), Value.int (zi ((M 1) 4))] [] (q_mw h am (uA (uA M2 1 (M 1)) 4 (u1 (u1 (u1 (M 4) 0 a) 1 b) 2 c))) Q
                                    refine xv (x_aload_n 209 d_X8_order__208 rfl rfl) ?_
                                    refine xv (x_getfield 212 d_X8_order__209 rfl f_8_9 (Nat.le_of_ble_eq_true rfl) (Nat.le_of_ble_eq_true rfl) (q_gf_of m_o rfl)) ?_
                                    refine xv (x_iload 214 d_X8_order__212 rfl rfl) ?_
                                    refine xv (x_ins1 217 (as := [Value.int (zi ((M 1) 4))]) d_X8_order__214 rfl c_8_106 rfl (Nat.le_of_ble_eq_true rfl) (Nat.le_of_ble_eq_true rfl) (Nat.le_of_ble_eq_true rfl) rfl (S_X8_order (E := E) (h := h) (am := am) (M := (uA (uA M2 1 (M 1)) 4 (u1 (u1 (u1 (M 4) 0 a) 1 b) 2 c))))) ?_
                                    show Xv E q_m_X8_order_ 217 [Value.ref am, Value.int (zi d), Value.int (zi a), Value.int (zi b), Value.int (zi c), Value.int (zi 1), Value.int (zi ((M 1) 4))] [Value.int (zi (320 + 8 * ((M 1) 4))), Value.ref (am + 1)] (q_mw h am (uA (uA M2 1 (M 1)) 4 (u1 (u1 (u1 (M 4) 0 a) 1 b) 2 c))) Q
                                    refine xv (x_iconst 218 d_X8_order__217 rfl) ?_
                                    refine xv (x_iadd 219 d_X8_order__218 rfl) ?_
                                    refine xv (x_iload_n 220 d_X8_order__219 rfl rfl) ?_
                                    refine xv (x_iastore 221 d_X8_order__220 rfl (m_s1 (by omega) (by omega))) ?_
                                    show Xv E q_m_X8_order_ 221 [Value.ref am, Value.int (zi d), Value.int (zi a), Value.int (zi b), Value.int (zi c), Value.int (zi 1), Value.int (zi ((M 1) 4))] [] (q_mw h am (uM (uA (uA M2 1 (M 1)) 4 (u1 (u1 (u1 (M 4) 0 a) 1 b) 2 c)) 1 ((320 + 8 * ((M 1) 4)) + 0) d)) Q
                                    refine xv (x_aload_n 222 d_X8_order__221 rfl rfl) ?_
                                    refine xv (x_getfield 225 d_X8_order__222 rfl f_8_9 (Nat.le_of_ble_eq_true rfl) (Nat.le_of_ble_eq_true rfl) (q_gf_of m_o rfl)) ?_
                                    refine xv (x_iload 227 d_X8_order__225 rfl rfl) ?_
                                    refine xv (x_ins1 230 (as := [Value.int (zi ((M 1) 4))]) d_X8_order__227 rfl c_8_106 rfl (Nat.le_of_ble_eq_true rfl) (Nat.le_of_ble_eq_true rfl) (Nat.le_of_ble_eq_true rfl) rfl (S_X8_order (E := E) (h := h) (am := am) (M := (uM (uA (uA M2 1 (M 1)) 4 (u1 (u1 (u1 (M 4) 0 a) 1 b) 2 c)) 1 ((320 + 8 * ((M 1) 4)) + 0) d)))) ?_
                                    show Xv E q_m_X8_order_ 230 [Value.ref am, Value.int (zi d), Value.int (zi a), Value.int (zi b), Value.int (zi c), Value.int (zi 1), Value.int (zi ((M 1) 4))] [Value.int (zi (320 + 8 * ((M 1) 4))), Value.ref (am + 1)] (q_mw h am (uM (uA (uA M2 1 (M 1)) 4 (u1 (u1 (u1 (M 4) 0 a) 1 b) 2 c)) 1 ((320 + 8 * ((M 1) 4)) + 0) d)) Q
                                    refine xv (x_iconst 231 d_X8_order__230 rfl) ?_
                                    refine xv (x_iadd 232 d_X8_order__231 rfl) ?_
                                    refine xv (x_iload 234 d_X8_order__232 rfl rfl) ?_
                                    refine xv (x_iastore 235 d_X8_order__234 rfl (m_s1 (by omega) (by omega))) ?_
                                    show Xv E q_m_X8_order_ 235 [Value.ref am, Value.int (zi d), Value.int (zi a), Value.int (zi b), Value.int (zi c), Value.int (zi 1), Value.int (zi ((M 1) 4))] [] (q_mw h am (uM (uM (uA (uA M2 1 (M 1)) 4 (u1 (u1 (u1 (M 4) 0 a) 1 b) 2 c)) 1 ((320 + 8 * ((M 1) 4)) + 0) d) 1 ((320 + 8 * ((M 1) 4)) + 1) 1)) Q
                                    refine xv (x_aload_n 236 d_X8_order__235 rfl rfl) ?_
                                    refine xv (x_getfield 239 d_X8_order__236 rfl f_8_9 (Nat.le_of_ble_eq_true rfl) (Nat.le_of_ble_eq_true rfl) (q_gf_of m_o rfl)) ?_
                                    refine xv (x_iload 241 d_X8_order__239 rfl rfl) ?_
                                    refine xv (x_ins1 244 (as := [Value.int (zi ((M 1) 4))]) d_X8_order__241 rfl c_8_106 rfl (Nat.le_of_ble_eq_true rfl) (Nat.le_of_ble_eq_true rfl) (Nat.le_of_ble_eq_true rfl) rfl (S_X8_order (E := E) (h := h) (am := am) (M := (uM (uM (uA (uA M2 1 (M 1)) 4 (u1 (u1 (u1 (M 4) 0 a) 1 b) 2 c)) 1 ((320 + 8 * ((M 1) 4)) + 0) d) 1 ((320 + 8 * ((M 1) 4)) + 1) 1)))) ?_
                                    show Xv E q_m_X8_order_ 244 [Value.ref am, Value.int (zi d), Value.int (zi a), Value.int (zi b), Value.int (zi c), Value.int (zi 1), Value.int (zi ((M 1) 4))] [Value.int (zi (320 + 8 * ((M 1) 4))), Value.ref (am + 1)] (q_mw h am (uM (uM (uA (uA M2 1 (M 1)) 4 (u1 (u1 (u1 (M 4) 0 a) 1 b) 2 c)) 1 ((320 + 8 * ((M 1) 4)) + 0) d) 1 ((320 + 8 * ((M 1) 4)) + 1) 1)) Q
                                    refine xv (x_iconst 245 d_X8_order__244 rfl) ?_
                                    refine xv (x_iadd 246 d_X8_order__245 rfl) ?_
                                    refine xv (x_iconst 247 d_X8_order__246 rfl) ?_
                                    refine xv (x_iastore 248 d_X8_order__247 rfl (m_s1 (by omega) (by omega))) ?_
                                    show Xv E q_m_X8_order_ 248 [Value.ref am, Value.int (zi d), Value.int (zi a), Value.int (zi b), Value.int (zi c), Value.int (zi 1), Value.int (zi ((M 1) 4))] [] (q_mw h am (uM (uM (uM (uA (uA M2 1 (M 1)) 4 (u1 (u1 (u1 (M 4) 0 a) 1 b) 2 c)) 1 ((320 + 8 * ((M 1) 4)) + 0) d) 1 ((320 + 8 * ((M 1) 4)) + 1) 1) 1 ((320 + 8 * ((M 1) 4)) + 2) 0)) Q
                                    refine xv (x_aload_n 249 d_X8_order__248 rfl rfl) ?_
                                    refine xv (x_getfield 252 d_X8_order__249 rfl f_8_9 (Nat.le_of_ble_eq_true rfl) (Nat.le_of_ble_eq_true rfl) (q_gf_of m_o rfl)) ?_
                                    refine xv (x_iload 254 d_X8_order__252 rfl rfl) ?_
                                    refine xv (x_ins1 257 (as := [Value.int (zi ((M 1) 4))]) d_X8_order__254 rfl c_8_106 rfl (Nat.le_of_ble_eq_true rfl) (Nat.le_of_ble_eq_true rfl) (Nat.le_of_ble_eq_true rfl) rfl (S_X8_order (E := E) (h := h) (am := am) (M := (uM (uM (uM (uA (uA M2 1 (M 1)) 4 (u1 (u1 (u1 (M 4) 0 a) 1 b) 2 c)) 1 ((320 + 8 * ((M 1) 4)) + 0) d) 1 ((320 + 8 * ((M 1) 4)) + 1) 1) 1 ((320 + 8 * ((M 1) 4)) + 2) 0)))) ?_
                                    show Xv E q_m_X8_order_ 257 [Value.ref am, Value.int (zi d), Value.int (zi a), Value.int (zi b), Value.int (zi c), Value.int (zi 1), Value.int (zi ((M 1) 4))] [Value.int (zi (320 + 8 * ((M 1) 4))), Value.ref (am + 1)] (q_mw h am (uM (uM (uM (uA (uA M2 1 (M 1)) 4 (u1 (u1 (u1 (M 4) 0 a) 1 b) 2 c)) 1 ((320 + 8 * ((M 1) 4)) + 0) d) 1 ((320 + 8 * ((M 1) 4)) + 1) 1) 1 ((320 + 8 * ((M 1) 4)) + 2) 0)) Q
                                    refine xv (x_iconst 258 d_X8_order__257 rfl) ?_
                                    refine xv (x_iadd 259 d_X8_order__258 rfl) ?_
                                    refine xv (x_iconst 260 d_X8_order__259 rfl) ?_
                                    refine xv (x_iastore 261 d_X8_order__260 rfl (m_s1 (by omega) (by omega))) ?_
                                    show Xv E q_m_X8_order_ 261 [Value.ref am, Value.int (zi d), Value.int (zi a), Value.int (zi b), Value.int (zi c), Value.int (zi 1), Value.int (zi ((M 1) 4))] [] (q_mw h am (uM (uM (uM (uM (uA (uA M2 1 (M 1)) 4 (u1 (u1 (u1 (M 4) 0 a) 1 b) 2 c)) 1 ((320 + 8 * ((M 1) 4)) + 0) d) 1 ((320 + 8 * ((M 1) 4)) + 1) 1) 1 ((320 + 8 * ((M 1) 4)) + 2) 0) 1 ((320 + 8 * ((M 1) 4)) + 3) (-1))) Q
                                    refine xv (x_aload_n 262 d_X8_order__261 rfl rfl) ?_
                                    refine xv (x_getfield 265 d_X8_order__262 rfl f_8_9 (Nat.le_of_ble_eq_true rfl) (Nat.le_of_ble_eq_true rfl) (q_gf_of m_o rfl)) ?_
                                    refine xv (x_iload 267 d_X8_order__265 rfl rfl) ?_
                                    refine xv (x_ins1 270 (as := [Value.int (zi ((M 1) 4))]) d_X8_order__267 rfl c_8_106 rfl (Nat.le_of_ble_eq_true rfl) (Nat.le_of_ble_eq_true rfl) (Nat.le_of_ble_eq_true rfl) rfl (S_X8_order (E := E) (h := h) (am := am) (M := (uM (uM (uM (uM (uA (uA M2 1 (M 1)) 4 (u1 (u1 (u1 (M 4) 0 a) 1 b) 2 c)) 1 ((320 + 8 * ((M 1) 4)) + 0) d) 1 ((320 + 8 * ((M 1) 4)) + 1) 1) 1 ((320 + 8 * ((M 1) 4)) + 2) 0) 1 ((320 + 8 * ((M 1) 4)) + 3) (-1))))) ?_
                                    show Xv E q_m_X8_order_ 270 [Value.ref am, Value.int (zi d), Value.int (zi a), Value.int (zi b), Value.int (zi c), Value.int (zi 1), Value.int (zi ((M 1) 4))] [Value.int (zi (320 + 8 * ((M 1) 4))), Value.ref (am + 1)] (q_mw h am (uM (uM (uM (uM (uA (uA M2 1 (M 1)) 4 (u1 (u1 (u1 (M 4) 0 a) 1 b) 2 c)) 1 ((320 + 8 * ((M 1) 4)) + 0) d) 1 ((320 + 8 * ((M 1) 4)) + 1) 1) 1 ((320 + 8 * ((M 1) 4)) + 2) 0) 1 ((320 + 8 * ((M 1) 4)) + 3) (-1))) Q
                                    refine xv (x_iconst 271 d_X8_order__270 rfl) ?_
                                    refine xv (x_iadd 272 d_X8_order__271 rfl) ?_
                                    refine xv (x_iconst 273 d_X8_order__272 rfl) ?_
                                    refine xv (x_iastore 274 d_X8_order__273 rfl (m_s1 (by omega) (by omega))) ?_
                                    show Xv E q_m_X8_order_ 274 [Value.ref am, Value.int (zi d), Value.int (zi a), Value.int (zi b), Value.int (zi c), Value.int (zi 1), Value.int (zi ((M 1) 4))] [] (q_mw h am (uM (uM (uM (uM (uM (uA (uA M2 1 (M 1)) 4 (u1 (u1 (u1 (M 4) 0 a) 1 b) 2 c)) 1 ((320 + 8 * ((M 1) 4)) + 0) d) 1 ((320 + 8 * ((M 1) 4)) + 1) 1) 1 ((320 + 8 * ((M 1) 4)) + 2) 0) 1 ((320 + 8 * ((M 1) 4)) + 3) (-1)) 1 ((320 + 8 * ((M 1) 4)) + 4) (-1))) Q
                                    refine xv (x_aload_n 275 d_X8_order__274 rfl rfl) ?_
                                    refine xv (x_getfield 278 d_X8_order__275 rfl f_8_19 (Nat.le_of_ble_eq_true rfl) (Nat.le_of_ble_eq_true rfl) (q_gf_of m_o rfl)) ?_
                                    refine xv (x_iconst 279 d_X8_order__278 rfl) ?_
                                    refine xv (x_aload_n 280 d_X8_order__279 rfl rfl) ?_
                                    refine xv (x_getfield 283 d_X8_order__280 rfl f_8_9 (Nat.le_of_ble_eq_true rfl) (Nat.le_of_ble_eq_true rfl) (q_gf_of m_o rfl)) ?_
                                    refine xv (x_iload 285 d_X8_order__283 rfl rfl) ?_
                                    refine xv (x_ins1 288 (as := [Value.int (zi ((M 1) 4))]) d_X8_order__285 rfl c_8_106 rfl (Nat.le_of_ble_eq_true rfl) (Nat.le_of_ble_eq_true rfl) (Nat.le_of_ble_eq_true rfl) rfl (S_X8_order (E := E) (h := h) (am := am) (M := (uM (uM (uM (uM (uM (uA (uA M2 1 (M 1)) 4 (u1 (u1 (u1 (M 4) 0 a) 1 b) 2 c)) 1 ((320 + 8 * ((M 1) 4)) + 0) d) 1 ((320 + 8 * ((M 1) 4)) + 1) 1) 1 ((320 + 8 * ((M 1) 4)) + 2) 0) 1 ((320 + 8 * ((M 1) 4)) + 3) (-1)) 1 ((320 + 8 * ((M 1) 4)) + 4) (-1))))) ?_
                                    show Xv E q_m_X8_order_ 288 [Value.ref am, Value.int (zi d), Value.int (zi a), Value.int (zi b), Value.int (zi c), Value.int (zi 1), Value.int (zi ((M 1) 4))] [Value.int (zi (320 + 8 * ((M 1) 4))), Value.ref (am + 1), Value.int (zi 0), Value.ref (am + 4)] (q_mw h am (uM (uM (uM (uM (uM (uA (uA M2 1 (M 1)) 4 (u1 (u1 (u1 (M 4) 0 a) 1 b) 2 c)) 1 ((320 + 8 * ((M 1) 4)) + 0) d) 1 ((320 + 8 * ((M 1) 4)) + 1) 1) 1 ((320 + 8 * ((M 1) 4)) + 2) 0) 1 ((320 + 8 * ((M 1) 4)) + 3) (-1)) 1 ((320 + 8 * ((M 1) 4)) + 4) (-1))) Q
                                    refine xv (x_iconst 289 d_X8_order__288 rfl) ?_
                                    refine xv (x_iadd 290 d_X8_order__289 rfl) ?_
                                    refine xv (x_iconst 291 d_X8_order__290 rfl) ?_
                                    refine xv (x_copy 294 d_X8_order__291 rfl rfl rfl (Nat.le_of_ble_eq_true rfl) (Nat.le_of_ble_eq_true rfl) (Nat.le_of_ble_eq_true rfl) (m_cpy 4 1 m_a4 m_a1 m_w1 (by omega) (by omega) (by omega) (by omega) (by omega) (by decide) (by decide))) ?_
                                    show Xv E q_m_X8_order_ 294 [Value.ref am, Value.int (zi d), Value.int (zi a), Value.int (zi b), Value.int (zi c), Value.int (zi 1), Value.int (zi ((M 1) 4))] [] (q_mw h am (uA (uM (uM (uM (uM (uM (uA (uA M2 1 (M 1)) 4 (u1 (u1 (u1 (M 4) 0 a) 1 b) 2 c)) 1 ((320 + 8 * ((M 1) 4)) + 0) d) 1 ((320 + 8 * ((M 1) 4)) + 1) 1) 1 ((320 + 8 * ((M 1) 4)) + 2) 0) 1 ((320 + 8 * ((M 1) 4)) + 3) (-1)) 1 ((320 + 8 * ((M 1) 4)) + 4) (-1)) 1 (cpI (u1 (u1 (u1 (M 4) 0 a) 1 b) 2 c) (u1 (u1 (u1 (u1 (u1 (M 1) ((320 + 8 * ((M 1) 4)) + 0) d) ((320 + 8 * ((M 1) 4)) + 1) 1) ((320 + 8 * ((M 1) 4)) + 2) 0) ((320 + 8 * ((M 1) 4)) + 3) (-1)) ((320 + 8 * ((M 1) 4)) + 4) (-1)) 0 ((320 + 8 * ((M 1) 4)) + 5) 3))) Q
                                    refine xv (x_aload_n 295 d_X8_order__294 rfl rfl) ?_
                                    refine xv (x_getfield 298 d_X8_order__295 rfl f_8_9 (Nat.le_of_ble_eq_true rfl) (Nat.le_of_ble_eq_true rfl) (q_gf_of m_o rfl)) ?_
                                    refine xv (x_iconst 299 d_X8_order__298 rfl) ?_
                                    refine xv (x_dup2 300 d_X8_order__299 rfl rfl rfl) ?_
                                    refine xv (x_iaload 301 d_X8_order__300 rfl ((m_g1 (by omega) (by omega)).trans (rfl : _ = some (Value.int (zi ((cpI (u1 (u1 (u1 (M 4) 0 a) 1 b) 2 c) (u1 (u1 (u1 (u1 (u1 (M 1) ((320 + 8 * ((M 1) 4)) + 0) d) ((320 + 8 * ((M 1) 4)) + 1) 1) ((320 + 8 * ((M 1) 4)) + 2) 0) ((320 + 8 * ((M 1) 4)) + 3) (-1)) ((320 + 8 * ((M 1) 4)) + 4) (-1)) 0 ((320 + 8 * ((M 1) 4)) + 5) 3) 4)))))) ?_
                                    refine xv (x_iconst 302 d_X8_order__301 rfl) ?_
                                    refine xv (x_iadd 303 d_X8_order__302 rfl) ?_
                                    refine xv (x_iastore 304 d_X8_order__303 rfl (m_s1 (by omega) (by omega))) ?_
                                    show Xv E q_m_X8_order_ 304 [Value.ref am, Value.int (zi d), Value.int (zi a), Value.int (zi b), Value.int (zi c), Value.int (zi 1), Value.int (zi ((M 1) 4))] [] (q_mw h am (uM (uA (uM (uM (uM (uM (uM (uA (uA M2 1 (M 1)) 4 (u1 (u1 (u1 (M 4) 0 a) 1 b) 2 c)) 1 ((320 + 8 * ((M 1) 4)) + 0) d) 1 ((320 + 8 * ((M 1) 4)) + 1) 1) 1 ((320 + 8 * ((M 1) 4)) + 2) 0) 1 ((320 + 8 * ((M 1) 4)) + 3) (-1)) 1 ((320 + 8 * ((M 1) 4)) + 4) (-1)) 1 (cpI (u1 (u1 (u1 (M 4) 0 a) 1 b) 2 c) (u1 (u1 (u1 (u1 (u1 (M 1) ((320 + 8 * ((M 1) 4)) + 0) d) ((320 + 8 * ((M 1) 4)) + 1) 1) ((320 + 8 * ((M 1) 4)) + 2) 0) ((320 + 8 * ((M 1) 4)) + 3) (-1)) ((320 + 8 * ((M 1) 4)) + 4) (-1)) 0 ((320 + 8 * ((M 1) 4)) + 5) 3)) 1 4 (((cpI (u1 (u1 (u1 (M 4) 0 a) 1 b) 2 c) (u1 (u1 (u1 (u1 (u1 (M 1) ((320 + 8 * ((M 1) 4)) + 0) d) ((320 + 8 * ((M 1) 4)) + 1) 1) ((320 + 8 * ((M 1) 4)) + 2) 0) ((320 + 8 * ((M 1) 4)) + 3) (-1)) ((320 + 8 * ((M 1) 4)) + 4) (-1)) 0 ((320 + 8 * ((M 1) 4)) + 5) 3) 4) + 1))) Q
                                    refine xv (x_iload 306 d_X8_order__304 rfl rfl) ?_
                                    refine xv_r (x_ireturn d_X8_order__306 rfl rfl) ?_
                                    have er : mOrd (M 1) d a b c = (0, 0) := by first | (exfalso; omega) | (unfold mOrd; repeat (first | rw [if_pos (by omega)] | rw [if_neg (by omega)]))
                                    have ec : cntO b c = 1 := by first | (exfalso; omega) | (unfold cntO; repeat (first | rw [if_pos (by omega)] | rw [if_neg (by omega)]))
                                    refine hQ _ _ ?_
                                    unfold mMu2
                                    rw [er, if_pos rfl, ec]
                                    refine ⟨rfl, ?_⟩
                                    unfold lnO
                                    rw [hM2, ← eM]
                                    simp only [uM_uA, uA_uA, uA_eq]
                                    rfl
                                  · omega
                                · refine xv (x_aload_n 177 d_X8_order__176 rfl rfl) ?_
                                  refine xv (x_bipush 179 d_X8_order__177 rfl rfl) ?_
                                  refine xv (x_aload_n 180 d_X8_order__179 rfl rfl) ?_
                                  refine xv (x_getfield 183 d_X8_order__180 rfl f_8_19 (Nat.le_of_ble_eq_true rfl) (Nat.le_of_ble_eq_true rfl) (q_gf_of m_o rfl)) ?_
                                  refine xv (x_iload 185 d_X8_order__183 rfl rfl) ?_
                                  refine xv (x_iaload 186 d_X8_order__185 rfl ((m_g4 (by omega) (by omega)).trans (rfl : _ = some (Value.int (zi a))))) ?_
                                  obtain ⟨r186, h186, e186, z186, y186⟩ := S_X8_refuse (E := E) (h := h) (am := am) (M := (uM (uM (uM (uM M 0 5 0) 4 0 a) 4 1 b) 4 2 c)) (y := 12) (z := a) 
                                  subst z186
                                  subst y186
                                  refine xv (x_inv1 189 (as := [Value.int (zi 12), Value.int (zi a)]) d_X8_order__186 rfl c_8_90 rfl (Nat.le_of_ble_eq_true rfl) (Nat.le_of_ble_eq_true rfl) m_o (Nat.le_of_ble_eq_true rfl) (Nat.le_of_ble_eq_true rfl) rfl e186) ?_
                                  show Xv E q_m_X8_order_ 189 [Value.ref am, Value.int (zi d), Value.int (zi a), Value.int (zi b), Value.int (zi c), Value.int (zi 1), Value.int (zi 0)] [Value.int (zi 0)] (q_mw h am (uM (uM (uM (uM (uM (uM (uM M 0 5 0) 4 0 a) 4 1 b) 4 2 c) 0 5 1) 0 6 12) 0 7 a)) Q
                                  refine xv_r (x_ireturn d_X8_order__189 rfl rfl) ?_
                                  have er : mOrd (M 1) d a b c = (12, a) := by first | (exfalso; omega) | (unfold mOrd; repeat (first | rw [if_pos (by omega)] | rw [if_neg (by omega)]))
                                  refine hQ _ _ ?_
                                  unfold mMu2
                                  rw [er]
                                  exact ⟨rfl, rfl⟩
                            · refine xv (x_aload_n 142 d_X8_order__141 rfl rfl) ?_
                              refine xv (x_iconst 143 d_X8_order__142 rfl) ?_
                              refine xv (x_iconst 144 d_X8_order__143 rfl) ?_
                              obtain ⟨r144, h144, e144, z144, y144⟩ := S_X8_refuse (E := E) (h := h) (am := am) (M := (uM (uM (uM (uM M 0 5 0) 4 0 a) 4 1 b) 4 2 c)) (y := 3) (z := 0) 
                              subst z144
                              subst y144
                              refine xv (x_inv1 147 (as := [Value.int (zi 3), Value.int (zi 0)]) d_X8_order__144 rfl c_8_90 rfl (Nat.le_of_ble_eq_true rfl) (Nat.le_of_ble_eq_true rfl) m_o (Nat.le_of_ble_eq_true rfl) (Nat.le_of_ble_eq_true rfl) rfl e144) ?_
                              show Xv E q_m_X8_order_ 147 [Value.ref am, Value.int (zi d), Value.int (zi a), Value.int (zi b), Value.int (zi c), Value.int (zi 1), Value.int (zi (((0 + 1) + 1) + 1))] [Value.int (zi 0)] (q_mw h am (uM (uM (uM (uM (uM (uM (uM M 0 5 0) 4 0 a) 4 1 b) 4 2 c) 0 5 1) 0 6 3) 0 7 0)) Q
                              refine xv_r (x_ireturn d_X8_order__147 rfl rfl) ?_
                              have er : mOrd (M 1) d a b c = (3, 0) := by first | (exfalso; omega) | (unfold mOrd; repeat (first | rw [if_pos (by omega)] | rw [if_neg (by omega)]))
                              refine hQ _ _ ?_
                              unfold mMu2
                              rw [er]
                              exact ⟨rfl, rfl⟩
                          · refine xv (x_aload_n 124 d_X8_order__123 rfl rfl) ?_
                            refine xv (x_iconst 125 d_X8_order__124 rfl) ?_
                            refine xv (x_iconst 126 d_X8_order__125 rfl) ?_
                            obtain ⟨r126, h126, e126, z126, y126⟩ := S_X8_refuse (E := E) (h := h) (am := am) (M := (uM (uM (uM (uM M 0 5 0) 4 0 a) 4 1 b) 4 2 c)) (y := 2) (z := 0) 
                            subst z126
                            subst y126
                            refine xv (x_inv1 129 (as := [Value.int (zi 2), Value.int (zi 0)]) d_X8_order__126 rfl c_8_90 rfl (Nat.le_of_ble_eq_true rfl) (Nat.le_of_ble_eq_true rfl) m_o (Nat.le_of_ble_eq_true rfl) (Nat.le_of_ble_eq_true rfl) rfl e126) ?_
                            show Xv E q_m_X8_order_ 129 [Value.ref am, Value.int (zi d), Value.int (zi a), Value.int (zi b), Value.int (zi c), Value.int (zi 1), Value.int (zi (((0 + 1) + 1) + 1))] [Value.int (zi 0)] (q_mw h am (uM (uM (uM (uM (uM (uM (uM M 0 5 0) 4 0 a) 4 1 b) 4 2 c) 0 5 1) 0 6 2) 0 7 0)) Q
                            refine xv_r (x_ireturn d_X8_order__129 rfl rfl) ?_
                            have er : mOrd (M 1) d a b c = (2, 0) := by first | (exfalso; omega) | (unfold mOrd; repeat (first | rw [if_pos (by omega)] | rw [if_neg (by omega)]))
                            refine hQ _ _ ?_
                            unfold mMu2
                            rw [er]
                            exact ⟨rfl, rfl⟩
                    · omega
                  · replace k69 := bI_0.mp k69
                    refine xv (x_iload 74 d_X8_order__72 rfl rfl) ?_
                    refine v_if_eq 88 77 d_X8_order__74 rfl rfl (by omega) (by omega) (fun k74 => ?_) (fun k74 => ?_)
                    · omega
                    · refine xv (x_aload_n 78 d_X8_order__77 rfl rfl) ?_
                      refine xv (x_getfield 81 d_X8_order__78 rfl f_8_19 (Nat.le_of_ble_eq_true rfl) (Nat.le_of_ble_eq_true rfl) (q_gf_of m_o rfl)) ?_
                      refine xv (x_iload 83 d_X8_order__81 rfl rfl) ?_
                      refine xv (x_iaload 84 d_X8_order__83 rfl ((m_g4 (by omega) (by omega)).trans (rfl : _ = some (Value.int (zi c))))) ?_
                      refine xv (x_iconst 85 d_X8_order__84 rfl) ?_
                      refine v_icmp_eq 95 88 d_X8_order__85 rfl rfl (by omega) (by omega) (by omega) (by omega) (fun k85 => ?_) (fun k85 => ?_)
                      · refine xv (x_iinc 98 d_X8_order__95 rfl rfl) ?_
                        show Xv E q_m_X8_order_ 98 [Value.ref am, Value.int (zi d), Value.int (zi a), Value.int (zi b), Value.int (zi c), Value.int (zi 1), Value.int (zi (((0 + 1) + 1) + 1))] [] (q_mw h am (uM (uM (uM (uM M 0 5 0) 4 0 a) 4 1 b) 4 2 c)) Q
                        refine xv (x_goto 52 d_X8_order__98 rfl) ?_
                        refine xv (x_iload 54 d_X8_order__52 rfl rfl) ?_
                        refine xv (x_iconst 55 d_X8_order__54 rfl) ?_
                        refine v_icmp_ge 101 58 d_X8_order__55 rfl rfl (by omega) (by omega) (by omega) (by omega) (fun k55 => ?_) (fun k55 => ?_)
                        · refine xv (x_iload_n 102 d_X8_order__101 rfl rfl) ?_
                          refine xv (x_iconst 103 d_X8_order__102 rfl) ?_
                          refine xv (x_sipush 106 d_X8_order__103 rfl rfl) ?_
                          refine xv (x_ins1 109 (as := [Value.int (zi d), Value.int (zi 0), Value.int (zi 999)]) d_X8_order__106 rfl c_8_71 rfl (Nat.le_of_ble_eq_true rfl) (Nat.le_of_ble_eq_true rfl) (Nat.le_of_ble_eq_true rfl) rfl (S_X8_in (E := E) (h := h) (am := am) (M := (uM (uM (uM (uM M 0 5 0) 4 0 a) 4 1 b) 4 2 c)) (by first | omega | (rw [show (uM (uM (uM (uM M 0 5 0) 4 0 a) 4 1 b) 4 2 c) 1 = (M 1) from rfl]; omega)) (by first | omega | (rw [show (uM (uM (uM (uM M 0 5 0) 4 0 a) 4 1 b) 4 2 c) 1 = (M 1) from rfl]; omega)) (by first | omega | (rw [show (uM (uM (uM (uM M 0 5 0) 4 0 a) 4 1 b) 4 2 c) 1 = (M 1) from rfl]; omega)) (by first | omega | (rw [show (uM (uM (uM (uM M 0 5 0) 4 0 a) 4 1 b) 4 2 c) 1 = (M 1) from rfl]; omega)) (by first | omega | (rw [show (uM (uM (uM (uM M 0 5 0) 4 0 a) 4 1 b) 4 2 c) 1 = (M 1) from rfl]; omega)) (by first | omega | (rw [show (uM (uM (uM (uM M 0 5 0) 4 0 a) 4 1 b) 4 2 c) 1 = (M 1) from rfl]; omega)))) ?_
                          show Xv E q_m_X8_order_ 109 [Value.ref am, Value.int (zi d), Value.int (zi a), Value.int (zi b), Value.int (zi c), Value.int (zi 1), Value.int (zi (((0 + 1) + 1) + 1))] [Value.int (zi (bI (inn d 0 999)))] (q_mw h am (uM (uM (uM (uM M 0 5 0) 4 0 a) 4 1 b) 4 2 c)) Q
                          refine v_if_eq 123 112 d_X8_order__109 rfl rfl (by have := bI_r (inn d 0 999); omega) (by have := bI_r (inn d 0 999); omega) (fun k109 => ?_) (fun k109 => ?_)
                          · replace k109 := bI_0.mp k109
                            refine xv (x_aload_n 124 d_X8_order__123 rfl rfl) ?_
                            refine xv (x_iconst 125 d_X8_order__124 rfl) ?_
                            refine xv (x_iconst 126 d_X8_order__125 rfl) ?_
                            obtain ⟨r126, h126, e126, z126, y126⟩ := S_X8_refuse (E := E) (h := h) (am := am) (M := (uM (uM (uM (uM M 0 5 0) 4 0 a) 4 1 b) 4 2 c)) (y := 2) (z := 0) 
                            subst z126
                            subst y126
                            refine xv (x_inv1 129 (as := [Value.int (zi 2), Value.int (zi 0)]) d_X8_order__126 rfl c_8_90 rfl (Nat.le_of_ble_eq_true rfl) (Nat.le_of_ble_eq_true rfl) m_o (Nat.le_of_ble_eq_true rfl) (Nat.le_of_ble_eq_true rfl) rfl e126) ?_
                            show Xv E q_m_X8_order_ 129 [Value.ref am, Value.int (zi d), Value.int (zi a), Value.int (zi b), Value.int (zi c), Value.int (zi 1), Value.int (zi (((0 + 1) + 1) + 1))] [Value.int (zi 0)] (q_mw h am (uM (uM (uM (uM (uM (uM (uM M 0 5 0) 4 0 a) 4 1 b) 4 2 c) 0 5 1) 0 6 2) 0 7 0)) Q
                            refine xv_r (x_ireturn d_X8_order__129 rfl rfl) ?_
                            have er : mOrd (M 1) d a b c = (2, 0) := by first | (exfalso; omega) | (unfold mOrd; repeat (first | rw [if_pos (by omega)] | rw [if_neg (by omega)]))
                            refine hQ _ _ ?_
                            unfold mMu2
                            rw [er]
                            exact ⟨rfl, rfl⟩
                          · replace k109 := bI_n0.mp k109
                            refine xv (x_iload_n 113 d_X8_order__112 rfl rfl) ?_
                            refine xv (x_iconst 114 d_X8_order__113 rfl) ?_
                            refine v_icmp_ne 130 117 d_X8_order__114 rfl rfl (by omega) (by omega) (by omega) (by omega) (fun k114 => ?_) (fun k114 => ?_)
                            · refine xv (x_aload_n 131 d_X8_order__130 rfl rfl) ?_
                              refine xv (x_getfield 134 d_X8_order__131 rfl f_8_9 (Nat.le_of_ble_eq_true rfl) (Nat.le_of_ble_eq_true rfl) (q_gf_of m_o rfl)) ?_
                              refine xv (x_iconst 135 d_X8_order__134 rfl) ?_
                              refine xv (x_iaload 136 d_X8_order__135 rfl ((m_g1 (by omega) (by omega)).trans (rfl : _ = some (Value.int (zi ((M 1) 4)))))) ?_
                              have q_91 : -1000000 ≤ (M 1) 4 ∧ (M 1) 4 ≤ 1000000 := hr _
                              refine xv (x_bipush 138 d_X8_order__136 rfl rfl) ?_
                              refine v_icmp_ne 148 141 d_X8_order__138 rfl rfl (by omega) (by omega) (by omega) (by omega) (fun k138 => ?_) (fun k138 => ?_)
                              · refine xv (x_iconst 149 d_X8_order__148 rfl) ?_
                                refine xv (x_istore 151 d_X8_order__149 rfl (Nat.le_of_ble_eq_true rfl)) ?_
                                show Xv E q_m_X8_order_ 151 [Value.ref am, Value.int (zi d), Value.int (zi a), Value.int (zi b), Value.int (zi c), Value.int (zi 1), Value.int (zi 0)] [] (q_mw h am (uM (uM (uM (uM M 0 5 0) 4 0 a) 4 1 b) 4 2 c)) Q
                                refine xv (x_iload 153 d_X8_order__151 rfl rfl) ?_
                                refine xv (x_iload 155 d_X8_order__153 rfl rfl) ?_
                                refine v_icmp_ge 196 158 d_X8_order__155 rfl rfl (by omega) (by omega) (by omega) (by omega) (fun k155 => ?_) (fun k155 => ?_)
                                · omega
                                · refine xv (x_aload_n 159 d_X8_order__158 rfl rfl) ?_
                                  refine xv (x_getfield 162 d_X8_order__159 rfl f_8_9 (Nat.le_of_ble_eq_true rfl) (Nat.le_of_ble_eq_true rfl) (q_gf_of m_o rfl)) ?_
                                  refine xv (x_bipush 164 d_X8_order__162 rfl rfl) ?_
                                  refine xv (x_aload_n 165 d_X8_order__164 rfl rfl) ?_
                                  refine xv (x_getfield 168 d_X8_order__165 rfl f_8_19 (Nat.le_of_ble_eq_true rfl) (Nat.le_of_ble_eq_true rfl) (q_gf_of m_o rfl)) ?_
                                  refine xv (x_iload 170 d_X8_order__168 rfl rfl) ?_
                                  refine xv (x_iaload 171 d_X8_order__170 rfl ((m_g4 (by omega) (by omega)).trans (rfl : _ = some (Value.int (zi a))))) ?_
                                  refine xv (x_iadd 172 d_X8_order__171 rfl) ?_
                                  refine xv (x_iaload 173 d_X8_order__172 rfl ((m_g1 (by omega) (by omega)).trans (rfl : _ = some (Value.int (zi ((M 1) (8 + a))))))) ?_
                                  have q_92 : -1000000 ≤ (M 1) (8 + a) ∧ (M 1) (8 + a) ≤ 1000000 := hr _
                                  refine v_if_eq 190 176 d_X8_order__173 rfl rfl (by omega) (by omega) (fun k173 => ?_) (fun k173 => ?_)
                                  · refine xv (x_iinc 193 d_X8_order__190 rfl rfl) ?_
                                    show Xv E q_m_X8_order_ 193 [Value.ref am, Value.int (zi d), Value.int (zi a), Value.int (zi b), Value.int (zi c), Value.int (zi 1), Value.int (zi (0 + 1))] [] (q_mw h am (uM (uM (uM (uM M 0 5 0) 4 0 a) 4 1 b) 4 2 c)) Q
                                    refine xv (x_goto 151 d_X8_order__193 rfl) ?_
                                    refine xv (x_iload 153 d_X8_order__151 rfl rfl) ?_
                                    refine xv (x_iload 155 d_X8_order__153 rfl rfl) ?_
                                    refine v_icmp_ge 196 158 d_X8_order__155 rfl rfl (by omega) (by omega) (by omega) (by omega) (fun k155 => ?_) (fun k155 => ?_)
                                    · refine xv (x_aload_n 197 d_X8_order__196 rfl rfl) ?_
                                      obtain ⟨r197, h197, e197, z197, y197⟩ := S_X8_change (E := E) (h := h) (am := am) (M := (uM (uM (uM (uM M 0 5 0) 4 0 a) 4 1 b) 4 2 c)) hc
                                      subst z197
                                      subst y197
                                      refine xv (x_inv0 200 (as := []) d_X8_order__197 rfl c_8_100 rfl (Nat.le_of_ble_eq_true rfl) (Nat.le_of_ble_eq_true rfl) m_o (Nat.le_of_ble_eq_true rfl) (Nat.le_of_ble_eq_true rfl) rfl e197) ?_
                                      generalize hM2 : mch (uM (uM (uM (uM M 0 5 0) 4 0 a) 4 1 b) 4 2 c) = M2
                                      have e2 : M2 1 = M 1 := by rw [← hM2]; exact mch_1
                                      have e4 : M2 4 = (u1 (u1 (u1 (M 4) 0 a) 1 b) 2 c) := by rw [← hM2]; exact mch_s (by decide) (by decide)
                                      have eM : M2 = uA (uA M2 1 (M 1)) 4 (u1 (u1 (u1 (M 4) 0 a) 1 b) 2 c) := by rw [← e2, uA_self, ← e4, uA_self]
                                      rw [eM]
                                      show Xv E q_m_X8_order_ 200 [Value.ref am, Value.int (zi d), Value.int (zi a), Value.int (zi b), Value.int (zi c), Value.int (zi 1), Value.int (zi (0 + 1))] [] (q_mw h am (uA (uA M2 1 (M 1)) 4 (u1 (u1 (u1 (M 4) 0 a) 1 b) 2 c))) Q
                                      refine xv (x_aload_n 201 d_X8_order__200 rfl rfl) ?_
                                      refine xv (x_getfield 204 d_X8_order__201 rfl f_8_9 (Nat.le_of_ble_eq_true rfl) (Nat.le_of_ble_eq_true rfl) (q_gf_of m_o rfl)) ?_
                                      refine xv (x_iconst 205 d_X8_order__204 rfl) ?_
                                      refine xv (x_iaload 206 d_X8_order__205 rfl ((m_g1 (by omega) (by omega)).trans (rfl : _ = some (Value.int (zi ((M 1) 4)))))) ?_
                                      have q_93 : -1000000 ≤ (M 1) 4 ∧ (M 1) 4 ≤ 1000000 := hr _
                                      refine xv (x_istore 208 d_X8_order__206 rfl (Nat.le_of_ble_eq_true rfl)) ?_
                                      show Xv E q_m_X8_order_ 208 [Value.ref am, Value.int (zi d), Value.int (zi a), Value.int (zi b), Value.int (zi c), Value.int (zi 1), Value.int (zi ((M 1) 4))] [] (q_mw h am (uA (uA M2 1 (M 1)) 4 (u1 (u1 (u1 (M 4) 0 a) 1 b) 2 c))) Q
                                      refine xv (x_aload_n 209 d_X8_order__208 rfl rfl) ?_
                                      refine xv (x_getfield 212 d_X8_order__209 rfl f_8_9 (Nat.le_of_ble_eq_true rfl) (Nat.le_of_ble_eq_true rfl) (q_gf_of m_o rfl)) ?_
                                      refine xv (x_iload 214 d_X8_order__212 rfl rfl) ?_
                                      refine xv (x_ins1 217 (as := [Value.int (zi ((M 1) 4))]) d_X8_order__214 rfl c_8_106 rfl (Nat.le_of_ble_eq_true rfl) (Nat.le_of_ble_eq_true rfl) (Nat.le_of_ble_eq_true rfl) rfl (S_X8_order (E := E) (h := h) (am := am) (M := (uA (uA M2 1 (M 1)) 4 (u1 (u1 (u1 (M 4) 0 a) 1 b) 2 c))))) ?_
                                      show Xv E q_m_X8_order_ 217 [Value.ref am, Value.int (zi d), Value.int (zi a), Value.int (zi b), Value.int (zi c), Value.int (zi 1), Value.int (zi ((M 1) 4))] [Value.int (zi (320 + 8 * ((M 1) 4))), Value.ref (am + 1)] (q_mw h am (uA (uA M2 1 (M 1)) 4 (u1 (u1 (u1 (M 4) 0 a) 1 b) 2 c))) Q
                                      refine xv (x_iconst 218 d_X8_order__217 rfl) ?_
                                      refine xv (x_iadd 219 d_X8_order__218 rfl) ?_
                                      refine xv (x_iload_n 220 d_X8_order__219 rfl rfl) ?_
                                      refine xv (x_iastore 221 d_X8_order__220 rfl (m_s1 (by omega) (by omega))) ?_
                                      show Xv E q_m_X8_order_ 221 [Value.ref am, Value.int (zi d), Value.int (zi a), Value.int (zi b), Value.int (zi c), Value.int (zi 1), Value.int (zi ((M 1) 4))] [] (q_mw h am (uM (uA (uA M2 1 (M 1)) 4 (u1 (u1 (u1 (M 4) 0 a) 1 b) 2 c)) 1 ((320 + 8 * ((M 1) 4)) + 0) d)) Q
                                      refine xv (x_aload_n 222 d_X8_order__221 rfl rfl) ?_
                                      refine xv (x_getfield 225 d_X8_order__222 rfl f_8_9 (Nat.le_of_ble_eq_true rfl) (Nat.le_of_ble_eq_true rfl) (q_gf_of m_o rfl)) ?_
                                      refine xv (x_iload 227 d_X8_order__225 rfl rfl) ?_
                                      refine xv (x_ins1 230 (as := [Value.int (zi ((M 1) 4))]) d_X8_order__227 rfl c_8_106 rfl (Nat.le_of_ble_eq_true rfl) (Nat.le_of_ble_eq_true rfl) (Nat.le_of_ble_eq_true rfl) rfl (S_X8_order (E := E) (h := h) (am := am) (M := (uM (uA (uA M2 1 (M 1)) 4 (u1 (u1 (u1 (M 4) 0 a) 1 b) 2 c)) 1 ((320 + 8 * ((M 1) 4)) + 0) d)))) ?_
                                      show Xv E q_m_X8_order_ 230 [Value.ref am, Value.int (zi d), Value.int (zi a), Value.int (zi b), Value.int (zi c), Value.int (zi 1), Value.int (zi ((M 1) 4))] [Value.int (zi (320 + 8 * ((M 1) 4))), Value.ref (am + 1)] (q_mw h am (uM (uA (uA M2 1 (M 1)) 4 (u1 (u1 (u1 (M 4) 0 a) 1 b) 2 c)) 1 ((320 + 8 * ((M 1) 4)) + 0) d)) Q
                                      refine xv (x_iconst 231 d_X8_order__230 rfl) ?_
                                      refine xv (x_iadd 232 d_X8_order__231 rfl) ?_
                                      refine xv (x_iload 234 d_X8_order__232 rfl rfl) ?_
                                      refine xv (x_iastore 235 d_X8_order__234 rfl (m_s1 (by omega) (by omega))) ?_
                                      show Xv E q_m_X8_order_ 235 [Value.ref am, Value.int (zi d), Value.int (zi a), Value.int (zi b), Value.int (zi c), Value.int (zi 1), Value.int (zi ((M 1) 4))] [] (q_mw h am (uM (uM (uA (uA M2 1 (M 1)) 4 (u1 (u1 (u1 (M 4) 0 a) 1 b) 2 c)) 1 ((320 + 8 * ((M 1) 4)) + 0) d) 1 ((320 + 8 * ((M 1) 4)) + 1) 1)) Q
                                      refine xv (x_aload_n 236 d_X8_order__235 rfl rfl) ?_
                                      refine xv (x_getfield 239 d_X8_order__236 rfl f_8_9 (Nat.le_of_ble_eq_true rfl) (Nat.le_of_ble_eq_true rfl) (q_gf_of m_o rfl)) ?_
                                      refine xv (x_iload 241 d_X8_order__239 rfl rfl) ?_
                                      refine xv (x_ins1 244 (as := [Value.int (zi ((M 1) 4))]) d_X8_order__241 rfl c_8_106 rfl (Nat.le_of_ble_eq_true rfl) (Nat.le_of_ble_eq_true rfl) (Nat.le_of_ble_eq_true rfl) rfl (S_X8_order (E := E) (h := h) (am := am) (M := (uM (uM (uA (uA M2 1 (M 1)) 4 (u1 (u1 (u1 (M 4) 0 a) 1 b) 2 c)) 1 ((320 + 8 * ((M 1) 4)) + 0) d) 1 ((320 + 8 * ((M 1) 4)) + 1) 1)))) ?_
                                      show Xv E q_m_X8_order_ 244 [Value.ref am, Value.int (zi d), Value.int (zi a), Value.int (zi b), Value.int (zi c), Value.int (zi 1), Value.int (zi ((M 1) 4))] [Value.int (zi (320 + 8 * ((M 1) 4))), Value.ref (am + 1)] (q_mw h am (uM (uM (uA (uA M2 1 (M 1)) 4 (u1 (u1 (u1 (M 4) 0 a) 1 b) 2 c)) 1 ((320 + 8 * ((M 1) 4)) + 0) d) 1 ((320 + 8 * ((M 1) 4)) + 1) 1)) Q
                                      refine xv (x_iconst 245 d_X8_order__244 rfl) ?_
                                      refine xv (x_iadd 246 d_X8_order__245 rfl) ?_
                                      refine xv (x_iconst 247 d_X8_order__246 rfl) ?_
                                      refine xv (x_iastore 248 d_X8_order__247 rfl (m_s1 (by omega) (by omega))) ?_
                                      show Xv E q_m_X8_order_ 248 [Value.ref am, Value.int (zi d), Value.int (zi a), Value.int (zi b), Value.int (zi c), Value.int (zi 1), Value.int (zi ((M 1) 4))] [] (q_mw h am (uM (uM (uM (uA (uA M2 1 (M 1)) 4 (u1 (u1 (u1 (M 4) 0 a) 1 b) 2 c)) 1 ((320 + 8 * ((M 1) 4)) + 0) d) 1 ((320 + 8 * ((M 1) 4)) + 1) 1) 1 ((320 + 8 * ((M 1) 4)) + 2) 0)) Q
                                      refine xv (x_aload_n 249 d_X8_order__248 rfl rfl) ?_
                                      refine xv (x_getfield 252 d_X8_order__249 rfl f_8_9 (Nat.le_of_ble_eq_true rfl) (Nat.le_of_ble_eq_true rfl) (q_gf_of m_o rfl)) ?_
                                      refine xv (x_iload 254 d_X8_order__252 rfl rfl) ?_
                                      refine xv (x_ins1 257 (as := [Value.int (zi ((M 1) 4))]) d_X8_order__254 rfl c_8_106 rfl (Nat.le_of_ble_eq_true rfl) (Nat.le_of_ble_eq_true rfl) (Nat.le_of_ble_eq_true rfl) rfl (S_X8_order (E := E) (h := h) (am := am) (M := (uM (uM (uM (uA (uA M2 1 (M 1)) 4 (u1 (u1 (u1 (M 4) 0 a) 1 b) 2 c)) 1 ((320 + 8 * ((M 1) 4)) + 0) d) 1 ((320 + 8 * ((M 1) 4)) + 1) 1) 1 ((320 + 8 * ((M 1) 4)) + 2) 0)))) ?_
                                      show Xv E q_m_X8_order_ 257 [Value.ref am, Value.int (zi d), Value.int (zi a), Value.int (zi b), Value.int (zi c), Value.int (zi 1), Value.int (zi ((M 1) 4))] [Value.int (zi (320 + 8 * ((M 1) 4))), Value.ref (am + 1)] (q_mw h am (uM (uM (uM (uA (uA M2 1 (M 1)) 4 (u1 (u1 (u1 (M 4) 0 a) 1 b) 2 c)) 1 ((320 + 8 * ((M 1) 4)) + 0) d) 1 ((320 + 8 * ((M 1) 4)) + 1) 1) 1 ((320 + 8 * ((M 1) 4)) + 2) 0)) Q
                                      refine xv (x_iconst 258 d_X8_order__257 rfl) ?_
                                      refine xv (x_iadd 259 d_X8_order__258 rfl) ?_
                                      refine xv (x_iconst 260 d_X8_order__259 rfl) ?_
                                      refine xv (x_iastore 261 d_X8_order__260 rfl (m_s1 (by omega) (by omega))) ?_
                                      show Xv E q_m_X8_order_ 261 [Value.ref am, Value.int (zi d), Value.int (zi a), Value.int (zi b), Value.int (zi c), Value.int (zi 1), Value.int (zi ((M 1) 4))] [] (q_mw h am (uM (uM (uM (uM (uA (uA M2 1 (M 1)) 4 (u1 (u1 (u1 (M 4) 0 a) 1 b) 2 c)) 1 ((320 + 8 * ((M 1) 4)) + 0) d) 1 ((320 + 8 * ((M 1) 4)) + 1) 1) 1 ((320 + 8 * ((M 1) 4)) + 2) 0) 1 ((320 + 8 * ((M 1) 4)) + 3) (-1))) Q
                                      refine xv (x_aload_n 262 d_X8_order__261 rfl rfl) ?_
                                      refine xv (x_getfield 265 d_X8_order__262 rfl f_8_9 (Nat.le_of_ble_eq_true rfl) (Nat.le_of_ble_eq_true rfl) (q_gf_of m_o rfl)) ?_
                                      refine xv (x_iload 267 d_X8_order__265 rfl rfl) ?_
                                      refine xv (x_ins1 270 (as := [Value.int (zi ((M 1) 4))]) d_X8_order__267 rfl c_8_106 rfl (Nat.le_of_ble_eq_true rfl) (Nat.le_of_ble_eq_true rfl) (Nat.le_of_ble_eq_true rfl) rfl (S_X8_order (E := E) (h := h) (am := am) (M := (uM (uM (uM (uM (uA (uA M2 1 (M 1)) 4 (u1 (u1 (u1 (M 4) 0 a) 1 b) 2 c)) 1 ((320 + 8 * ((M 1) 4)) + 0) d) 1 ((320 + 8 * ((M 1) 4)) + 1) 1) 1 ((320 + 8 * ((M 1) 4)) + 2) 0) 1 ((320 + 8 * ((M 1) 4)) + 3) (-1))))) ?_
                                      show Xv E q_m_X8_order_ 270 [Value.ref am, Value.int (zi d), Value.int (zi a), Value.int (zi b), Value.int (zi c), Value.int (zi 1), Value.int (zi ((M 1) 4))] [Value.int (zi (320 + 8 * ((M 1) 4))), Value.ref (am + 1)] (q_mw h am (uM (uM (uM (uM (uA (uA M2 1 (M 1)) 4 (u1 (u1 (u1 (M 4) 0 a) 1 b) 2 c)) 1 ((320 + 8 * ((M 1) 4)) + 0) d) 1 ((320 + 8 * ((M 1) 4)) + 1) 1) 1 ((320 + 8 * ((M 1) 4)) + 2) 0) 1 ((320 + 8 * ((M 1) 4)) + 3) (-1))) Q
                                      refine xv (x_iconst 271 d_X8_order__270 rfl) ?_
                                      refine xv (x_iadd 272 d_X8_order__271 rfl) ?_
                                      refine xv (x_iconst 273 d_X8_order__272 rfl) ?_
                                      refine xv (x_iastore 274 d_X8_order__273 rfl (m_s1 (by omega) (by omega))) ?_
                                      show Xv E q_m_X8_order_ 274 [Value.ref am, Value.int (zi d), Value.int (zi a), Value.int (zi b), Value.int (zi c), Value.int (zi 1), Value.int (zi ((M 1) 4))] [] (q_mw h am (uM (uM (uM (uM (uM (uA (uA M2 1 (M 1)) 4 (u1 (u1 (u1 (M 4) 0 a) 1 b) 2 c)) 1 ((320 + 8 * ((M 1) 4)) + 0) d) 1 ((320 + 8 * ((M 1) 4)) + 1) 1) 1 ((320 + 8 * ((M 1) 4)) + 2) 0) 1 ((320 + 8 * ((M 1) 4)) + 3) (-1)) 1 ((320 + 8 * ((M 1) 4)) + 4) (-1))) Q
                                      refine xv (x_aload_n 275 d_X8_order__274 rfl rfl) ?_
                                      refine xv (x_getfield 278 d_X8_order__275 rfl f_8_19 (Nat.le_of_ble_eq_true rfl) (Nat.le_of_ble_eq_true rfl) (q_gf_of m_o rfl)) ?_
                                      refine xv (x_iconst 279 d_X8_order__278 rfl) ?_
                                      refine xv (x_aload_n 280 d_X8_order__279 rfl rfl) ?_
                                      refine xv (x_getfield 283 d_X8_order__280 rfl f_8_9 (Nat.le_of_ble_eq_true rfl) (Nat.le_of_ble_eq_true rfl) (q_gf_of m_o rfl)) ?_
                                      refine xv (x_iload 285 d_X8_order__283 rfl rfl) ?_
                                      refine xv (x_ins1 288 (as := [Value.int (zi ((M 1) 4))]) d_X8_order__285 rfl c_8_106 rfl (Nat.le_of_ble_eq_true rfl) (Nat.le_of_ble_eq_true rfl) (Nat.le_of_ble_eq_true rfl) rfl (S_X8_order (E := E) (h := h) (am := am) (M := (uM (uM (uM (uM (uM (uA (uA M2 1 (M 1)) 4 (u1 (u1 (u1 (M 4) 0 a) 1 b) 2 c)) 1 ((320 + 8 * ((M 1) 4)) + 0) d) 1 ((320 + 8 * ((M 1) 4)) + 1) 1) 1 ((320 + 8 * ((M 1) 4)) + 2) 0) 1 ((320 + 8 * ((M 1) 4)) + 3) (-1)) 1 ((320 + 8 * ((M 1) 4)) + 4) (-1))))) ?_
                                      show Xv E q_m_X8_order_ 288 [Value.ref am, Value.int (zi d), Value.int (zi a), Value.int (zi b), Value.int (zi c), Value.int (zi 1), Value.int (zi ((M 1) 4))] [Value.int (zi (320 + 8 * ((M 1) 4))), Value.ref (am + 1), Value.int (zi 0), Value.ref (am + 4)] (q_mw h am (uM (uM (uM (uM (uM (uA (uA M2 1 (M 1)) 4 (u1 (u1 (u1 (M 4) 0 a) 1 b) 2 c)) 1 ((320 + 8 * ((M 1) 4)) + 0) d) 1 ((320 + 8 * ((M 1) 4)) + 1) 1) 1 ((320 + 8 * ((M 1) 4)) + 2) 0) 1 ((320 + 8 * ((M 1) 4)) + 3) (-1)) 1 ((320 + 8 * ((M 1) 4)) + 4) (-1))) Q
                                      refine xv (x_iconst 289 d_X8_order__288 rfl) ?_
                                      refine xv (x_iadd 290 d_X8_order__289 rfl) ?_
                                      refine xv (x_iconst 291 d_X8_order__290 rfl) ?_
                                      refine xv (x_copy 294 d_X8_order__291 rfl rfl rfl (Nat.le_of_ble_eq_true rfl) (Nat.le_of_ble_eq_true rfl) (Nat.le_of_ble_eq_true rfl) (m_cpy 4 1 m_a4 m_a1 m_w1 (by omega) (by omega) (by omega) (by omega) (by omega) (by decide) (by decide))) ?_
                                      show Xv E q_m_X8_order_ 294 [Value.ref am, Value.int (zi d), Value.int (zi a), Value.int (zi b), Value.int (zi c), Value.int (zi 1), Value.int (zi ((M 1) 4))] [] (q_mw h am (uA (uM (uM (uM (uM (uM (uA (uA M2 1 (M 1)) 4 (u1 (u1 (u1 (M 4) 0 a) 1 b) 2 c)) 1 ((320 + 8 * ((M 1) 4)) + 0) d) 1 ((320 + 8 * ((M 1) 4)) + 1) 1) 1 ((320 + 8 * ((M 1) 4)) + 2) 0) 1 ((320 + 8 * ((M 1) 4)) + 3) (-1)) 1 ((320 + 8 * ((M 1) 4)) + 4) (-1)) 1 (cpI (u1 (u1 (u1 (M 4) 0 a) 1 b) 2 c) (u1 (u1 (u1 (u1 (u1 (M 1) ((320 + 8 * ((M 1) 4)) + 0) d) ((320 + 8 * ((M 1) 4)) + 1) 1) ((320 + 8 * ((M 1) 4)) + 2) 0) ((320 + 8 * ((M 1) 4)) + 3) (-1)) ((320 + 8 * ((M 1) 4)) + 4) (-1)) 0 ((320 + 8 * ((M 1) 4)) + 5) 3))) Q
                                      refine xv (x_aload_n 295 d_X8_order__294 rfl rfl) ?_
                                      refine xv (x_getfield 298 d_X8_order__295 rfl f_8_9 (Nat.le_of_ble_eq_true rfl) (Nat.le_of_ble_eq_true rfl) (q_gf_of m_o rfl)) ?_
                                      refine xv (x_iconst 299 d_X8_order__298 rfl) ?_
                                      refine xv (x_dup2 300 d_X8_order__299 rfl rfl rfl) ?_
                                      refine xv (x_iaload 301 d_X8_order__300 rfl ((m_g1 (by omega) (by omega)).trans (rfl : _ = some (Value.int (zi ((cpI (u1 (u1 (u1 (M 4) 0 a) 1 b) 2 c) (u1 (u1 (u1 (u1 (u1 (M 1) ((320 + 8 * ((M 1) 4)) + 0) d) ((320 + 8 * ((M 1) 4)) + 1) 1) ((320 + 8 * ((M 1) 4)) + 2) 0) ((320 + 8 * ((M 1) 4)) + 3) (-1)) ((320 + 8 * ((M 1) 4)) + 4) (-1)) 0 ((320 + 8 * ((M 1) 4)) + 5) 3) 4)))))) ?_
                                      refine xv (x_iconst 302 d_X8_order__301 rfl) ?_
                                      refine xv (x_iadd 303 d_X8_order__302 rfl) ?_
                                      refine xv (x_iastore 304 d_X8_order__303 rfl (m_s1 (by omega) (by omega))) ?_
                                      show Xv E q_m_X8_order_ 304 [Value.ref am, Value.int (zi d), Value.int (zi a), Value.int (zi b), Value.int (zi c), Value.int (zi 1), Value.int (zi ((M 1) 4))] [] (q_mw h am (uM (uA (uM (uM (uM (uM (uM (uA (uA M2 1 (M 1)) 4 (u1 (u1 (u1 (M 4) 0 a) 1 b) 2 c)) 1 ((320 + 8 * ((M 1) 4)) + 0) d) 1 ((320 + 8 * ((M 1) 4)) + 1) 1) 1 ((320 + 8 * ((M 1) 4)) + 2) 0) 1 ((320 + 8 * ((M 1) 4)) + 3) (-1)) 1 ((320 + 8 * ((M 1) 4)) + 4) (-1)) 1 (cpI (u1 (u1 (u1 (M 4) 0 a) 1 b) 2 c) (u1 (u1 (u1 (u1 (u1 (M 1) ((320 + 8 * ((M 1) 4)) + 0) d) ((320 + 8 * ((M 1) 4)) + 1) 1) ((320 + 8 * ((M 1) 4)) + 2) 0) ((320 + 8 * ((M 1) 4)) + 3) (-1)) ((320 + 8 * ((M 1) 4)) + 4) (-1)) 0 ((320 + 8 * ((M 1) 4)) + 5) 3)) 1 4 (((cpI (u1 (u1 (u1 (M 4) 0 a) 1 b) 2 c) (u1 (u1 (u1 (u1 (u1 (M 1) ((320 + 8 * ((M 1) 4)) + 0) d) ((320 + 8 * ((M 1) 4)) + 1) 1) ((320 + 8 * ((M 1) 4)) + 2) 0) ((320 + 8 * ((M 1) 4)) + 3) (-1)) ((320 + 8 * ((M 1) 4)) + 4) (-1)) 0 ((320 + 8 * ((M 1) 4)) + 5) 3) 4) + 1))) Q
                                      refine xv (x_iload 306 d_X8_order__304 rfl rfl) ?_
                                      refine xv_r (x_ireturn d_X8_order__306 rfl rfl) ?_
                                      have er : mOrd (M 1) d a b c = (0, 0) := by first | (exfalso; omega) | (unfold mOrd; repeat (first | rw [if_pos (by omega)] | rw [if_neg (by omega)]))
                                      have ec : cntO b c = 1 := by first | (exfalso; omega) | (unfold cntO; repeat (first | rw [if_pos (by omega)] | rw [if_neg (by omega)]))
                                      refine hQ _ _ ?_
                                      unfold mMu2
                                      rw [er, if_pos rfl, ec]
                                      refine ⟨rfl, ?_⟩
                                      unfold lnO
                                      rw [hM2, ← eM]
                                      simp only [uM_uA, uA_uA, uA_eq]
                                      rfl
                                    · omega
                                  · refine xv (x_aload_n 177 d_X8_order__176 rfl rfl) ?_
                                    refine xv (x_bipush 179 d_X8_order__177 rfl rfl) ?_
                                    refine xv (x_aload_n 180 d_X8_order__179 rfl rfl) ?_
                                    refine xv (x_getfield 183 d_X8_order__180 rfl f_8_19 (Nat.le_of_ble_eq_true rfl) (Nat.le_of_ble_eq_true rfl) (q_gf_of m_o rfl)) ?_
                                    refine xv (x_iload 185 d_X8_order__183 rfl rfl) ?_
                                    refine xv (x_iaload 186 d_X8_order__185 rfl ((m_g4 (by omega) (by omega)).trans (rfl : _ = some (Value.int (zi a))))) ?_
                                    obtain ⟨r186, h186, e186, z186, y186⟩ := S_X8_refuse (E := E) (h := h) (am := am) (M := (uM (uM (uM (uM M 0 5 0) 4 0 a) 4 1 b) 4 2 c)) (y := 12) (z := a) 
                                    subst z186
                                    subst y186
                                    refine xv (x_inv1 189 (as := [Value.int (zi 12), Value.int (zi a)]) d_X8_order__186 rfl c_8_90 rfl (Nat.le_of_ble_eq_true rfl) (Nat.le_of_ble_eq_true rfl) m_o (Nat.le_of_ble_eq_true rfl) (Nat.le_of_ble_eq_true rfl) rfl e186) ?_
                                    show Xv E q_m_X8_order_ 189 [Value.ref am, Value.int (zi d), Value.int (zi a), Value.int (zi b), Value.int (zi c), Value.int (zi 1), Value.int (zi 0)] [Value.int (zi 0)] (q_mw h am (uM (uM (uM (uM (uM (uM (uM M 0 5 0) 4 0 a) 4 1 b) 4 2 c) 0 5 1) 0 6 12) 0 7 a)) Q
                                    refine xv_r (x_ireturn d_X8_order__189 rfl rfl) ?_
                                    have er : mOrd (M 1) d a b c = (12, a) := by first | (exfalso; omega) | (unfold mOrd; repeat (first | rw [if_pos (by omega)] | rw [if_neg (by omega)]))
                                    refine hQ _ _ ?_
                                    unfold mMu2
                                    rw [er]
                                    exact ⟨rfl, rfl⟩
                              · refine xv (x_aload_n 142 d_X8_order__141 rfl rfl) ?_
                                refine xv (x_iconst 143 d_X8_order__142 rfl) ?_
                                refine xv (x_iconst 144 d_X8_order__143 rfl) ?_
                                obtain ⟨r144, h144, e144, z144, y144⟩ := S_X8_refuse (E := E) (h := h) (am := am) (M := (uM (uM (uM (uM M 0 5 0) 4 0 a) 4 1 b) 4 2 c)) (y := 3) (z := 0) 
                                subst z144
                                subst y144
                                refine xv (x_inv1 147 (as := [Value.int (zi 3), Value.int (zi 0)]) d_X8_order__144 rfl c_8_90 rfl (Nat.le_of_ble_eq_true rfl) (Nat.le_of_ble_eq_true rfl) m_o (Nat.le_of_ble_eq_true rfl) (Nat.le_of_ble_eq_true rfl) rfl e144) ?_
                                show Xv E q_m_X8_order_ 147 [Value.ref am, Value.int (zi d), Value.int (zi a), Value.int (zi b), Value.int (zi c), Value.int (zi 1), Value.int (zi (((0 + 1) + 1) + 1))] [Value.int (zi 0)] (q_mw h am (uM (uM (uM (uM (uM (uM (uM M 0 5 0) 4 0 a) 4 1 b) 4 2 c) 0 5 1) 0 6 3) 0 7 0)) Q
                                refine xv_r (x_ireturn d_X8_order__147 rfl rfl) ?_
                                have er : mOrd (M 1) d a b c = (3, 0) := by first | (exfalso; omega) | (unfold mOrd; repeat (first | rw [if_pos (by omega)] | rw [if_neg (by omega)]))
                                refine hQ _ _ ?_
                                unfold mMu2
                                rw [er]
                                exact ⟨rfl, rfl⟩
                            · refine xv (x_iload 119 d_X8_order__117 rfl rfl) ?_
                              refine xv (x_iconst 120 d_X8_order__119 rfl) ?_
                              refine v_icmp_eq 130 123 d_X8_order__120 rfl rfl (by omega) (by omega) (by omega) (by omega) (fun k120 => ?_) (fun k120 => ?_)
                              · refine xv (x_aload_n 131 d_X8_order__130 rfl rfl) ?_
                                refine xv (x_getfield 134 d_X8_order__131 rfl f_8_9 (Nat.le_of_ble_eq_true rfl) (Nat.le_of_ble_eq_true rfl) (q_gf_of m_o rfl)) ?_
                                refine xv (x_iconst 135 d_X8_order__134 rfl) ?_
                                refine xv (x_iaload 136 d_X8_order__135 rfl ((m_g1 (by omega) (by omega)).trans (rfl : _ = some (Value.int (zi ((M 1) 4)))))) ?_
                                have q_94 : -1000000 ≤ (M 1) 4 ∧ (M 1) 4 ≤ 1000000 := hr _
                                refine xv (x_bipush 138 d_X8_order__136 rfl rfl) ?_
                                refine v_icmp_ne 148 141 d_X8_order__138 rfl rfl (by omega) (by omega) (by omega) (by omega) (fun k138 => ?_) (fun k138 => ?_)
                                · refine xv (x_iconst 149 d_X8_order__148 rfl) ?_
                                  refine xv (x_istore 151 d_X8_order__149 rfl (Nat.le_of_ble_eq_true rfl)) ?_
                                  show Xv E q_m_X8_order_ 151 [Value.ref am, Value.int (zi d), Value.int (zi a), Value.int (zi b), Value.int (zi c), Value.int (zi 1), Value.int (zi 0)] [] (q_mw h am (uM (uM (uM (uM M 0 5 0) 4 0 a) 4 1 b) 4 2 c)) Q
                                  refine xv (x_iload 153 d_X8_order__151 rfl rfl) ?_
                                  refine xv (x_iload 155 d_X8_order__153 rfl rfl) ?_
                                  refine v_icmp_ge 196 158 d_X8_order__155 rfl rfl (by omega) (by omega) (by omega) (by omega) (fun k155 => ?_) (fun k155 => ?_)
                                  · omega
                                  · refine xv (x_aload_n 159 d_X8_order__158 rfl rfl) ?_
                                    refine xv (x_getfield 162 d_X8_order__159 rfl f_8_9 (Nat.le_of_ble_eq_true rfl) (Nat.le_of_ble_eq_true rfl) (q_gf_of m_o rfl)) ?_
                                    refine xv (x_bipush 164 d_X8_order__162 rfl rfl) ?_
                                    refine xv (x_aload_n 165 d_X8_order__164 rfl rfl) ?_
                                    refine xv (x_getfield 168 d_X8_order__165 rfl f_8_19 (Nat.le_of_ble_eq_true rfl) (Nat.le_of_ble_eq_true rfl) (q_gf_of m_o rfl)) ?_
                                    refine xv (x_iload 170 d_X8_order__168 rfl rfl) ?_
                                    refine xv (x_iaload 171 d_X8_order__170 rfl ((m_g4 (by omega) (by omega)).trans (rfl : _ = some (Value.int (zi a))))) ?_
                                    refine xv (x_iadd 172 d_X8_order__171 rfl) ?_
                                    refine xv (x_iaload 173 d_X8_order__172 rfl ((m_g1 (by omega) (by omega)).trans (rfl : _ = some (Value.int (zi ((M 1) (8 + a))))))) ?_
                                    have q_95 : -1000000 ≤ (M 1) (8 + a) ∧ (M 1) (8 + a) ≤ 1000000 := hr _
                                    refine v_if_eq 190 176 d_X8_order__173 rfl rfl (by omega) (by omega) (fun k173 => ?_) (fun k173 => ?_)
                                    · refine xv (x_iinc 193 d_X8_order__190 rfl rfl) ?_
                                      show Xv E q_m_X8_order_ 193 [Value.ref am, Value.int (zi d), Value.int (zi a), Value.int (zi b), Value.int (zi c), Value.int (zi 1), Value.int (zi (0 + 1))] [] (q_mw h am (uM (uM (uM (uM M 0 5 0) 4 0 a) 4 1 b) 4 2 c)) Q
                                      refine xv (x_goto 151 d_X8_order__193 rfl) ?_
                                      refine xv (x_iload 153 d_X8_order__151 rfl rfl) ?_
                                      refine xv (x_iload 155 d_X8_order__153 rfl rfl) ?_
                                      refine v_icmp_ge 196 158 d_X8_order__155 rfl rfl (by omega) (by omega) (by omega) (by omega) (fun k155 => ?_) (fun k155 => ?_)
                                      · refine xv (x_aload_n 197 d_X8_order__196 rfl rfl) ?_
                                        obtain ⟨r197, h197, e197, z197, y197⟩ := S_X8_change (E := E) (h := h) (am := am) (M := (uM (uM (uM (uM M 0 5 0) 4 0 a) 4 1 b) 4 2 c)) hc
                                        subst z197
                                        subst y197
                                        refine xv (x_inv0 200 (as := []) d_X8_order__197 rfl c_8_100 rfl (Nat.le_of_ble_eq_true rfl) (Nat.le_of_ble_eq_true rfl) m_o (Nat.le_of_ble_eq_true rfl) (Nat.le_of_ble_eq_true rfl) rfl e197) ?_
                                        generalize hM2 : mch (uM (uM (uM (uM M 0 5 0) 4 0 a) 4 1 b) 4 2 c) = M2
                                        have e2 : M2 1 = M 1 := by rw [← hM2]; exact mch_1
                                        have e4 : M2 4 = (u1 (u1 (u1 (M 4) 0 a) 1 b) 2 c) := by rw [← hM2]; exact mch_s (by decide) (by decide)
                                        have eM : M2 = uA (uA M2 1 (M 1)) 4 (u1 (u1 (u1 (M 4) 0 a) 1 b) 2 c) := by rw [← e2, uA_self, ← e4, uA_self]
                                        rw [eM]
                                        show Xv E q_m_X8_order_ 200 [Value.ref am, Value.int (zi d), Value.int (zi a), Value.int (zi b), Value.int (zi c), Value.int (zi 1), Value.int (zi (0 + 1))] [] (q_mw h am (uA (uA M2 1 (M 1)) 4 (u1 (u1 (u1 (M 4) 0 a) 1 b) 2 c))) Q
                                        refine xv (x_aload_n 201 d_X8_order__200 rfl rfl) ?_
                                        refine xv (x_getfield 204 d_X8_order__201 rfl f_8_9 (Nat.le_of_ble_eq_true rfl) (Nat.le_of_ble_eq_true rfl) (q_gf_of m_o rfl)) ?_
                                        refine xv (x_iconst 205 d_X8_order__204 rfl) ?_
                                        refine xv (x_iaload 206 d_X8_order__205 rfl ((m_g1 (by omega) (by omega)).trans (rfl : _ = some (Value.int (zi ((M 1) 4)))))) ?_
                                        have q_96 : -1000000 ≤ (M 1) 4 ∧ (M 1) 4 ≤ 1000000 := hr _
                                        refine xv (x_istore 208 d_X8_order__206 rfl (Nat.le_of_ble_eq_true rfl)) ?_
                                        show Xv E q_m_X8_order_ 208 [Value.ref am, Value.int (zi d), Value.int (zi a), Value.int (zi b), Value.int (zi c), Value.int (zi 1), Value.int (zi ((M 1) 4))] [] (q_mw h am (uA (uA M2 1 (M 1)) 4 (u1 (u1 (u1 (M 4) 0 a) 1 b) 2 c))) Q
                                        refine xv (x_aload_n 209 d_X8_order__208 rfl rfl) ?_
                                        refine xv (x_getfield 212 d_X8_order__209 rfl f_8_9 (Nat.le_of_ble_eq_true rfl) (Nat.le_of_ble_eq_true rfl) (q_gf_of m_o rfl)) ?_
                                        refine xv (x_iload 214 d_X8_order__212 rfl rfl) ?_
                                        refine xv (x_ins1 217 (as := [Value.int (zi ((M 1) 4))]) d_X8_order__214 rfl c_8_106 rfl (Nat.le_of_ble_eq_true rfl) (Nat.le_of_ble_eq_true rfl) (Nat.le_of_ble_eq_true rfl) rfl (S_X8_order (E := E) (h := h) (am := am) (M := (uA (uA M2 1 (M 1)) 4 (u1 (u1 (u1 (M 4) 0 a) 1 b) 2 c))))) ?_
                                        show Xv E q_m_X8_order_ 217 [Value.ref am, Value.int (zi d), Value.int (zi a), Value.int (zi b), Value.int (zi c), Value.int (zi 1), Value.int (zi ((M 1) 4))] [Value.int (zi (320 + 8 * ((M 1) 4))), Value.ref (am + 1)] (q_mw h am (uA (uA M2 1 (M 1)) 4 (u1 (u1 (u1 (M 4) 0 a) 1 b) 2 c))) Q
                                        refine xv (x_iconst 218 d_X8_order__217 rfl) ?_
                                        refine xv (x_iadd 219 d_X8_order__218 rfl) ?_
                                        refine xv (x_iload_n 220 d_X8_order__219 rfl rfl) ?_
                                        refine xv (x_iastore 221 d_X8_order__220 rfl (m_s1 (by omega) (by omega))) ?_
                                        show Xv E q_m_X8_order_ 221 [Value.ref am, Value.int (zi d), Value.int (zi a), Value.int (zi b), Value.int (zi c), Value.int (zi 1), Value.int (zi ((M 1) 4))] [] (q_mw h am (uM (uA (uA M2 1 (M 1)) 4 (u1 (u1 (u1 (M 4) 0 a) 1 b) 2 c)) 1 ((320 + 8 * ((M 1) 4)) + 0) d)) Q
                                        refine xv (x_aload_n 222 d_X8_order__221 rfl rfl) ?_
                                        refine xv (x_getfield 225 d_X8_order__222 rfl f_8_9 (Nat.le_of_ble_eq_true rfl) (Nat.le_of_ble_eq_true rfl) (q_gf_of m_o rfl)) ?_
                                        refine xv (x_iload 227 d_X8_order__225 rfl rfl) ?_
                                        refine xv (x_ins1 230 (as := [Value.int (zi ((M 1) 4))]) d_X8_order__227 rfl c_8_106 rfl (Nat.le_of_ble_eq_true rfl) (Nat.le_of_ble_eq_true rfl) (Nat.le_of_ble_eq_true rfl) rfl (S_X8_order (E := E) (h := h) (am := am) (M := (uM (uA (uA M2 1 (M 1)) 4 (u1 (u1 (u1 (M 4) 0 a) 1 b) 2 c)) 1 ((320 + 8 * ((M 1) 4)) + 0) d)))) ?_
                                        show Xv E q_m_X8_order_ 230 [Value.ref am, Value.int (zi d), Value.int (zi a), Value.int (zi b), Value.int (zi c), Value.int (zi 1), Value.int (zi ((M 1) 4))] [Value.int (zi (320 + 8 * ((M 1) 4))), Value.ref (am + 1)] (q_mw h am (uM (uA (uA M2 1 (M 1)) 4 (u1 (u1 (u1 (M 4) 0 a) 1 b) 2 c)) 1 ((320 + 8 * ((M 1) 4)) + 0) d)) Q
                                        refine xv (x_iconst 231 d_X8_order__230 rfl) ?_
                                        refine xv (x_iadd 232 d_X8_order__231 rfl) ?_
                                        refine xv (x_iload 234 d_X8_order__232 rfl rfl) ?_
                                        refine xv (x_iastore 235 d_X8_order__234 rfl (m_s1 (by omega) (by omega))) ?_
                                        show Xv E q_m_X8_order_ 235 [Value.ref am, Value.int (zi d), Value.int (zi a), Value.int (zi b), Value.int (zi c), Value.int (zi 1), Value.int (zi ((M 1) 4))] [] (q_mw h am (uM (uM (uA (uA M2 1 (M 1)) 4 (u1 (u1 (u1 (M 4) 0 a) 1 b) 2 c)) 1 ((320 + 8 * ((M 1) 4)) + 0) d) 1 ((320 + 8 * ((M 1) 4)) + 1) 1)) Q
                                        refine xv (x_aload_n 236 d_X8_order__235 rfl rfl) ?_
                                        refine xv (x_getfield 239 d_X8_order__236 rfl f_8_9 (Nat.le_of_ble_eq_true rfl) (Nat.le_of_ble_eq_true rfl) (q_gf_of m_o rfl)) ?_
                                        refine xv (x_iload 241 d_X8_order__239 rfl rfl) ?_
                                        refine xv (x_ins1 244 (as := [Value.int (zi ((M 1) 4))]) d_X8_order__241 rfl c_8_106 rfl (Nat.le_of_ble_eq_true rfl) (Nat.le_of_ble_eq_true rfl) (Nat.le_of_ble_eq_true rfl) rfl (S_X8_order (E := E) (h := h) (am := am) (M := (uM (uM (uA (uA M2 1 (M 1)) 4 (u1 (u1 (u1 (M 4) 0 a) 1 b) 2 c)) 1 ((320 + 8 * ((M 1) 4)) + 0) d) 1 ((320 + 8 * ((M 1) 4)) + 1) 1)))) ?_
                                        show Xv E q_m_X8_order_ 244 [Value.ref am, Value.int (zi d), Value.int (zi a), Value.int (zi b), Value.int (zi c), Value.int (zi 1), Value.int (zi ((M 1) 4))] [Value.int (zi (320 + 8 * ((M 1) 4))), Value.ref (am + 1)] (q_mw h am (uM (uM (uA (uA M2 1 (M 1)) 4 (u1 (u1 (u1 (M 4) 0 a) 1 b) 2 c)) 1 ((320 + 8 * ((M 1) 4)) + 0) d) 1 ((320 + 8 * ((M 1) 4)) + 1) 1)) Q
                                        refine xv (x_iconst 245 d_X8_order__244 rfl) ?_
                                        refine xv (x_iadd 246 d_X8_order__245 rfl) ?_
                                        refine xv (x_iconst 247 d_X8_order__246 rfl) ?_
                                        refine xv (x_iastore 248 d_X8_order__247 rfl (m_s1 (by omega) (by omega))) ?_
                                        show Xv E q_m_X8_order_ 248 [Value.ref am, Value.int (zi d), Value.int (zi a), Value.int (zi b), Value.int (zi c), Value.int (zi 1), Value.int (zi ((M 1) 4))] [] (q_mw h am (uM (uM (uM (uA (uA M2 1 (M 1)) 4 (u1 (u1 (u1 (M 4) 0 a) 1 b) 2 c)) 1 ((320 + 8 * ((M 1) 4)) + 0) d) 1 ((320 + 8 * ((M 1) 4)) + 1) 1) 1 ((320 + 8 * ((M 1) 4)) + 2) 0)) Q
                                        refine xv (x_aload_n 249 d_X8_order__248 rfl rfl) ?_
                                        refine xv (x_getfield 252 d_X8_order__249 rfl f_8_9 (Nat.le_of_ble_eq_true rfl) (Nat.le_of_ble_eq_true rfl) (q_gf_of m_o rfl)) ?_
                                        refine xv (x_iload 254 d_X8_order__252 rfl rfl) ?_
                                        refine xv (x_ins1 257 (as := [Value.int (zi ((M 1) 4))]) d_X8_order__254 rfl c_8_106 rfl (Nat.le_of_ble_eq_true rfl) (Nat.le_of_ble_eq_true rfl) (Nat.le_of_ble_eq_true rfl) rfl (S_X8_order (E := E) (h := h) (am := am) (M := (uM (uM (uM (uA (uA M2 1 (M 1)) 4 (u1 (u1 (u1 (M 4) 0 a) 1 b) 2 c)) 1 ((320 + 8 * ((M 1) 4)) + 0) d) 1 ((320 + 8 * ((M 1) 4)) + 1) 1) 1 ((320 + 8 * ((M 1) 4)) + 2) 0)))) ?_
                                        show Xv E q_m_X8_order_ 257 [Value.ref am, Value.int (zi d), Value.int (zi a), Value.int (zi b), Value.int (zi c), Value.int (zi 1), Value.int (zi ((M 1) 4))] [Value.int (zi (320 + 8 * ((M 1) 4))), Value.ref (am + 1)] (q_mw h am (uM (uM (uM (uA (uA M2 1 (M 1)) 4 (u1 (u1 (u1 (M 4) 0 a) 1 b) 2 c)) 1 ((320 + 8 * ((M 1) 4)) + 0) d) 1 ((320 + 8 * ((M 1) 4)) + 1) 1) 1 ((320 + 8 * ((M 1) 4)) + 2) 0)) Q
                                        refine xv (x_iconst 258 d_X8_order__257 rfl) ?_
                                        refine xv (x_iadd 259 d_X8_order__258 rfl) ?_
                                        refine xv (x_iconst 260 d_X8_order__259 rfl) ?_
                                        refine xv (x_iastore 261 d_X8_order__260 rfl (m_s1 (by omega) (by omega))) ?_
                                        show Xv E q_m_X8_order_ 261 [Value.ref am, Value.int (zi d), Value.int (zi a), Value.int (zi b), Value.int (zi c), Value.int (zi 1), Value.int (zi ((M 1) 4))] [] (q_mw h am (uM (uM (uM (uM (uA (uA M2 1 (M 1)) 4 (u1 (u1 (u1 (M 4) 0 a) 1 b) 2 c)) 1 ((320 + 8 * ((M 1) 4)) + 0) d) 1 ((320 + 8 * ((M 1) 4)) + 1) 1) 1 ((320 + 8 * ((M 1) 4)) + 2) 0) 1 ((320 + 8 * ((M 1) 4)) + 3) (-1))) Q
                                        refine xv (x_aload_n 262 d_X8_order__261 rfl rfl) ?_
                                        refine xv (x_getfield 265 d_X8_order__262 rfl f_8_9 (Nat.le_of_ble_eq_true rfl) (Nat.le_of_ble_eq_true rfl) (q_gf_of m_o rfl)) ?_
                                        refine xv (x_iload 267 d_X8_order__265 rfl rfl) ?_
                                        refine xv (x_ins1 270 (as := [Value.int (zi ((M 1) 4))]) d_X8_order__267 rfl c_8_106 rfl (Nat.le_of_ble_eq_true rfl) (Nat.le_of_ble_eq_true rfl) (Nat.le_of_ble_eq_true rfl) rfl (S_X8_order (E := E) (h := h) (am := am) (M := (uM (uM (uM (uM (uA (uA M2 1 (M 1)) 4 (u1 (u1 (u1 (M 4) 0 a) 1 b) 2 c)) 1 ((320 + 8 * ((M 1) 4)) + 0) d) 1 ((320 + 8 * ((M 1) 4)) + 1) 1) 1 ((320 + 8 * ((M 1) 4)) + 2) 0) 1 ((320 + 8 * ((M 1) 4)) + 3) (-1))))) ?_
                                        show Xv E q_m_X8_order_ 270 [Value.ref am, Value.int (zi d), Value.int (zi a), Value.int (zi b), Value.int (zi c), Value.int (zi 1), Value.int (zi ((M 1) 4))] [Value.int (zi (320 + 8 * ((M 1) 4))), Value.ref (am + 1)] (q_mw h am (uM (uM (uM (uM (uA (uA M2 1 (M 1)) 4 (u1 (u1 (u1 (M 4) 0 a) 1 b) 2 c)) 1 ((320 + 8 * ((M 1) 4)) + 0) d) 1 ((320 + 8 * ((M 1) 4)) + 1) 1) 1 ((320 + 8 * ((M 1) 4)) + 2) 0) 1 ((320 + 8 * ((M 1) 4)) + 3) (-1))) Q
                                        refine xv (x_iconst 271 d_X8_order__270 rfl) ?_
                                        refine xv (x_iadd 272 d_X8_order__271 rfl) ?_
                                        refine xv (x_iconst 273 d_X8_order__272 rfl) ?_
                                        refine xv (x_iastore 274 d_X8_order__273 rfl (m_s1 (by omega) (by omega))) ?_
                                        show Xv E q_m_X8_order_ 274 [Value.ref am, Value.int (zi d), Value.int (zi a), Value.int (zi b), Value.int (zi c), Value.int (zi 1), Value.int (zi ((M 1) 4))] [] (q_mw h am (uM (uM (uM (uM (uM (uA (uA M2 1 (M 1)) 4 (u1 (u1 (u1 (M 4) 0 a) 1 b) 2 c)) 1 ((320 + 8 * ((M 1) 4)) + 0) d) 1 ((320 + 8 * ((M 1) 4)) + 1) 1) 1 ((320 + 8 * ((M 1) 4)) + 2) 0) 1 ((320 + 8 * ((M 1) 4)) + 3) (-1)) 1 ((320 + 8 * ((M 1) 4)) + 4) (-1))) Q
                                        refine xv (x_aload_n 275 d_X8_order__274 rfl rfl) ?_
                                        refine xv (x_getfield 278 d_X8_order__275 rfl f_8_19 (Nat.le_of_ble_eq_true rfl) (Nat.le_of_ble_eq_true rfl) (q_gf_of m_o rfl)) ?_
                                        refine xv (x_iconst 279 d_X8_order__278 rfl) ?_
                                        refine xv (x_aload_n 280 d_X8_order__279 rfl rfl) ?_
                                        refine xv (x_getfield 283 d_X8_order__280 rfl f_8_9 (Nat.le_of_ble_eq_true rfl) (Nat.le_of_ble_eq_true rfl) (q_gf_of m_o rfl)) ?_
                                        refine xv (x_iload 285 d_X8_order__283 rfl rfl) ?_
                                        refine xv (x_ins1 288 (as := [Value.int (zi ((M 1) 4))]) d_X8_order__285 rfl c_8_106 rfl (Nat.le_of_ble_eq_true rfl) (Nat.le_of_ble_eq_true rfl) (Nat.le_of_ble_eq_true rfl) rfl (S_X8_order (E := E) (h := h) (am := am) (M := (uM (uM (uM (uM (uM (uA (uA M2 1 (M 1)) 4 (u1 (u1 (u1 (M 4) 0 a) 1 b) 2 c)) 1 ((320 + 8 * ((M 1) 4)) + 0) d) 1 ((320 + 8 * ((M 1) 4)) + 1) 1) 1 ((320 + 8 * ((M 1) 4)) + 2) 0) 1 ((320 + 8 * ((M 1) 4)) + 3) (-1)) 1 ((320 + 8 * ((M 1) 4)) + 4) (-1))))) ?_
                                        show Xv E q_m_X8_order_ 288 [Value.ref am, Value.int (zi d), Value.int (zi a), Value.int (zi b), Value.int (zi c), Value.int (zi 1), Value.int (zi ((M 1) 4))] [Value.int (zi (320 + 8 * ((M 1) 4))), Value.ref (am + 1), Value.int (zi 0), Value.ref (am + 4)] (q_mw h am (uM (uM (uM (uM (uM (uA (uA M2 1 (M 1)) 4 (u1 (u1 (u1 (M 4) 0 a) 1 b) 2 c)) 1 ((320 + 8 * ((M 1) 4)) + 0) d) 1 ((320 + 8 * ((M 1) 4)) + 1) 1) 1 ((320 + 8 * ((M 1) 4)) + 2) 0) 1 ((320 + 8 * ((M 1) 4)) + 3) (-1)) 1 ((320 + 8 * ((M 1) 4)) + 4) (-1))) Q
                                        refine xv (x_iconst 289 d_X8_order__288 rfl) ?_
                                        refine xv (x_iadd 290 d_X8_order__289 rfl) ?_
                                        refine xv (x_iconst 291 d_X8_order__290 rfl) ?_
                                        refine xv (x_copy 294 d_X8_order__291 rfl rfl rfl (Nat.le_of_ble_eq_true rfl) (Nat.le_of_ble_eq_true rfl) (Nat.le_of_ble_eq_true rfl) (m_cpy 4 1 m_a4 m_a1 m_w1 (by omega) (by omega) (by omega) (by omega) (by omega) (by decide) (by decide))) ?_
                                        show Xv E q_m_X8_order_ 294 [Value.ref am, Value.int (zi d), Value.int (zi a), Value.int (zi b), Value.int (zi c), Value.int (zi 1), Value.int (zi ((M 1) 4))] [] (q_mw h am (uA (uM (uM (uM (uM (uM (uA (uA M2 1 (M 1)) 4 (u1 (u1 (u1 (M 4) 0 a) 1 b) 2 c)) 1 ((320 + 8 * ((M 1) 4)) + 0) d) 1 ((320 + 8 * ((M 1) 4)) + 1) 1) 1 ((320 + 8 * ((M 1) 4)) + 2) 0) 1 ((320 + 8 * ((M 1) 4)) + 3) (-1)) 1 ((320 + 8 * ((M 1) 4)) + 4) (-1)) 1 (cpI (u1 (u1 (u1 (M 4) 0 a) 1 b) 2 c) (u1 (u1 (u1 (u1 (u1 (M 1) ((320 + 8 * ((M 1) 4)) + 0) d) ((320 + 8 * ((M 1) 4)) + 1) 1) ((320 + 8 * ((M 1) 4)) + 2) 0) ((320 + 8 * ((M 1) 4)) + 3) (-1)) ((320 + 8 * ((M 1) 4)) + 4) (-1)) 0 ((320 + 8 * ((M 1) 4)) + 5) 3))) Q
                                        refine xv (x_aload_n 295 d_X8_order__294 rfl rfl) ?_
                                        refine xv (x_getfield 298 d_X8_order__295 rfl f_8_9 (Nat.le_of_ble_eq_true rfl) (Nat.le_of_ble_eq_true rfl) (q_gf_of m_o rfl)) ?_
                                        refine xv (x_iconst 299 d_X8_order__298 rfl) ?_
                                        refine xv (x_dup2 300 d_X8_order__299 rfl rfl rfl) ?_
                                        refine xv (x_iaload 301 d_X8_order__300 rfl ((m_g1 (by omega) (by omega)).trans (rfl : _ = some (Value.int (zi ((cpI (u1 (u1 (u1 (M 4) 0 a) 1 b) 2 c) (u1 (u1 (u1 (u1 (u1 (M 1) ((320 + 8 * ((M 1) 4)) + 0) d) ((320 + 8 * ((M 1) 4)) + 1) 1) ((320 + 8 * ((M 1) 4)) + 2) 0) ((320 + 8 * ((M 1) 4)) + 3) (-1)) ((320 + 8 * ((M 1) 4)) + 4) (-1)) 0 ((320 + 8 * ((M 1) 4)) + 5) 3) 4)))))) ?_
                                        refine xv (x_iconst 302 d_X8_order__301 rfl) ?_
                                        refine xv (x_iadd 303 d_X8_order__302 rfl) ?_
                                        refine xv (x_iastore 304 d_X8_order__303 rfl (m_s1 (by omega) (by omega))) ?_
                                        show Xv E q_m_X8_order_ 304 [Value.ref am, Value.int (zi d), Value.int (zi a), Value.int (zi b), Value.int (zi c), Value.int (zi 1), Value.int (zi ((M 1) 4))] [] (q_mw h am (uM (uA (uM (uM (uM (uM (uM (uA (uA M2 1 (M 1)) 4 (u1 (u1 (u1 (M 4) 0 a) 1 b) 2 c)) 1 ((320 + 8 * ((M 1) 4)) + 0) d) 1 ((320 + 8 * ((M 1) 4)) + 1) 1) 1 ((320 + 8 * ((M 1) 4)) + 2) 0) 1 ((320 + 8 * ((M 1) 4)) + 3) (-1)) 1 ((320 + 8 * ((M 1) 4)) + 4) (-1)) 1 (cpI (u1 (u1 (u1 (M 4) 0 a) 1 b) 2 c) (u1 (u1 (u1 (u1 (u1 (M 1) ((320 + 8 * ((M 1) 4)) + 0) d) ((320 + 8 * ((M 1) 4)) + 1) 1) ((320 + 8 * ((M 1) 4)) + 2) 0) ((320 + 8 * ((M 1) 4)) + 3) (-1)) ((320 + 8 * ((M 1) 4)) + 4) (-1)) 0 ((320 + 8 * ((M 1) 4)) + 5) 3)) 1 4 (((cpI (u1 (u1 (u1 (M 4) 0 a) 1 b) 2 c) (u1 (u1 (u1 (u1 (u1 (M 1) ((320 + 8 * ((M 1) 4)) + 0) d) ((320 + 8 * ((M 1) 4)) + 1) 1) ((320 + 8 * ((M 1) 4)) + 2) 0) ((320 + 8 * ((M 1) 4)) + 3) (-1)) ((320 + 8 * ((M 1) 4)) + 4) (-1)) 0 ((320 + 8 * ((M 1) 4)) + 5) 3) 4) + 1))) Q
                                        refine xv (x_iload 306 d_X8_order__304 rfl rfl) ?_
                                        refine xv_r (x_ireturn d_X8_order__306 rfl rfl) ?_
                                        have er : mOrd (M 1) d a b c = (0, 0) := by first | (exfalso; omega) | (unfold mOrd; repeat (first | rw [if_pos (by omega)] | rw [if_neg (by omega)]))
                                        have ec : cntO b c = 1 := by first | (exfalso; omega) | (unfold cntO; repeat (first | rw [if_pos (by omega)] | rw [if_neg (by omega)]))
                                        refine hQ _ _ ?_
                                        unfold mMu2
                                        rw [er, if_pos rfl, ec]
                                        refine ⟨rfl, ?_⟩
                                        unfold lnO
                                        rw [hM2, ← eM]
                                        simp only [uM_uA, uA_uA, uA_eq]
                                        rfl
                                      · omega
                                    · refine xv (x_aload_n 177 d_X8_order__176 rfl rfl) ?_
                                      refine xv (x_bipush 179 d_X8_order__177 rfl rfl) ?_
                                      refine xv (x_aload_n 180 d_X8_order__179 rfl rfl) ?_
                                      refine xv (x_getfield 183 d_X8_order__180 rfl f_8_19 (Nat.le_of_ble_eq_true rfl) (Nat.le_of_ble_eq_true rfl) (q_gf_of m_o rfl)) ?_
                                      refine xv (x_iload 185 d_X8_order__183 rfl rfl) ?_
                                      refine xv (x_iaload 186 d_X8_order__185 rfl ((m_g4 (by omega) (by omega)).trans (rfl : _ = some (Value.int (zi a))))) ?_
                                      obtain ⟨r186, h186, e186, z186, y186⟩ := S_X8_refuse (E := E) (h := h) (am := am) (M := (uM (uM (uM (uM M 0 5 0) 4 0 a) 4 1 b) 4 2 c)) (y := 12) (z := a) 
                                      subst z186
                                      subst y186
                                      refine xv (x_inv1 189 (as := [Value.int (zi 12), Value.int (zi a)]) d_X8_order__186 rfl c_8_90 rfl (Nat.le_of_ble_eq_true rfl) (Nat.le_of_ble_eq_true rfl) m_o (Nat.le_of_ble_eq_true rfl) (Nat.le_of_ble_eq_true rfl) rfl e186) ?_
                                      show Xv E q_m_X8_order_ 189 [Value.ref am, Value.int (zi d), Value.int (zi a), Value.int (zi b), Value.int (zi c), Value.int (zi 1), Value.int (zi 0)] [Value.int (zi 0)] (q_mw h am (uM (uM (uM (uM (uM (uM (uM M 0 5 0) 4 0 a) 4 1 b) 4 2 c) 0 5 1) 0 6 12) 0 7 a)) Q
                                      refine xv_r (x_ireturn d_X8_order__189 rfl rfl) ?_
                                      have er : mOrd (M 1) d a b c = (12, a) := by first | (exfalso; omega) | (unfold mOrd; repeat (first | rw [if_pos (by omega)] | rw [if_neg (by omega)]))
                                      refine hQ _ _ ?_
                                      unfold mMu2
                                      rw [er]
                                      exact ⟨rfl, rfl⟩
                                · refine xv (x_aload_n 142 d_X8_order__141 rfl rfl) ?_
                                  refine xv (x_iconst 143 d_X8_order__142 rfl) ?_
                                  refine xv (x_iconst 144 d_X8_order__143 rfl) ?_
                                  obtain ⟨r144, h144, e144, z144, y144⟩ := S_X8_refuse (E := E) (h := h) (am := am) (M := (uM (uM (uM (uM M 0 5 0) 4 0 a) 4 1 b) 4 2 c)) (y := 3) (z := 0) 
                                  subst z144
                                  subst y144
                                  refine xv (x_inv1 147 (as := [Value.int (zi 3), Value.int (zi 0)]) d_X8_order__144 rfl c_8_90 rfl (Nat.le_of_ble_eq_true rfl) (Nat.le_of_ble_eq_true rfl) m_o (Nat.le_of_ble_eq_true rfl) (Nat.le_of_ble_eq_true rfl) rfl e144) ?_
                                  show Xv E q_m_X8_order_ 147 [Value.ref am, Value.int (zi d), Value.int (zi a), Value.int (zi b), Value.int (zi c), Value.int (zi 1), Value.int (zi (((0 + 1) + 1) + 1))] [Value.int (zi 0)] (q_mw h am (uM (uM (uM (uM (uM (uM (uM M 0 5 0) 4 0 a) 4 1 b) 4 2 c) 0 5 1) 0 6 3) 0 7 0)) Q
                                  refine xv_r (x_ireturn d_X8_order__147 rfl rfl) ?_
                                  have er : mOrd (M 1) d a b c = (3, 0) := by first | (exfalso; omega) | (unfold mOrd; repeat (first | rw [if_pos (by omega)] | rw [if_neg (by omega)]))
                                  refine hQ _ _ ?_
                                  unfold mMu2
                                  rw [er]
                                  exact ⟨rfl, rfl⟩
                              · refine xv (x_aload_n 124 d_X8_order__123 rfl rfl) ?_
                                refine xv (x_iconst 125 d_X8_order__124 rfl) ?_
                                refine xv (x_iconst 126 d_X8_order__125 rfl) ?_
                                obtain ⟨r126, h126, e126, z126, y126⟩ := S_X8_refuse (E := E) (h := h) (am := am) (M := (uM (uM (uM (uM M 0 5 0) 4 0 a) 4 1 b) 4 2 c)) (y := 2) (z := 0) 
                                subst z126
                                subst y126
                                refine xv (x_inv1 129 (as := [Value.int (zi 2), Value.int (zi 0)]) d_X8_order__126 rfl c_8_90 rfl (Nat.le_of_ble_eq_true rfl) (Nat.le_of_ble_eq_true rfl) m_o (Nat.le_of_ble_eq_true rfl) (Nat.le_of_ble_eq_true rfl) rfl e126) ?_
                                show Xv E q_m_X8_order_ 129 [Value.ref am, Value.int (zi d), Value.int (zi a), Value.int (zi b), Value.int (zi c), Value.int (zi 1), Value.int (zi (((0 + 1) + 1) + 1))] [Value.int (zi 0)] (q_mw h am (uM (uM (uM (uM (uM (uM (uM M 0 5 0) 4 0 a) 4 1 b) 4 2 c) 0 5 1) 0 6 2) 0 7 0)) Q
                                refine xv_r (x_ireturn d_X8_order__129 rfl rfl) ?_
                                have er : mOrd (M 1) d a b c = (2, 0) := by first | (exfalso; omega) | (unfold mOrd; repeat (first | rw [if_pos (by omega)] | rw [if_neg (by omega)]))
                                refine hQ _ _ ?_
                                unfold mMu2
                                rw [er]
                                exact ⟨rfl, rfl⟩
                        · omega
                      · refine xv (x_aload_n 89 d_X8_order__88 rfl rfl) ?_
                        refine xv (x_iconst 90 d_X8_order__89 rfl) ?_
                        refine xv (x_iconst 91 d_X8_order__90 rfl) ?_
                        obtain ⟨r91, h91, e91, z91, y91⟩ := S_X8_refuse (E := E) (h := h) (am := am) (M := (uM (uM (uM (uM M 0 5 0) 4 0 a) 4 1 b) 4 2 c)) (y := 1) (z := 0) 
                        subst z91
                        subst y91
                        refine xv (x_inv1 94 (as := [Value.int (zi 1), Value.int (zi 0)]) d_X8_order__91 rfl c_8_90 rfl (Nat.le_of_ble_eq_true rfl) (Nat.le_of_ble_eq_true rfl) m_o (Nat.le_of_ble_eq_true rfl) (Nat.le_of_ble_eq_true rfl) rfl e91) ?_
                        show Xv E q_m_X8_order_ 94 [Value.ref am, Value.int (zi d), Value.int (zi a), Value.int (zi b), Value.int (zi c), Value.int (zi 1), Value.int (zi ((0 + 1) + 1))] [Value.int (zi 0)] (q_mw h am (uM (uM (uM (uM (uM (uM (uM M 0 5 0) 4 0 a) 4 1 b) 4 2 c) 0 5 1) 0 6 1) 0 7 0)) Q
                        refine xv_r (x_ireturn d_X8_order__94 rfl rfl) ?_
                        have er : mOrd (M 1) d a b c = (1, 0) := by first | (exfalso; omega) | (unfold mOrd; repeat (first | rw [if_pos (by omega)] | rw [if_neg (by omega)]))
                        refine hQ _ _ ?_
                        unfold mMu2
                        rw [er]
                        exact ⟨rfl, rfl⟩
              · refine xv (x_aload_n 89 d_X8_order__88 rfl rfl) ?_
                refine xv (x_iconst 90 d_X8_order__89 rfl) ?_
                refine xv (x_iconst 91 d_X8_order__90 rfl) ?_
                obtain ⟨r91, h91, e91, z91, y91⟩ := S_X8_refuse (E := E) (h := h) (am := am) (M := (uM (uM (uM (uM M 0 5 0) 4 0 a) 4 1 b) 4 2 c)) (y := 1) (z := 0) 
                subst z91
                subst y91
                refine xv (x_inv1 94 (as := [Value.int (zi 1), Value.int (zi 0)]) d_X8_order__91 rfl c_8_90 rfl (Nat.le_of_ble_eq_true rfl) (Nat.le_of_ble_eq_true rfl) m_o (Nat.le_of_ble_eq_true rfl) (Nat.le_of_ble_eq_true rfl) rfl e91) ?_
                show Xv E q_m_X8_order_ 94 [Value.ref am, Value.int (zi d), Value.int (zi a), Value.int (zi b), Value.int (zi c), Value.int (zi 1), Value.int (zi (0 + 1))] [Value.int (zi 0)] (q_mw h am (uM (uM (uM (uM (uM (uM (uM M 0 5 0) 4 0 a) 4 1 b) 4 2 c) 0 5 1) 0 6 1) 0 7 0)) Q
                refine xv_r (x_ireturn d_X8_order__94 rfl rfl) ?_
                have er : mOrd (M 1) d a b c = (1, 0) := by first | (exfalso; omega) | (unfold mOrd; repeat (first | rw [if_pos (by omega)] | rw [if_neg (by omega)]))
                refine hQ _ _ ?_
                unfold mMu2
                rw [er]
                exact ⟨rfl, rfl⟩
      · replace k69 := bI_0.mp k69
        refine xv (x_iload 74 d_X8_order__72 rfl rfl) ?_
        refine v_if_eq 88 77 d_X8_order__74 rfl rfl (by omega) (by omega) (fun k74 => ?_) (fun k74 => ?_)
        · refine xv (x_aload_n 89 d_X8_order__88 rfl rfl) ?_
          refine xv (x_iconst 90 d_X8_order__89 rfl) ?_
          refine xv (x_iconst 91 d_X8_order__90 rfl) ?_
          obtain ⟨r91, h91, e91, z91, y91⟩ := S_X8_refuse (E := E) (h := h) (am := am) (M := (uM (uM (uM (uM M 0 5 0) 4 0 a) 4 1 b) 4 2 c)) (y := 1) (z := 0) 
          subst z91
          subst y91
          refine xv (x_inv1 94 (as := [Value.int (zi 1), Value.int (zi 0)]) d_X8_order__91 rfl c_8_90 rfl (Nat.le_of_ble_eq_true rfl) (Nat.le_of_ble_eq_true rfl) m_o (Nat.le_of_ble_eq_true rfl) (Nat.le_of_ble_eq_true rfl) rfl e91) ?_
          show Xv E q_m_X8_order_ 94 [Value.ref am, Value.int (zi d), Value.int (zi a), Value.int (zi b), Value.int (zi c), Value.int (zi 1), Value.int (zi 0)] [Value.int (zi 0)] (q_mw h am (uM (uM (uM (uM (uM (uM (uM M 0 5 0) 4 0 a) 4 1 b) 4 2 c) 0 5 1) 0 6 1) 0 7 0)) Q
          refine xv_r (x_ireturn d_X8_order__94 rfl rfl) ?_
          have er : mOrd (M 1) d a b c = (1, 0) := by first | (exfalso; omega) | (unfold mOrd; repeat (first | rw [if_pos (by omega)] | rw [if_neg (by omega)]))
          refine hQ _ _ ?_
          unfold mMu2
          rw [er]
          exact ⟨rfl, rfl⟩
        · omega
end RV
