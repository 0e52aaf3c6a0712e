/-! the reference: how far the cells are from one (printed by program) -/
section RY
variable {E : q_E} {h : q_H} {am : Nat} {M M2 : q_Im} {l g : Int → Int} {y k : Int}
def fil (f : Int → Int) (k : Int) : Int → Int := fun i => if 0 ≤ i ∧ i < k then -1 else f i
theorem fil_0 {f : Int → Int} : fil f 0 = f := funext fun i => if_neg (by omega)
theorem fil_s {f : Int → Int} (hk : 0 ≤ k) : u1 (fil f k) k (-1) = fil f (k + 1) := by
  funext i
  show (if i = k then (-1 : Int) else if 0 ≤ i ∧ i < k then -1 else f i) = if 0 ≤ i ∧ i < k + 1 then -1 else f i
  by_cases q : i = k
  · rw [if_pos q, if_pos (by omega)]
  · rw [if_neg q]
    by_cases q2 : 0 ≤ i ∧ i < k
    · rw [if_pos q2, if_pos (by omega)]
    · rw [if_neg q2, if_neg (by omega)]
theorem S_X8_findFar (hR : Rg (M 1)) (hT : 0 ≤ M 1 2) {y : Int} (hy : isC (M 1) y) : ∃ r_ h', q_cl E q_m_X8_findFar [Value.ref am, Value.int (zi y)] (q_mw h am M) = some (r_, h') ∧ (r_ = .inl none ∧ ∃ f8 mq, (∀ i, 0 ≤ i → i < 48 → f8 i = far (M 1) y i) ∧ h' = q_mw h am (uA (uA M 8 f8) 9 mq)) := by
  suffices K : ∀ Q : q_R → q_H → Prop, (∀ r_ h', (r_ = .inl none ∧ ∃ f8 mq, (∀ i, 0 ≤ i → i < 48 → f8 i = far (M 1) y i) ∧ h' = q_mw h am (uA (uA M 8 f8) 9 mq)) → Q r_ h') → Xv E q_m_X8_findFar 0 [Value.ref am, Value.int (zi y), Value.null, Value.null, Value.null, Value.null] [] (q_mw h am M) Q from K _ fun _ _ p => p
  intro Q hQ
  have hR0 := hR
  obtain ⟨hr, g0, g1, g3, g4, gc, g5, g6, g7, gk, gl, gr, go⟩ := hR0
  have hC := rgc_of hR hT
  refine xv (x_iconst 1 d_X8_findFar_0 rfl) ?_
  refine xv (x_istore_n 2 d_X8_findFar_1 rfl (Nat.le_of_ble_eq_true rfl)) ?_
  show Xv E q_m_X8_findFar 2 [Value.ref am, Value.int (zi y), Value.int (zi 0), Value.null, Value.null, Value.null] [] (q_mw h am M) Q
  have L2 : ∀ (n_ : Nat) (k : Int), (0 ≤ k) → (k ≤ 48) → (48 - k).toNat = n_ → Xv E q_m_X8_findFar 2 [Value.ref am, Value.int (zi y), Value.int (zi k), Value.null, Value.null, Value.null] [] (q_mw h am (uA M 8 (fil (M 8) k))) Q := by
    intro n_
    induction n_ using Nat.strongRecOn with
    | _ n_ ih2 =>
      intro k k0 k1 em
      refine xv (x_iload_n 3 d_X8_findFar_2 rfl rfl) ?_
      refine xv (x_bipush 5 d_X8_findFar_3 rfl rfl) ?_
      refine v_icmp_ge 21 8 d_X8_findFar_5 rfl rfl (by omega) (by omega) (by omega) (by omega) (fun k5 => ?_) (fun k5 => ?_)
      · refine xv (x_aload_n 22 d_X8_findFar_21 rfl rfl) ?_
        refine xv (x_getfield 25 d_X8_findFar_22 rfl f_8_32 (Nat.le_of_ble_eq_true rfl) (Nat.le_of_ble_eq_true rfl) (q_gf_of m_o rfl)) ?_
        refine xv (x_iload_n 26 d_X8_findFar_25 rfl rfl) ?_
        refine xv (x_iconst 27 d_X8_findFar_26 rfl) ?_
        refine xv (x_iastore 28 d_X8_findFar_27 rfl (m_s8 (by omega) (by omega))) ?_
        show Xv E q_m_X8_findFar 28 [Value.ref am, Value.int (zi y), Value.int (zi k), Value.null, Value.null, Value.null] [] (q_mw h am (uM (uA M 8 (fil (M 8) k)) 8 y 0)) Q
        refine xv (x_aload_n 29 d_X8_findFar_28 rfl rfl) ?_
        refine xv (x_getfield 32 d_X8_findFar_29 rfl f_8_35 (Nat.le_of_ble_eq_true rfl) (Nat.le_of_ble_eq_true rfl) (q_gf_of m_o rfl)) ?_
        refine xv (x_iconst 33 d_X8_findFar_32 rfl) ?_
        refine xv (x_iload_n 34 d_X8_findFar_33 rfl rfl) ?_
        refine xv (x_iastore 35 d_X8_findFar_34 rfl (m_s9 (by omega) (by omega))) ?_
        show Xv E q_m_X8_findFar 35 [Value.ref am, Value.int (zi y), Value.int (zi k), Value.null, Value.null, Value.null] [] (q_mw h am (uM (uM (uA M 8 (fil (M 8) k)) 8 y 0) 9 0 y)) Q
        refine xv (x_iconst 36 d_X8_findFar_35 rfl) ?_
        refine xv (x_istore_n 37 d_X8_findFar_36 rfl (Nat.le_of_ble_eq_true rfl)) ?_
        show Xv E q_m_X8_findFar 37 [Value.ref am, Value.int (zi y), Value.int (zi 1), Value.null, Value.null, Value.null] [] (q_mw h am (uM (uM (uA M 8 (fil (M 8) k)) 8 y 0) 9 0 y)) Q
        refine xv (x_iconst 38 d_X8_findFar_37 rfl) ?_
        refine xv (x_istore_n 39 d_X8_findFar_38 rfl (Nat.le_of_ble_eq_true rfl)) ?_
        show Xv E q_m_X8_findFar 39 [Value.ref am, Value.int (zi y), Value.int (zi 1), Value.int (zi 0), Value.null, Value.null] [] (q_mw h am (uM (uM (uA M 8 (fil (M 8) k)) 8 y 0) 9 0 y)) Q
        have L39 : ∀ (n_ : Nat) (k : Int) (X : BX) (f8 : Int → Int) (mq : Int → Int) (x4 : Value) (x5 : Value), (0 ≤ k) → (k ≤ 48) → (Binv (M 1) X) → (∀ i, 0 ≤ i → i < 48 → f8 i = X.1 i) → (∀ j, 0 ≤ j → j < X.2.2 → mq j = X.2.1 j) → (bfl (M 1) 48 0 (bf0 y) = bfl (M 1) (48 - k).toNat k X) → (48 - k).toNat = n_ → Xv E q_m_X8_findFar 39 [Value.ref am, Value.int (zi y), Value.int (zi X.2.2), Value.int (zi k), x4, x5] [] (q_mw h am (uA (uA M 8 f8) 9 mq)) Q := by
          intro n_
          induction n_ using Nat.strongRecOn with
          | _ n_ ih39 =>
            intro k X f8 mq x4 x5 k0 k1 hB ag8 ag9 hv em
            have hm := b_many (by omega) hB
            have hb1 := hB.1
            refine xv (x_iload_n 40 d_X8_findFar_39 rfl rfl) ?_
            refine xv (x_iload_n 41 d_X8_findFar_40 rfl rfl) ?_
            refine v_icmp_ge 134 44 d_X8_findFar_41 rfl rfl (by omega) (by omega) (by omega) (by omega) (fun k41 => ?_) (fun k41 => ?_)
            · refine xv_r (x_return d_X8_findFar_134 rfl) ?_
              rw [bfl_e (by omega)] at hv
              refine hQ _ _ ⟨rfl, _, _, fun i a b => ?_, rfl⟩
              unfold far
              rw [hv]
              exact ag8 i a b
            · refine xv (x_iconst 45 d_X8_findFar_44 rfl) ?_
              refine xv (x_istore 47 d_X8_findFar_45 rfl (Nat.le_of_ble_eq_true rfl)) ?_
              show Xv E q_m_X8_findFar 47 [Value.ref am, Value.int (zi y), Value.int (zi X.2.2), Value.int (zi k), Value.int (zi 0), x5] [] (q_mw h am (uA (uA M 8 f8) 9 mq)) Q
              have L47 : ∀ (n_ : Nat) (w_ : Int) (Y : BX) (f8b : Int → Int) (mq2 : Int → Int) (x5 : Value), (0 ≤ w_) → (w_ ≤ 4) → (Binv (M 1) Y) → (X.2.2 ≤ Y.2.2) → (∀ j, 0 ≤ j → j < X.2.2 → Y.2.1 j = X.2.1 j) → (∀ i, 0 ≤ i → i < 48 → f8b i = Y.1 i) → (∀ j, 0 ≤ j → j < Y.2.2 → mq2 j = Y.2.1 j) → (bfr (M 1) (X.2.1 k) 4 0 X = bfr (M 1) (X.2.1 k) (4 - w_).toNat w_ Y) → (4 - w_).toNat = n_ → Xv E q_m_X8_findFar 47 [Value.ref am, Value.int (zi y), Value.int (zi Y.2.2), Value.int (zi k), Value.int (zi w_), x5] [] (q_mw h am (uA (uA M 8 f8b) 9 mq2)) Q := by
                intro n_
                induction n_ using Nat.strongRecOn with
                | _ n_ ih47 =>
                  intro w_ Y f8b mq2 x5 w0 w1 hB2 hXY sq ag8b ag9b hv2 em
                  have cC := (hB.2.1 k k0 (by omega)).1
                  refine xv (x_iload 49 d_X8_findFar_47 rfl rfl) ?_
                  refine xv (x_iconst 50 d_X8_findFar_49 rfl) ?_
                  refine v_icmp_ge 128 53 d_X8_findFar_50 rfl rfl (by omega) (by omega) (by omega) (by omega) (fun k50 => ?_) (fun k50 => ?_)
                  · refine xv (x_iinc 131 d_X8_findFar_128 rfl rfl) ?_
                    show Xv E q_m_X8_findFar 131 [Value.ref am, Value.int (zi y), Value.int (zi Y.2.2), Value.int (zi (k + 1)), Value.int (zi w_), x5] [] (q_mw h am (uA (uA M 8 f8b) 9 mq2)) Q
                    refine xv (x_goto 39 d_X8_findFar_131 rfl) ?_
                    rw [bfr_e (by omega)] at hv2
                    exact ih39 _ (by omega) (k + 1) Y _ _ _ _ (by omega) (by omega) hB2 ag8b ag9b (hv.trans ((bfl_b (by omega) (by omega)).trans (by rw [hv2]))) rfl
                  · refine xv (x_aload_n 54 d_X8_findFar_53 rfl rfl) ?_
                    refine xv (x_aload_n 55 d_X8_findFar_54 rfl rfl) ?_
                    refine xv (x_getfield 58 d_X8_findFar_55 rfl f_8_35 (Nat.le_of_ble_eq_true rfl) (Nat.le_of_ble_eq_true rfl) (q_gf_of m_o rfl)) ?_
                    refine xv (x_iload_n 59 d_X8_findFar_58 rfl rfl) ?_
                    refine xv (x_iaload 60 d_X8_findFar_59 rfl ((m_g9 (by omega) (by omega)).trans (congrArg (fun z => some (Value.int (zi z))) (((by first | exact ag9b k k0 (by omega) : mq2 k = Y.2.1 k)).trans (sq k k0 (by omega)))))) ?_
                    refine xv (x_iload 62 d_X8_findFar_60 rfl rfl) ?_
                    refine xv (x_inv1 65 (as := [Value.int (zi (X.2.1 k)), Value.int (zi w_)]) d_X8_findFar_62 rfl c_8_124 rfl (Nat.le_of_ble_eq_true rfl) (Nat.le_of_ble_eq_true rfl) m_o (Nat.le_of_ble_eq_true rfl) (Nat.le_of_ble_eq_true rfl) rfl (S_X8_beside (E := E) (h := h) (am := am) (M := (uA (uA M 8 f8b) 9 mq2)) hR (by first | omega | (rw [show (uA (uA M 8 f8b) 9 mq2) 1 = (M 1) from rfl]; omega)) (by first | omega | (rw [show (uA (uA M 8 f8b) 9 mq2) 1 = (M 1) from rfl]; omega)) (by first | omega | (rw [show (uA (uA M 8 f8b) 9 mq2) 1 = (M 1) from rfl]; omega)))) ?_
                    have q_1 := bes_r hR (c := (X.2.1 k)) (w := w_) (by omega)
                    show Xv E q_m_X8_findFar 65 [Value.ref am, Value.int (zi y), Value.int (zi Y.2.2), Value.int (zi k), Value.int (zi w_), x5] [Value.int (zi (bes (M 1) (X.2.1 k) w_))] (q_mw h am (uA (uA M 8 f8b) 9 mq2)) Q
                    refine xv (x_istore 67 d_X8_findFar_65 rfl (Nat.le_of_ble_eq_true rfl)) ?_
                    show Xv E q_m_X8_findFar 67 [Value.ref am, Value.int (zi y), Value.int (zi Y.2.2), Value.int (zi k), Value.int (zi w_), Value.int (zi (bes (M 1) (X.2.1 k) w_))] [] (q_mw h am (uA (uA M 8 f8b) 9 mq2)) Q
                    have q62 : bes (M 1) (X.2.1 k) w_ = -1 ∨ (0 ≤ bes (M 1) (X.2.1 k) w_ ∧ bes (M 1) (X.2.1 k) w_ < cs (M 1)) := bes_r hR cC
                    have q79 := hB2.2.2.2.1 (bes (M 1) (X.2.1 k) w_)
                    have q78 := hB2.2.2.2.2 (bes (M 1) (X.2.1 k) w_)
                    have bm := b_many (by omega) hB2
                    have fm := (hB2.2.1 k k0 (by omega)).2
                    rw [sq k k0 (by omega)] at fm
                    refine xv (x_iload 69 d_X8_findFar_67 rfl rfl) ?_
                    refine v_if_lt 122 72 d_X8_findFar_69 rfl rfl (by omega) (by omega) (fun k69 => ?_) (fun k69 => ?_)
                    · refine xv (x_iinc 125 d_X8_findFar_122 rfl rfl) ?_
                      show Xv E q_m_X8_findFar 125 [Value.ref am, Value.int (zi y), Value.int (zi Y.2.2), Value.int (zi k), Value.int (zi (w_ + 1)), Value.int (zi (bes (M 1) (X.2.1 k) w_))] [] (q_mw h am (uA (uA M 8 f8b) 9 mq2)) Q
                      refine xv (x_goto 47 d_X8_findFar_125 rfl) ?_
                      have eC : ¬ bfC (M 1) (X.2.1 k) w_ Y := by first | exact fun x => k88 x.2.2 | exact fun x => k79 (by have := x.2.1; omega) | exact fun x => absurd x.1 (by omega) | exact fun x => absurd x.2.1 (by omega)
                      exact ih47 _ (by omega) (w_ + 1) Y _ _ _ (by omega) (by omega) hB2 (by omega) sq ag8b ag9b (hv2.trans ((bfr_b (by omega)).trans (by rw [bfw_f eC]))) rfl
                    · refine xv (x_aload_n 73 d_X8_findFar_72 rfl rfl) ?_
                      refine xv (x_getfield 76 d_X8_findFar_73 rfl f_8_32 (Nat.le_of_ble_eq_true rfl) (Nat.le_of_ble_eq_true rfl) (q_gf_of m_o rfl)) ?_
                      refine xv (x_iload 78 d_X8_findFar_76 rfl rfl) ?_
                      refine xv (x_iaload 79 d_X8_findFar_78 rfl ((m_g8 (by omega) (by omega)).trans (congrArg (fun z => some (Value.int (zi z))) (ag8b (bes (M 1) (X.2.1 k) w_) (by omega) (by omega))))) ?_
                      refine v_if_ge 122 82 d_X8_findFar_79 rfl rfl (by omega) (by omega) (fun k79 => ?_) (fun k79 => ?_)
                      · refine xv (x_iinc 125 d_X8_findFar_122 rfl rfl) ?_
                        show Xv E q_m_X8_findFar 125 [Value.ref am, Value.int (zi y), Value.int (zi Y.2.2), Value.int (zi k), Value.int (zi (w_ + 1)), Value.int (zi (bes (M 1) (X.2.1 k) w_))] [] (q_mw h am (uA (uA M 8 f8b) 9 mq2)) Q
                        refine xv (x_goto 47 d_X8_findFar_125 rfl) ?_
                        have eC : ¬ bfC (M 1) (X.2.1 k) w_ Y := by first | exact fun x => k88 x.2.2 | exact fun x => k79 (by have := x.2.1; omega) | exact fun x => absurd x.1 (by omega) | exact fun x => absurd x.2.1 (by omega)
                        exact ih47 _ (by omega) (w_ + 1) Y _ _ _ (by omega) (by omega) hB2 (by omega) sq ag8b ag9b (hv2.trans ((bfr_b (by omega)).trans (by rw [bfw_f eC]))) rfl
                      · refine xv (x_aload_n 83 d_X8_findFar_82 rfl rfl) ?_
                        refine xv (x_iload 85 d_X8_findFar_83 rfl rfl) ?_
                        refine xv (x_inv1 88 (as := [Value.int (zi (bes (M 1) (X.2.1 k) w_))]) d_X8_findFar_85 rfl c_8_93 rfl (Nat.le_of_ble_eq_true rfl) (Nat.le_of_ble_eq_true rfl) m_o (Nat.le_of_ble_eq_true rfl) (Nat.le_of_ble_eq_true rfl) rfl (S_X8_canEnter (E := E) (h := h) (am := am) (M := (uA (uA M 8 f8b) 9 mq2)) hR (by first | omega | (rw [show (uA (uA M 8 f8b) 9 mq2) 1 = (M 1) from rfl]; omega)) (by first | omega | (rw [show (uA (uA M 8 f8b) 9 mq2) 1 = (M 1) from rfl]; omega)))) ?_
                        show Xv E q_m_X8_findFar 88 [Value.ref am, Value.int (zi y), Value.int (zi Y.2.2), Value.int (zi k), Value.int (zi w_), Value.int (zi (bes (M 1) (X.2.1 k) w_))] [Value.int (zi (bI (ent (M 1) (bes (M 1) (X.2.1 k) w_))))] (q_mw h am (uA (uA M 8 f8b) 9 mq2)) Q
                        refine v_if_eq 122 91 d_X8_findFar_88 rfl rfl (by have := bI_r (ent (M 1) (bes (M 1) (X.2.1 k) w_)); omega) (by have := bI_r (ent (M 1) (bes (M 1) (X.2.1 k) w_)); omega) (fun k88 => ?_) (fun k88 => ?_)
                        · replace k88 := bI_0.mp k88
                          refine xv (x_iinc 125 d_X8_findFar_122 rfl rfl) ?_
                          show Xv E q_m_X8_findFar 125 [Value.ref am, Value.int (zi y), Value.int (zi Y.2.2), Value.int (zi k), Value.int (zi (w_ + 1)), Value.int (zi (bes (M 1) (X.2.1 k) w_))] [] (q_mw h am (uA (uA M 8 f8b) 9 mq2)) Q
                          refine xv (x_goto 47 d_X8_findFar_125 rfl) ?_
                          have eC : ¬ bfC (M 1) (X.2.1 k) w_ Y := by first | exact fun x => k88 x.2.2 | exact fun x => k79 (by have := x.2.1; omega) | exact fun x => absurd x.1 (by omega) | exact fun x => absurd x.2.1 (by omega)
                          exact ih47 _ (by omega) (w_ + 1) Y _ _ _ (by omega) (by omega) hB2 (by omega) sq ag8b ag9b (hv2.trans ((bfr_b (by omega)).trans (by rw [bfw_f eC]))) rfl
                        · replace k88 := bI_n0.mp k88
                          have nm : Y.2.2 + 1 ≤ cs (M 1) := by
                            have z_ := b_many (by omega) (bfw_ok (w := w_) hB2 q62 k0 (show k < Y.2.2 by omega) (sq k k0 (by omega))).1
                            rw [bfw_t (show bfC (M 1) (X.2.1 k) w_ Y from ⟨by omega, by omega, k88⟩)] at z_
                            exact z_
                          refine xv (x_aload_n 92 d_X8_findFar_91 rfl rfl) ?_
                          refine xv (x_getfield 95 d_X8_findFar_92 rfl f_8_32 (Nat.le_of_ble_eq_true rfl) (Nat.le_of_ble_eq_true rfl) (q_gf_of m_o rfl)) ?_
                          refine xv (x_iload 97 d_X8_findFar_95 rfl rfl) ?_
                          refine xv (x_aload_n 98 d_X8_findFar_97 rfl rfl) ?_
                          refine xv (x_getfield 101 d_X8_findFar_98 rfl f_8_32 (Nat.le_of_ble_eq_true rfl) (Nat.le_of_ble_eq_true rfl) (q_gf_of m_o rfl)) ?_
                          refine xv (x_aload_n 102 d_X8_findFar_101 rfl rfl) ?_
                          refine xv (x_getfield 105 d_X8_findFar_102 rfl f_8_35 (Nat.le_of_ble_eq_true rfl) (Nat.le_of_ble_eq_true rfl) (q_gf_of m_o rfl)) ?_
                          refine xv (x_iload_n 106 d_X8_findFar_105 rfl rfl) ?_
                          refine xv (x_iaload 107 d_X8_findFar_106 rfl ((m_g9 (by omega) (by omega)).trans (congrArg (fun z => some (Value.int (zi z))) (((by first | exact ag9b k k0 (by omega) : mq2 k = Y.2.1 k)).trans (sq k k0 (by omega)))))) ?_
                          refine xv (x_iaload 108 d_X8_findFar_107 rfl ((m_g8 (by omega) (by omega)).trans (congrArg (fun z => some (Value.int (zi z))) (ag8b (X.2.1 k) (by omega) (by omega))))) ?_
                          refine xv (x_iconst 109 d_X8_findFar_108 rfl) ?_
                          refine xv (x_iadd 110 d_X8_findFar_109 rfl) ?_
                          refine xv (x_iastore 111 d_X8_findFar_110 rfl (m_s8 (by omega) (by omega))) ?_
                          show Xv E q_m_X8_findFar 111 [Value.ref am, Value.int (zi y), Value.int (zi Y.2.2), Value.int (zi k), Value.int (zi w_), Value.int (zi (bes (M 1) (X.2.1 k) w_))] [] (q_mw h am (uM (uA (uA M 8 f8b) 9 mq2) 8 (bes (M 1) (X.2.1 k) w_) ((Y.1 (X.2.1 k)) + 1))) Q
                          refine xv (x_aload_n 112 d_X8_findFar_111 rfl rfl) ?_
                          refine xv (x_getfield 115 d_X8_findFar_112 rfl f_8_35 (Nat.le_of_ble_eq_true rfl) (Nat.le_of_ble_eq_true rfl) (q_gf_of m_o rfl)) ?_
                          refine xv (x_iload_n 116 d_X8_findFar_115 rfl rfl) ?_
                          refine xv (x_iload 118 d_X8_findFar_116 rfl rfl) ?_
                          refine xv (x_iastore 119 d_X8_findFar_118 rfl (m_s9 (by omega) (by omega))) ?_
                          show Xv E q_m_X8_findFar 119 [Value.ref am, Value.int (zi y), Value.int (zi Y.2.2), Value.int (zi k), Value.int (zi w_), Value.int (zi (bes (M 1) (X.2.1 k) w_))] [] (q_mw h am (uM (uM (uA (uA M 8 f8b) 9 mq2) 8 (bes (M 1) (X.2.1 k) w_) ((Y.1 (X.2.1 k)) + 1)) 9 Y.2.2 (bes (M 1) (X.2.1 k) w_))) Q
                          refine xv (x_iinc 122 d_X8_findFar_119 rfl rfl) ?_
                          show Xv E q_m_X8_findFar 122 [Value.ref am, Value.int (zi y), Value.int (zi (Y.2.2 + 1)), Value.int (zi k), Value.int (zi w_), Value.int (zi (bes (M 1) (X.2.1 k) w_))] [] (q_mw h am (uM (uM (uA (uA M 8 f8b) 9 mq2) 8 (bes (M 1) (X.2.1 k) w_) ((Y.1 (X.2.1 k)) + 1)) 9 Y.2.2 (bes (M 1) (X.2.1 k) w_))) Q
                          refine xv (x_iinc 125 d_X8_findFar_122 rfl rfl) ?_
                          show Xv E q_m_X8_findFar 125 [Value.ref am, Value.int (zi y), Value.int (zi (Y.2.2 + 1)), Value.int (zi k), Value.int (zi (w_ + 1)), Value.int (zi (bes (M 1) (X.2.1 k) w_))] [] (q_mw h am (uM (uM (uA (uA M 8 f8b) 9 mq2) 8 (bes (M 1) (X.2.1 k) w_) ((Y.1 (X.2.1 k)) + 1)) 9 Y.2.2 (bes (M 1) (X.2.1 k) w_))) Q
                          refine xv (x_goto 47 d_X8_findFar_125 rfl) ?_
                          have eC : bfC (M 1) (X.2.1 k) w_ Y := ⟨by omega, by omega, k88⟩
                          obtain ⟨y1, y2, y3⟩ := bfw_ok (w := w_) hB2 q62 k0 (show k < Y.2.2 by omega) (sq k k0 (by omega))
                          rw [bfw_t eC] at y1 y2 y3
                          have im : (uM (uM (uA (uA M 8 f8b) 9 mq2) 8 (bes (M 1) (X.2.1 k) w_) ((Y.1 (X.2.1 k)) + 1)) 9 Y.2.2 (bes (M 1) (X.2.1 k) w_)) = uA (uA M 8 (u1 f8b (bes (M 1) (X.2.1 k) w_) (Y.1 (X.2.1 k) + 1))) 9 (u1 mq2 Y.2.2 (bes (M 1) (X.2.1 k) w_)) := by
                            show uM (uM (uA (uA M 8 f8b) 9 mq2) 8 _ _) 9 _ _ = _
                            rw [show uM (uA (uA M 8 f8b) 9 mq2) 8 (bes (M 1) (X.2.1 k) w_) (Y.1 (X.2.1 k) + 1) = uA (uA M 8 (u1 f8b (bes (M 1) (X.2.1 k) w_) (Y.1 (X.2.1 k) + 1))) 9 mq2 by
                              show uA (uA (uA M 8 f8b) 9 mq2) 8 (u1 (uA (uA M 8 f8b) 9 mq2 8) _ _) = _
                              rw [uA_ne (show (8 : Nat) ≠ 9 by decide), uA_eq, uA_comm (show (9 : Nat) ≠ 8 by decide), uA_uA], uM_uA]
                          rw [im]
                          refine ih47 _ (by omega) (w_ + 1) (u1 Y.1 (bes (M 1) (X.2.1 k) w_) (Y.1 (X.2.1 k) + 1), u1 Y.2.1 Y.2.2 (bes (M 1) (X.2.1 k) w_), Y.2.2 + 1) _ _ _ (by omega) (by omega) y1 (by omega) (fun j a b => (u1_ne (by omega)).trans (sq j a b)) (fun j a b => ?_) (fun j a b => ?_) (hv2.trans ((bfr_b (by omega)).trans (by rw [bfw_t eC]))) rfl
                          · show u1 f8b (bes (M 1) (X.2.1 k) w_) _ j = u1 Y.1 (bes (M 1) (X.2.1 k) w_) _ j
                            by_cases z : j = bes (M 1) (X.2.1 k) w_
                            · rw [z, u1_eq, u1_eq]
                            · rw [u1_ne z, u1_ne z]; exact ag8b j a b
                          · have b : j < Y.2.2 + 1 := b
                            show u1 mq2 Y.2.2 (bes (M 1) (X.2.1 k) w_) j = u1 Y.2.1 Y.2.2 (bes (M 1) (X.2.1 k) w_) j
                            by_cases z : j = Y.2.2
                            · rw [z, u1_eq, u1_eq]
                            · rw [u1_ne z, u1_ne z]; exact ag9b j a (by omega)
              exact L47 _ 0 X _ _ _ (by omega) (by omega) hB (Int.le_refl _) (fun _ _ _ => rfl) ag8 ag9 rfl rfl
        have ek : k = 48 := by omega
        have im : (uM (uM (uA M 8 (fil (M 8) k)) 8 y 0) 9 0 y) = uA (uA M 8 (u1 (fil (M 8) k) y 0)) 9 (u1 (M 9) 0 y) := by
          rw [uM_uA]
          show uA _ 9 (u1 (uA M 8 _ 9) 0 y) = _
          rw [uA_ne (show (9 : Nat) ≠ 8 by decide)]
        rw [im]
        refine L39 _ 0 (bf0 y) _ _ _ _ (by omega) (by omega) (bf0_ok hy) (fun i a b => ?_) (fun j a b => ?_) (by rw [Int.sub_zero]; rfl) rfl
        · show (if i = y then (0 : Int) else if 0 ≤ i ∧ i < k then -1 else M 8 i) = if i = y then 0 else -1
          by_cases z : i = y
          · rw [if_pos z, if_pos z]
          · rw [if_neg z, if_neg z, if_pos (by omega)]
        · have b : j < 1 := b
          rw [show j = 0 by omega]; exact u1_eq
      · refine xv (x_aload_n 9 d_X8_findFar_8 rfl rfl) ?_
        refine xv (x_getfield 12 d_X8_findFar_9 rfl f_8_32 (Nat.le_of_ble_eq_true rfl) (Nat.le_of_ble_eq_true rfl) (q_gf_of m_o rfl)) ?_
        refine xv (x_iload_n 13 d_X8_findFar_12 rfl rfl) ?_
        refine xv (x_iconst 14 d_X8_findFar_13 rfl) ?_
        refine xv (x_iastore 15 d_X8_findFar_14 rfl (m_s8 (by omega) (by omega))) ?_
        show Xv E q_m_X8_findFar 15 [Value.ref am, Value.int (zi y), Value.int (zi k), Value.null, Value.null, Value.null] [] (q_mw h am (uM (uA M 8 (fil (M 8) k)) 8 k (-1))) Q
        refine xv (x_iinc 18 d_X8_findFar_15 rfl rfl) ?_
        show Xv E q_m_X8_findFar 18 [Value.ref am, Value.int (zi y), Value.int (zi (k + 1)), Value.null, Value.null, Value.null] [] (q_mw h am (uM (uA M 8 (fil (M 8) k)) 8 k (-1))) Q
        refine xv (x_goto 2 d_X8_findFar_18 rfl) ?_
        rw [uM_uA, fil_s k0]
        exact ih2 _ (by omega) (k + 1) (by omega) (by omega) rfl
  have i0 := L2 _ 0 (by omega) (by omega) rfl
  rw [fil_0, uA_self] at i0
  exact i0
end RY
