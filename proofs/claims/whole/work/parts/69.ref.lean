/-! the reference: a robot taken off (printed by program) -/
section RU
variable {E : q_E} {h : q_H} {am : Nat} {M M2 : q_Im} {l g : Int → Int} {y k : Int}
noncomputable def mTak (l : Int → Int) (y : Int) : Int × Int := if ¬ isR l y then (1, 0) else if 0 ≤ rb l y 2 then (7, rb l y 2) else (0, 0)
/-- the rows behind moved down -/
def rT0 (l : Int → Int) (y : Int) : Int → Int := cpI (u1 l 3 (l 3 - 1)) (u1 l 3 (l 3 - 1)) (104 + 36 * (y + 1)) (104 + 36 * y) (36 * ((u1 l 3 (l 3 - 1)) 3 - y))
/-- the orders' robots told anew -/
def bys (g : Int → Int) (y k : Int) : Int → Int := fun i => if (320 ≤ i ∧ i < 320 + 8 * k ∧ (i - 320) % 8 = 3) ∧ y < g i then g i - 1 else g i
theorem bys_0 : bys g y 0 = g := funext fun i => if_neg (by omega)
theorem bys_k (i : Int) (h : i < 320 ∨ 320 + 8 * k ≤ i) : bys g y k i = g i := if_neg (by omega)
theorem bys_t (hk : 0 ≤ k) (h : y < ob (bys g y k) k 3) : u1 (bys g y k) (320 + 8 * k + 3) (ob (bys g y k) k 3 - 1) = bys g y (k + 1) := by
  have e : ob (bys g y k) k 3 = g (320 + 8 * k + 3) := bys_k _ (by omega)
  rw [e] at h ⊢
  funext i
  by_cases q : i = 320 + 8 * k + 3
  · rw [q, u1_eq]
    exact (if_pos ⟨by omega, h⟩).symm
  · rw [u1_ne q]
    show (if (320 ≤ i ∧ i < 320 + 8 * k ∧ (i - 320) % 8 = 3) ∧ y < g i then g i - 1 else g i) = if (320 ≤ i ∧ i < 320 + 8 * (k + 1) ∧ (i - 320) % 8 = 3) ∧ y < g i then g i - 1 else g i
    by_cases q2 : (320 ≤ i ∧ i < 320 + 8 * k ∧ (i - 320) % 8 = 3) ∧ y < g i
    · rw [if_pos q2, if_pos (by omega)]
    · rw [if_neg q2, if_neg (by omega)]
theorem bys_f (hk : 0 ≤ k) (h : ¬ y < ob (bys g y k) k 3) : u1 (bys g y k) (320 + 8 * k + 3) (ob (bys g y k) k 3 - 0) = bys g y (k + 1) := by
  have e : ob (bys g y k) k 3 = g (320 + 8 * k + 3) := bys_k _ (by omega)
  rw [e] at h ⊢
  funext i
  by_cases q : i = 320 + 8 * k + 3
  · rw [q, u1_eq, Int.sub_zero]
    exact (if_neg (fun z => h z.2)).symm
  · rw [u1_ne q]
    show (if (320 ≤ i ∧ i < 320 + 8 * k ∧ (i - 320) % 8 = 3) ∧ y < g i then g i - 1 else g i) = if (320 ≤ i ∧ i < 320 + 8 * (k + 1) ∧ (i - 320) % 8 = 3) ∧ y < g i then g i - 1 else g i
    by_cases q2 : (320 ≤ i ∧ i < 320 + 8 * k ∧ (i - 320) % 8 = 3) ∧ y < g i
    · rw [if_pos q2, if_pos (by omega)]
    · rw [if_neg q2, if_neg (by omega)]
theorem rT0_o {i : Int} (hi : ¬ i = 3) (h : i < 104 ∨ 320 ≤ i) (hr : isR l y) (hs : l 3 ≤ 6) : rT0 l y i = l i := by
  unfold rT0 cpI
  rw [u1_eq, if_neg (by have := hr.1; have := hr.2; omega), u1_ne hi]
theorem rT0_3 (hr : isR l y) : rT0 l y 3 = l 3 - 1 := by
  unfold rT0 cpI
  rw [u1_eq, if_neg (by have := hr.1; omega)]
theorem S_X8_takeOff (hR : Rg (M 1)) (hc : 0 ≤ M 0 4 ∧ M 0 4 ≤ 8) {y : Int} (y0 : -2147483648 ≤ y) (y1 : y < 2147483648) : ∃ r_ h', q_cl E q_m_X8_takeOff [Value.ref am, Value.int (zi y)] (q_mw h am M) = some (r_, h') ∧ (r_ = .inl (some (.int (zi (mMut M (mTak (M 1) y) (M 1 3 - 1) (bys (rT0 (M 1) y) y (M 1 4))).1))) ∧ h' = q_mw h am (mMut M (mTak (M 1) y) (M 1 3 - 1) (bys (rT0 (M 1) y) y (M 1 4))).2) := by
  suffices K : ∀ Q : q_R → q_H → Prop, (∀ r_ h', (r_ = .inl (some (.int (zi (mMut M (mTak (M 1) y) (M 1 3 - 1) (bys (rT0 (M 1) y) y (M 1 4))).1))) ∧ h' = q_mw h am (mMut M (mTak (M 1) y) (M 1 3 - 1) (bys (rT0 (M 1) y) y (M 1 4))).2) → Q r_ h') → Xv E q_m_X8_takeOff 0 [Value.ref am, Value.int (zi y), Value.null] [] (q_mw h am M) Q from K _ fun _ _ p => p
  intro Q hQ
  have hR0 := hR
  obtain ⟨hr, g0, g1, g3, g4, gc, g5, g6, g7, gk, gl, gr, go⟩ := hR0
  refine xv (x_aload_n 1 d_X8_takeOff_0 rfl rfl) ?_
  refine xv (x_iconst 2 d_X8_takeOff_1 rfl) ?_
  refine xv (x_putfield 5 d_X8_takeOff_2 rfl f_8_49 (Nat.le_of_ble_eq_true rfl) m_pf5 rfl rfl (fun e => absurd e (by decide))) ?_
  show Xv E q_m_X8_takeOff 5 [Value.ref am, Value.int (zi y), Value.null] [] (q_mw h am (uM M 0 5 0)) Q
  refine xv (x_aload_n 6 d_X8_takeOff_5 rfl rfl) ?_
  refine xv (x_iload_n 7 d_X8_takeOff_6 rfl rfl) ?_
  refine xv (x_inv1 10 (as := [Value.int (zi y)]) d_X8_takeOff_7 rfl c_8_103 rfl (Nat.le_of_ble_eq_true rfl) (Nat.le_of_ble_eq_true rfl) m_o (Nat.le_of_ble_eq_true rfl) (Nat.le_of_ble_eq_true rfl) rfl (S_X8_isRobot (E := E) (h := h) (am := am) (M := (uM M 0 5 0)) hR (by first | omega | (rw [show (uM M 0 5 0) 1 = (M 1) from rfl]; omega)) (by first | omega | (rw [show (uM M 0 5 0) 1 = (M 1) from rfl]; omega)))) ?_
  show Xv E q_m_X8_takeOff 10 [Value.ref am, Value.int (zi y), Value.null] [Value.int (zi (bI (isR (M 1) y)))] (q_mw h am (uM M 0 5 0)) Q
  refine v_if_ne 20 13 d_X8_takeOff_10 rfl rfl (by have := bI_r (isR (M 1) y); omega) (by have := bI_r (isR (M 1) y); omega) (fun k10 => ?_) (fun k10 => ?_)
  · replace k10 := bI_n0.mp k10
    have gq := gr y k10.1 k10.2
    refine xv (x_aload_n 21 d_X8_takeOff_20 rfl rfl) ?_
    refine xv (x_iload_n 22 d_X8_takeOff_21 rfl rfl) ?_
    refine xv (x_iconst 23 d_X8_takeOff_22 rfl) ?_
    refine xv (x_inv1 26 (as := [Value.int (zi y), Value.int (zi 2)]) d_X8_takeOff_23 rfl c_8_79 rfl (Nat.le_of_ble_eq_true rfl) (Nat.le_of_ble_eq_true rfl) m_o (Nat.le_of_ble_eq_true rfl) (Nat.le_of_ble_eq_true rfl) rfl (S_X8_of (E := E) (h := h) (am := am) (M := (uM M 0 5 0)) hR (by first | omega | (rw [show (uM M 0 5 0) 1 = (M 1) from rfl]; omega)) (by first | omega | (rw [show (uM M 0 5 0) 1 = (M 1) from rfl]; omega)) (by first | omega | (rw [show (uM M 0 5 0) 1 = (M 1) from rfl]; omega)) (by first | omega | (rw [show (uM M 0 5 0) 1 = (M 1) from rfl]; omega)))) ?_
    have q_1 : -1000000 ≤ rb (M 1) y 2 ∧ rb (M 1) y 2 ≤ 1000000 := hr _
    show Xv E q_m_X8_takeOff 26 [Value.ref am, Value.int (zi y), Value.null] [Value.int (zi (rb (M 1) y 2))] (q_mw h am (uM M 0 5 0)) Q
    refine v_if_lt 42 29 d_X8_takeOff_26 rfl rfl (by omega) (by omega) (fun k26 => ?_) (fun k26 => ?_)
    · refine xv (x_aload_n 43 d_X8_takeOff_42 rfl rfl) ?_
      obtain ⟨r43, h43, e43, z43, y43⟩ := S_X8_change (E := E) (h := h) (am := am) (M := (uM M 0 5 0)) hc
      subst z43
      subst y43
      refine xv (x_inv0 46 (as := []) d_X8_takeOff_43 rfl c_8_100 rfl (Nat.le_of_ble_eq_true rfl) (Nat.le_of_ble_eq_true rfl) m_o (Nat.le_of_ble_eq_true rfl) (Nat.le_of_ble_eq_true rfl) rfl e43) ?_
      generalize hM2 : mch (uM M 0 5 0) = M2
      have e2 : M2 1 = M 1 := by rw [← hM2]; exact mch_1
      have eM : M2 = uA M2 1 (M 1) := by rw [← e2, uA_self]
      rw [eM]
      show Xv E q_m_X8_takeOff 46 [Value.ref am, Value.int (zi y), Value.null] [] (q_mw h am (uA M2 1 (M 1))) Q
      refine xv (x_aload_n 47 d_X8_takeOff_46 rfl rfl) ?_
      refine xv (x_getfield 50 d_X8_takeOff_47 rfl f_8_9 (Nat.le_of_ble_eq_true rfl) (Nat.le_of_ble_eq_true rfl) (q_gf_of m_o rfl)) ?_
      refine xv (x_iconst 51 d_X8_takeOff_50 rfl) ?_
      refine xv (x_dup2 52 d_X8_takeOff_51 rfl rfl rfl) ?_
      refine xv (x_iaload 53 d_X8_takeOff_52 rfl ((m_g1 (by omega) (by omega)).trans (rfl : _ = some (Value.int (zi ((M 1) 3)))))) ?_
      have q_2 : -1000000 ≤ (M 1) 3 ∧ (M 1) 3 ≤ 1000000 := hr _
      refine xv (x_iconst 54 d_X8_takeOff_53 rfl) ?_
      refine xv (x_isub 55 d_X8_takeOff_54 rfl) ?_
      refine xv (x_iastore 56 d_X8_takeOff_55 rfl (m_s1 (by omega) (by omega))) ?_
      show Xv E q_m_X8_takeOff 56 [Value.ref am, Value.int (zi y), Value.null] [] (q_mw h am (uM (uA M2 1 (M 1)) 1 3 (((M 1) 3) - 1))) Q
      refine xv (x_aload_n 57 d_X8_takeOff_56 rfl rfl) ?_
      refine xv (x_getfield 60 d_X8_takeOff_57 rfl f_8_9 (Nat.le_of_ble_eq_true rfl) (Nat.le_of_ble_eq_true rfl) (q_gf_of m_o rfl)) ?_
      refine xv (x_iload_n 61 d_X8_takeOff_60 rfl rfl) ?_
      refine xv (x_iconst 62 d_X8_takeOff_61 rfl) ?_
      refine xv (x_iadd 63 d_X8_takeOff_62 rfl) ?_
      refine xv (x_ins1 66 (as := [Value.int (zi (y + 1))]) d_X8_takeOff_63 rfl c_8_75 rfl (Nat.le_of_ble_eq_true rfl) (Nat.le_of_ble_eq_true rfl) (Nat.le_of_ble_eq_true rfl) rfl (S_X8_at (E := E) (h := h) (am := am) (M := (uM (uA M2 1 (M 1)) 1 3 (((M 1) 3) - 1))))) ?_
      show Xv E q_m_X8_takeOff 66 [Value.ref am, Value.int (zi y), Value.null] [Value.int (zi (104 + 36 * (y + 1))), Value.ref (am + 1)] (q_mw h am (uM (uA M2 1 (M 1)) 1 3 (((M 1) 3) - 1))) Q
      refine xv (x_aload_n 67 d_X8_takeOff_66 rfl rfl) ?_
      refine xv (x_getfield 70 d_X8_takeOff_67 rfl f_8_9 (Nat.le_of_ble_eq_true rfl) (Nat.le_of_ble_eq_true rfl) (q_gf_of m_o rfl)) ?_
      refine xv (x_iload_n 71 d_X8_takeOff_70 rfl rfl) ?_
      refine xv (x_ins1 74 (as := [Value.int (zi y)]) d_X8_takeOff_71 rfl c_8_75 rfl (Nat.le_of_ble_eq_true rfl) (Nat.le_of_ble_eq_true rfl) (Nat.le_of_ble_eq_true rfl) rfl (S_X8_at (E := E) (h := h) (am := am) (M := (uM (uA M2 1 (M 1)) 1 3 (((M 1) 3) - 1))))) ?_
      show Xv E q_m_X8_takeOff 74 [Value.ref am, Value.int (zi y), Value.null] [Value.int (zi (104 + 36 * y)), Value.ref (am + 1), Value.int (zi (104 + 36 * (y + 1))), Value.ref (am + 1)] (q_mw h am (uM (uA M2 1 (M 1)) 1 3 (((M 1) 3) - 1))) Q
      refine xv (x_bipush 76 d_X8_takeOff_74 rfl rfl) ?_
      refine xv (x_aload_n 77 d_X8_takeOff_76 rfl rfl) ?_
      refine xv (x_getfield 80 d_X8_takeOff_77 rfl f_8_9 (Nat.le_of_ble_eq_true rfl) (Nat.le_of_ble_eq_true rfl) (q_gf_of m_o rfl)) ?_
      refine xv (x_iconst 81 d_X8_takeOff_80 rfl) ?_
      refine xv (x_iaload 82 d_X8_takeOff_81 rfl ((m_g1 (by omega) (by omega)).trans (rfl : _ = some (Value.int (zi ((u1 (M 1) 3 (((M 1) 3) - 1)) 3)))))) ?_
      have q81 : (u1 (M 1) 3 (((M 1) 3) - 1)) 3 = M 1 3 - 1 := u1_eq
      refine xv (x_iload_n 83 d_X8_takeOff_82 rfl rfl) ?_
      refine xv (x_isub 84 d_X8_takeOff_83 rfl) ?_
      refine xv (x_imul 85 d_X8_takeOff_84 rfl) ?_
      refine xv (x_copy 88 d_X8_takeOff_85 rfl rfl rfl (Nat.le_of_ble_eq_true rfl) (Nat.le_of_ble_eq_true rfl) (Nat.le_of_ble_eq_true rfl) (m_cpy 1 1 m_a1 m_a1 m_w1 (by omega) (by omega) (by omega) (by omega) (by omega) (by decide) (by decide))) ?_
      show Xv E q_m_X8_takeOff 88 [Value.ref am, Value.int (zi y), Value.null] [] (q_mw h am (uA (uM (uA M2 1 (M 1)) 1 3 (((M 1) 3) - 1)) 1 (cpI (u1 (M 1) 3 (((M 1) 3) - 1)) (u1 (M 1) 3 (((M 1) 3) - 1)) (104 + 36 * (y + 1)) (104 + 36 * y) (36 * (((u1 (M 1) 3 (((M 1) 3) - 1)) 3) - y))))) Q
      refine xv (x_iconst 89 d_X8_takeOff_88 rfl) ?_
      refine xv (x_istore_n 90 d_X8_takeOff_89 rfl (Nat.le_of_ble_eq_true rfl)) ?_
      show Xv E q_m_X8_takeOff 90 [Value.ref am, Value.int (zi y), Value.int (zi 0)] [] (q_mw h am (uA (uM (uA M2 1 (M 1)) 1 3 (((M 1) 3) - 1)) 1 (cpI (u1 (M 1) 3 (((M 1) 3) - 1)) (u1 (M 1) 3 (((M 1) 3) - 1)) (104 + 36 * (y + 1)) (104 + 36 * y) (36 * (((u1 (M 1) 3 (((M 1) 3) - 1)) 3) - y))))) Q
      have L90 : ∀ (n_ : Nat) (k : Int), (0 ≤ k) → (k ≤ M 1 4) → (M 1 4 - k).toNat = n_ → Xv E q_m_X8_takeOff 90 [Value.ref am, Value.int (zi y), Value.int (zi k)] [] (q_mw h am (uA M2 1 (bys (rT0 (M 1) y) y k))) Q := by
        intro n_
        induction n_ using Nat.strongRecOn with
        | _ n_ ih90 =>
          intro k k0 k1 em
          refine xv (x_iload_n 91 d_X8_takeOff_90 rfl rfl) ?_
          refine xv (x_aload_n 92 d_X8_takeOff_91 rfl rfl) ?_
          refine xv (x_getfield 95 d_X8_takeOff_92 rfl f_8_9 (Nat.le_of_ble_eq_true rfl) (Nat.le_of_ble_eq_true rfl) (q_gf_of m_o rfl)) ?_
          refine xv (x_iconst 96 d_X8_takeOff_95 rfl) ?_
          refine xv (x_iaload 97 d_X8_takeOff_96 rfl ((m_g1 (by omega) (by omega)).trans (rfl : _ = some (Value.int (zi ((bys (rT0 (M 1) y) y k) 4)))))) ?_
          have q96 : (bys (rT0 (M 1) y) y k) 4 = M 1 4 := (bys_k 4 (by omega)).trans (rT0_o (by omega) (by omega) k10 g3.2)
          refine v_icmp_ge 140 100 d_X8_takeOff_97 rfl rfl (by omega) (by omega) (by omega) (by omega) (fun k97 => ?_) (fun k97 => ?_)
          · refine xv (x_aload_n 141 d_X8_takeOff_140 rfl rfl) ?_
            refine xv (x_getfield 144 d_X8_takeOff_141 rfl f_8_9 (Nat.le_of_ble_eq_true rfl) (Nat.le_of_ble_eq_true rfl) (q_gf_of m_o rfl)) ?_
            refine xv (x_iconst 145 d_X8_takeOff_144 rfl) ?_
            refine xv (x_iaload 146 d_X8_takeOff_145 rfl ((m_g1 (by omega) (by omega)).trans (rfl : _ = some (Value.int (zi ((bys (rT0 (M 1) y) y k) 3)))))) ?_
            have q145 : (bys (rT0 (M 1) y) y k) 3 = M 1 3 - 1 := (bys_k 3 (by omega)).trans (rT0_3 k10)
            refine xv_r (x_ireturn d_X8_takeOff_146 rfl rfl) ?_
            have er : mTak (M 1) y = (0, 0) := by unfold mTak; repeat (first | rw [if_pos (by omega)] | rw [if_neg (by omega)])
            have ek : k = M 1 4 := by omega
            refine hQ _ _ ?_
            unfold mMut
            rw [er, if_pos rfl]
            refine ⟨by rw [q145], ?_⟩
            rw [hM2, ek]
          · refine xv (x_aload_n 101 d_X8_takeOff_100 rfl rfl) ?_
            refine xv (x_getfield 104 d_X8_takeOff_101 rfl f_8_9 (Nat.le_of_ble_eq_true rfl) (Nat.le_of_ble_eq_true rfl) (q_gf_of m_o rfl)) ?_
            refine xv (x_iload_n 105 d_X8_takeOff_104 rfl rfl) ?_
            refine xv (x_ins1 108 (as := [Value.int (zi k)]) d_X8_takeOff_105 rfl c_8_106 rfl (Nat.le_of_ble_eq_true rfl) (Nat.le_of_ble_eq_true rfl) (Nat.le_of_ble_eq_true rfl) rfl (S_X8_order (E := E) (h := h) (am := am) (M := (uA M2 1 (bys (rT0 (M 1) y) y k))))) ?_
            show Xv E q_m_X8_takeOff 108 [Value.ref am, Value.int (zi y), Value.int (zi k)] [Value.int (zi (320 + 8 * k)), Value.ref (am + 1)] (q_mw h am (uA M2 1 (bys (rT0 (M 1) y) y k))) Q
            refine xv (x_iconst 109 d_X8_takeOff_108 rfl) ?_
            refine xv (x_iadd 110 d_X8_takeOff_109 rfl) ?_
            refine xv (x_dup2 111 d_X8_takeOff_110 rfl rfl rfl) ?_
            refine xv (x_iaload 112 d_X8_takeOff_111 rfl ((m_g1 (by omega) (by omega)).trans (rfl : _ = some (Value.int (zi (ob (bys (rT0 (M 1) y) y k) k 3)))))) ?_
            have q111 : ob (bys (rT0 (M 1) y) y k) k 3 = ob (M 1) k 3 := (bys_k _ (by omega)).trans (rT0_o (by omega) (by omega) k10 g3.2)
            have g111 := (go k (by omega) (by omega)).2
            refine xv (x_aload_n 113 d_X8_takeOff_112 rfl rfl) ?_
            refine xv (x_getfield 116 d_X8_takeOff_113 rfl f_8_9 (Nat.le_of_ble_eq_true rfl) (Nat.le_of_ble_eq_true rfl) (q_gf_of m_o rfl)) ?_
            refine xv (x_iload_n 117 d_X8_takeOff_116 rfl rfl) ?_
            refine xv (x_ins1 120 (as := [Value.int (zi k)]) d_X8_takeOff_117 rfl c_8_106 rfl (Nat.le_of_ble_eq_true rfl) (Nat.le_of_ble_eq_true rfl) (Nat.le_of_ble_eq_true rfl) rfl (S_X8_order (E := E) (h := h) (am := am) (M := (uA M2 1 (bys (rT0 (M 1) y) y k))))) ?_
            show Xv E q_m_X8_takeOff 120 [Value.ref am, Value.int (zi y), Value.int (zi k)] [Value.int (zi (320 + 8 * k)), Value.ref (am + 1), Value.int (zi (ob (bys (rT0 (M 1) y) y k) k 3)), Value.int (zi ((320 + 8 * k) + 3)), Value.ref (am + 1)] (q_mw h am (uA M2 1 (bys (rT0 (M 1) y) y k))) Q
            refine xv (x_iconst 121 d_X8_takeOff_120 rfl) ?_
            refine xv (x_iadd 122 d_X8_takeOff_121 rfl) ?_
            refine xv (x_iaload 123 d_X8_takeOff_122 rfl ((m_g1 (by omega) (by omega)).trans (rfl : _ = some (Value.int (zi (ob (bys (rT0 (M 1) y) y k) k 3)))))) ?_
            have q122 : ob (bys (rT0 (M 1) y) y k) k 3 = ob (M 1) k 3 := (bys_k _ (by omega)).trans (rT0_o (by omega) (by omega) k10 g3.2)
            have g122 := (go k (by omega) (by omega)).2
            refine xv (x_iload_n 124 d_X8_takeOff_123 rfl rfl) ?_
            refine v_icmp_le 131 127 d_X8_takeOff_124 rfl rfl (by omega) (by omega) (by omega) (by omega) (fun k124 => ?_) (fun k124 => ?_)
            · refine xv (x_iconst 132 d_X8_takeOff_131 rfl) ?_
              refine xv (x_isub 133 d_X8_takeOff_132 rfl) ?_
              refine xv (x_iastore 134 d_X8_takeOff_133 rfl (m_s1 (by omega) (by omega))) ?_
              show Xv E q_m_X8_takeOff 134 [Value.ref am, Value.int (zi y), Value.int (zi k)] [] (q_mw h am (uM (uA M2 1 (bys (rT0 (M 1) y) y k)) 1 ((320 + 8 * k) + 3) ((ob (bys (rT0 (M 1) y) y k) k 3) - 0))) Q
              refine xv (x_iinc 137 d_X8_takeOff_134 rfl rfl) ?_
              show Xv E q_m_X8_takeOff 137 [Value.ref am, Value.int (zi y), Value.int (zi (k + 1))] [] (q_mw h am (uM (uA M2 1 (bys (rT0 (M 1) y) y k)) 1 ((320 + 8 * k) + 3) ((ob (bys (rT0 (M 1) y) y k) k 3) - 0))) Q
              refine xv (x_goto 90 d_X8_takeOff_137 rfl) ?_
              rw [uM_uA, bys_f k0 (by omega)]
              exact ih90 _ (by omega) (k + 1) (by omega) (by omega) rfl
            · refine xv (x_iconst 128 d_X8_takeOff_127 rfl) ?_
              refine xv (x_goto 132 d_X8_takeOff_128 rfl) ?_
              refine xv (x_isub 133 d_X8_takeOff_132 rfl) ?_
              refine xv (x_iastore 134 d_X8_takeOff_133 rfl (m_s1 (by omega) (by omega))) ?_
              show Xv E q_m_X8_takeOff 134 [Value.ref am, Value.int (zi y), Value.int (zi k)] [] (q_mw h am (uM (uA M2 1 (bys (rT0 (M 1) y) y k)) 1 ((320 + 8 * k) + 3) ((ob (bys (rT0 (M 1) y) y k) k 3) - 1))) Q
              refine xv (x_iinc 137 d_X8_takeOff_134 rfl rfl) ?_
              show Xv E q_m_X8_takeOff 137 [Value.ref am, Value.int (zi y), Value.int (zi (k + 1))] [] (q_mw h am (uM (uA M2 1 (bys (rT0 (M 1) y) y k)) 1 ((320 + 8 * k) + 3) ((ob (bys (rT0 (M 1) y) y k) k 3) - 1))) Q
              refine xv (x_goto 90 d_X8_takeOff_137 rfl) ?_
              rw [uM_uA, bys_t k0 (by omega)]
              exact ih90 _ (by omega) (k + 1) (by omega) (by omega) rfl
      have i0 := L90 _ 0 (by omega) (by omega) rfl
      rw [bys_0] at i0
      simp only [uM_uA, uA_uA]
      exact i0
    · refine xv (x_aload_n 30 d_X8_takeOff_29 rfl rfl) ?_
      refine xv (x_bipush 32 d_X8_takeOff_30 rfl rfl) ?_
      refine xv (x_aload_n 33 d_X8_takeOff_32 rfl rfl) ?_
      refine xv (x_iload_n 34 d_X8_takeOff_33 rfl rfl) ?_
      refine xv (x_iconst 35 d_X8_takeOff_34 rfl) ?_
      refine xv (x_inv1 38 (as := [Value.int (zi y), Value.int (zi 2)]) d_X8_takeOff_35 rfl c_8_79 rfl (Nat.le_of_ble_eq_true rfl) (Nat.le_of_ble_eq_true rfl) m_o (Nat.le_of_ble_eq_true rfl) (Nat.le_of_ble_eq_true rfl) rfl (S_X8_of (E := E) (h := h) (am := am) (M := (uM M 0 5 0)) hR (by first | omega | (rw [show (uM M 0 5 0) 1 = (M 1) from rfl]; omega)) (by first | omega | (rw [show (uM M 0 5 0) 1 = (M 1) from rfl]; omega)) (by first | omega | (rw [show (uM M 0 5 0) 1 = (M 1) from rfl]; omega)) (by first | omega | (rw [show (uM M 0 5 0) 1 = (M 1) from rfl]; omega)))) ?_
      have q_3 : -1000000 ≤ rb (M 1) y 2 ∧ rb (M 1) y 2 ≤ 1000000 := hr _
      show Xv E q_m_X8_takeOff 38 [Value.ref am, Value.int (zi y), Value.null] [Value.int (zi (rb (M 1) y 2)), Value.int (zi 7), Value.ref am] (q_mw h am (uM M 0 5 0)) Q
      obtain ⟨r38, h38, e38, z38, y38⟩ := S_X8_refuse (E := E) (h := h) (am := am) (M := (uM M 0 5 0)) (y := 7) (z := rb (M 1) y 2) 
      subst z38
      subst y38
      refine xv (x_inv1 41 (as := [Value.int (zi 7), Value.int (zi (rb (M 1) y 2))]) d_X8_takeOff_38 rfl c_8_90 rfl (Nat.le_of_ble_eq_true rfl) (Nat.le_of_ble_eq_true rfl) m_o (Nat.le_of_ble_eq_true rfl) (Nat.le_of_ble_eq_true rfl) rfl e38) ?_
      show Xv E q_m_X8_takeOff 41 [Value.ref am, Value.int (zi y), Value.null] [Value.int (zi 0)] (q_mw h am (uM (uM (uM (uM M 0 5 0) 0 5 1) 0 6 7) 0 7 (rb (M 1) y 2))) Q
      refine xv_r (x_ireturn d_X8_takeOff_41 rfl rfl) ?_
      have er : mTak (M 1) y = (7, (rb (M 1) y 2)) := by unfold mTak; repeat (first | rw [if_pos (by omega)] | rw [if_neg (by omega)])
      refine hQ _ _ ?_
      unfold mMut
      rw [er]
      exact ⟨rfl, rfl⟩
  · replace k10 := bI_0.mp k10
    refine xv (x_aload_n 14 d_X8_takeOff_13 rfl rfl) ?_
    refine xv (x_iconst 15 d_X8_takeOff_14 rfl) ?_
    refine xv (x_iconst 16 d_X8_takeOff_15 rfl) ?_
    obtain ⟨r16, h16, e16, z16, y16⟩ := S_X8_refuse (E := E) (h := h) (am := am) (M := (uM M 0 5 0)) (y := 1) (z := 0) 
    subst z16
    subst y16
    refine xv (x_inv1 19 (as := [Value.int (zi 1), Value.int (zi 0)]) d_X8_takeOff_16 rfl c_8_90 rfl (Nat.le_of_ble_eq_true rfl) (Nat.le_of_ble_eq_true rfl) m_o (Nat.le_of_ble_eq_true rfl) (Nat.le_of_ble_eq_true rfl) rfl e16) ?_
    show Xv E q_m_X8_takeOff 19 [Value.ref am, Value.int (zi y), Value.null] [Value.int (zi 0)] (q_mw h am (uM (uM (uM (uM M 0 5 0) 0 5 1) 0 6 1) 0 7 0)) Q
    refine xv_r (x_ireturn d_X8_takeOff_19 rfl rfl) ?_
    have er : mTak (M 1) y = (1, 0) := by unfold mTak; repeat (first | rw [if_pos (by omega)] | rw [if_neg (by omega)])
    refine hQ _ _ ?_
    unfold mMut
    rw [er]
    exact ⟨rfl, rfl⟩
end RU
