/-! the class's orders and warehouse: what writes (printed by program) -/
section CX
variable {E : q_E} {h : q_H} {w v a b : Nat} {l lo f g : Int → Int} {p p2 : Int → Nat}
theorem S_X3_begin (hA : OB h a f) {d x y z : Int} (y0 : -2147483648 ≤ y) (y1 : y < 2147483648) (z0 : -2147483648 ≤ z) (z1 : z < 2147483648) : ∃ r_ h', q_cl E q_m_X3_begin [Value.ref a, Value.int (zi d), Value.int (zi x), Value.int (zi y), Value.int (zi z)] h = some (r_, h') ∧ (r_ = .inl none ∧ OB h' a (obg f d x y z) ∧ Fr a 2 h h') := by
  suffices K : ∀ Q : q_R → q_H → Prop, (∀ r_ h', (r_ = .inl none ∧ OB h' a (obg f d x y z) ∧ Fr a 2 h h') → Q r_ h') → Xv E q_m_X3_begin 0 [Value.ref a, Value.int (zi d), Value.int (zi x), Value.int (zi y), Value.int (zi z)] [] h Q from K _ fun _ _ p => p
  intro Q hQ
  refine xv (x_aload_n 1 d_X3_begin_0 rfl rfl) ?_
  refine xv (x_iload_n 2 d_X3_begin_1 rfl rfl) ?_
  obtain ⟨h2, e2, w2, f2⟩ := ob_pf0 (v := d) hA
  have F2 : Fr a 2 h h2 := fr_tr fr_rf (fr_in f2 (by omega) (by omega))
  refine xv (x_putfield 5 d_X3_begin_2 rfl f_3_19 (Nat.le_of_ble_eq_true rfl) e2 rfl rfl (fun e => absurd e (by decide))) ?_
  show Xv E q_m_X3_begin 5 [Value.ref a, Value.int (zi d), Value.int (zi x), Value.int (zi y), Value.int (zi z)] [] h2 Q
  refine xv (x_aload_n 6 d_X3_begin_5 rfl rfl) ?_
  refine xv (x_getfield 9 d_X3_begin_6 rfl f_3_9 (Nat.le_of_ble_eq_true rfl) (Nat.le_of_ble_eq_true rfl) (q_gf_of w2.1 rfl)) ?_
  refine xv (x_iconst 10 d_X3_begin_9 rfl) ?_
  refine xv (x_iload_n 11 d_X3_begin_10 rfl rfl) ?_
  obtain ⟨h11, e11, w11, f11⟩ := ob_ls (z := 0) (v := x) w2 (by omega) (by omega)
  have F11 : Fr a 2 h h11 := fr_tr F2 (fr_in f11 (by omega) (by omega))
  refine xv (x_iastore 12 d_X3_begin_11 rfl e11) ?_
  show Xv E q_m_X3_begin 12 [Value.ref a, Value.int (zi d), Value.int (zi x), Value.int (zi y), Value.int (zi z)] [] h11 Q
  refine xv (x_aload_n 13 d_X3_begin_12 rfl rfl) ?_
  refine xv (x_getfield 16 d_X3_begin_13 rfl f_3_9 (Nat.le_of_ble_eq_true rfl) (Nat.le_of_ble_eq_true rfl) (q_gf_of w11.1 rfl)) ?_
  refine xv (x_iconst 17 d_X3_begin_16 rfl) ?_
  refine xv (x_iload_n 18 d_X3_begin_17 rfl rfl) ?_
  obtain ⟨h18, e18, w18, f18⟩ := ob_ls (z := 1) (v := y) w11 (by omega) (by omega)
  have F18 : Fr a 2 h h18 := fr_tr F11 (fr_in f18 (by omega) (by omega))
  refine xv (x_iastore 19 d_X3_begin_18 rfl e18) ?_
  show Xv E q_m_X3_begin 19 [Value.ref a, Value.int (zi d), Value.int (zi x), Value.int (zi y), Value.int (zi z)] [] h18 Q
  refine xv (x_aload_n 20 d_X3_begin_19 rfl rfl) ?_
  refine xv (x_getfield 23 d_X3_begin_20 rfl f_3_9 (Nat.le_of_ble_eq_true rfl) (Nat.le_of_ble_eq_true rfl) (q_gf_of w18.1 rfl)) ?_
  refine xv (x_iconst 24 d_X3_begin_23 rfl) ?_
  refine xv (x_iload 26 d_X3_begin_24 rfl rfl) ?_
  obtain ⟨h26, e26, w26, f26⟩ := ob_ls (z := 2) (v := z) w18 (by omega) (by omega)
  have F26 : Fr a 2 h h26 := fr_tr F18 (fr_in f26 (by omega) (by omega))
  refine xv (x_iastore 27 d_X3_begin_26 rfl e26) ?_
  show Xv E q_m_X3_begin 27 [Value.ref a, Value.int (zi d), Value.int (zi x), Value.int (zi y), Value.int (zi z)] [] h26 Q
  refine xv (x_aload_n 28 d_X3_begin_27 rfl rfl) ?_
  refine xv (x_iload_n 29 d_X3_begin_28 rfl rfl) ?_
  refine xv (x_iconst 30 d_X3_begin_29 rfl) ?_
  refine v_icmp_ne 37 33 d_X3_begin_30 rfl rfl (by omega) (by omega) (by omega) (by omega) (fun k30 => ?_) (fun k30 => ?_)
  · refine xv (x_iload 39 d_X3_begin_37 rfl rfl) ?_
    refine xv (x_iconst 40 d_X3_begin_39 rfl) ?_
    refine v_icmp_ne 47 43 d_X3_begin_40 rfl rfl (by omega) (by omega) (by omega) (by omega) (fun k40 => ?_) (fun k40 => ?_)
    · refine xv (x_iconst 48 d_X3_begin_47 rfl) ?_
      obtain ⟨h48, e48, w48, f48⟩ := ob_pf1 (v := 3) w26
      have F48 : Fr a 2 h h48 := fr_tr F26 (fr_in f48 (by omega) (by omega))
      refine xv (x_putfield 51 d_X3_begin_48 rfl f_3_22 (Nat.le_of_ble_eq_true rfl) e48 rfl rfl (fun e => absurd e (by decide))) ?_
      show Xv E q_m_X3_begin 51 [Value.ref a, Value.int (zi d), Value.int (zi x), Value.int (zi y), Value.int (zi z)] [] h48 Q
      refine xv (x_aload_n 52 d_X3_begin_51 rfl rfl) ?_
      refine xv (x_iconst 53 d_X3_begin_52 rfl) ?_
      obtain ⟨h53, e53, w53, f53⟩ := ob_pf2 (v := 0) w48
      have F53 : Fr a 2 h h53 := fr_tr F48 (fr_in f53 (by omega) (by omega))
      refine xv (x_putfield 56 d_X3_begin_53 rfl f_3_25 (Nat.le_of_ble_eq_true rfl) e53 rfl rfl (fun e => absurd e (by decide))) ?_
      show Xv E q_m_X3_begin 56 [Value.ref a, Value.int (zi d), Value.int (zi x), Value.int (zi y), Value.int (zi z)] [] h53 Q
      refine xv (x_aload_n 57 d_X3_begin_56 rfl rfl) ?_
      refine xv (x_iconst 58 d_X3_begin_57 rfl) ?_
      obtain ⟨h58, e58, w58, f58⟩ := ob_pf3 (v := (-1)) w53
      have F58 : Fr a 2 h h58 := fr_tr F53 (fr_in f58 (by omega) (by omega))
      refine xv (x_putfield 61 d_X3_begin_58 rfl f_3_15 (Nat.le_of_ble_eq_true rfl) e58 rfl rfl (fun e => absurd e (by decide))) ?_
      show Xv E q_m_X3_begin 61 [Value.ref a, Value.int (zi d), Value.int (zi x), Value.int (zi y), Value.int (zi z)] [] h58 Q
      refine xv_r (x_return d_X3_begin_61 rfl) ?_
      refine hQ _ _ ⟨rfl, ob_cg w58 fun i i0 i1 i2 => ?_, F58⟩
      rcases (by omega : i = 0 ∨ i = 1 ∨ i = 2 ∨ i = 4 ∨ i = 5 ∨ i = 6 ∨ i = 7) with e | e | e | e | e | e | e <;> subst e <;> simp [obg, u1, *]
    · refine xv (x_iconst 44 d_X3_begin_43 rfl) ?_
      refine xv (x_goto 48 d_X3_begin_44 rfl) ?_
      obtain ⟨h48, e48, w48, f48⟩ := ob_pf1 (v := 2) w26
      have F48 : Fr a 2 h h48 := fr_tr F26 (fr_in f48 (by omega) (by omega))
      refine xv (x_putfield 51 d_X3_begin_48 rfl f_3_22 (Nat.le_of_ble_eq_true rfl) e48 rfl rfl (fun e => absurd e (by decide))) ?_
      show Xv E q_m_X3_begin 51 [Value.ref a, Value.int (zi d), Value.int (zi x), Value.int (zi y), Value.int (zi z)] [] h48 Q
      refine xv (x_aload_n 52 d_X3_begin_51 rfl rfl) ?_
      refine xv (x_iconst 53 d_X3_begin_52 rfl) ?_
      obtain ⟨h53, e53, w53, f53⟩ := ob_pf2 (v := 0) w48
      have F53 : Fr a 2 h h53 := fr_tr F48 (fr_in f53 (by omega) (by omega))
      refine xv (x_putfield 56 d_X3_begin_53 rfl f_3_25 (Nat.le_of_ble_eq_true rfl) e53 rfl rfl (fun e => absurd e (by decide))) ?_
      show Xv E q_m_X3_begin 56 [Value.ref a, Value.int (zi d), Value.int (zi x), Value.int (zi y), Value.int (zi z)] [] h53 Q
      refine xv (x_aload_n 57 d_X3_begin_56 rfl rfl) ?_
      refine xv (x_iconst 58 d_X3_begin_57 rfl) ?_
      obtain ⟨h58, e58, w58, f58⟩ := ob_pf3 (v := (-1)) w53
      have F58 : Fr a 2 h h58 := fr_tr F53 (fr_in f58 (by omega) (by omega))
      refine xv (x_putfield 61 d_X3_begin_58 rfl f_3_15 (Nat.le_of_ble_eq_true rfl) e58 rfl rfl (fun e => absurd e (by decide))) ?_
      show Xv E q_m_X3_begin 61 [Value.ref a, Value.int (zi d), Value.int (zi x), Value.int (zi y), Value.int (zi z)] [] h58 Q
      refine xv_r (x_return d_X3_begin_61 rfl) ?_
      refine hQ _ _ ⟨rfl, ob_cg w58 fun i i0 i1 i2 => ?_, F58⟩
      rcases (by omega : i = 0 ∨ i = 1 ∨ i = 2 ∨ i = 4 ∨ i = 5 ∨ i = 6 ∨ i = 7) with e | e | e | e | e | e | e <;> subst e <;> simp [obg, u1, *]
  · refine xv (x_iconst 34 d_X3_begin_33 rfl) ?_
    refine xv (x_goto 48 d_X3_begin_34 rfl) ?_
    obtain ⟨h48, e48, w48, f48⟩ := ob_pf1 (v := 1) w26
    have F48 : Fr a 2 h h48 := fr_tr F26 (fr_in f48 (by omega) (by omega))
    refine xv (x_putfield 51 d_X3_begin_48 rfl f_3_22 (Nat.le_of_ble_eq_true rfl) e48 rfl rfl (fun e => absurd e (by decide))) ?_
    show Xv E q_m_X3_begin 51 [Value.ref a, Value.int (zi d), Value.int (zi x), Value.int (zi y), Value.int (zi z)] [] h48 Q
    refine xv (x_aload_n 52 d_X3_begin_51 rfl rfl) ?_
    refine xv (x_iconst 53 d_X3_begin_52 rfl) ?_
    obtain ⟨h53, e53, w53, f53⟩ := ob_pf2 (v := 0) w48
    have F53 : Fr a 2 h h53 := fr_tr F48 (fr_in f53 (by omega) (by omega))
    refine xv (x_putfield 56 d_X3_begin_53 rfl f_3_25 (Nat.le_of_ble_eq_true rfl) e53 rfl rfl (fun e => absurd e (by decide))) ?_
    show Xv E q_m_X3_begin 56 [Value.ref a, Value.int (zi d), Value.int (zi x), Value.int (zi y), Value.int (zi z)] [] h53 Q
    refine xv (x_aload_n 57 d_X3_begin_56 rfl rfl) ?_
    refine xv (x_iconst 58 d_X3_begin_57 rfl) ?_
    obtain ⟨h58, e58, w58, f58⟩ := ob_pf3 (v := (-1)) w53
    have F58 : Fr a 2 h h58 := fr_tr F53 (fr_in f58 (by omega) (by omega))
    refine xv (x_putfield 61 d_X3_begin_58 rfl f_3_15 (Nat.le_of_ble_eq_true rfl) e58 rfl rfl (fun e => absurd e (by decide))) ?_
    show Xv E q_m_X3_begin 61 [Value.ref a, Value.int (zi d), Value.int (zi x), Value.int (zi y), Value.int (zi z)] [] h58 Q
    refine xv_r (x_return d_X3_begin_61 rfl) ?_
    refine hQ _ _ ⟨rfl, ob_cg w58 fun i i0 i1 i2 => ?_, F58⟩
    rcases (by omega : i = 0 ∨ i = 1 ∨ i = 2 ∨ i = 4 ∨ i = 5 ∨ i = 6 ∨ i = 7) with e | e | e | e | e | e | e <;> subst e <;> simp [obg, u1, *]
theorem S_X3_copyFrom (hA : OB h a f) (hB : OB h b g) (sp : a + 2 ≤ b ∨ b + 2 ≤ a) : ∃ r_ h', q_cl E q_m_X3_copyFrom [Value.ref a, Value.ref b] h = some (r_, h') ∧ (r_ = .inl none ∧ OB h' a g ∧ Fr a 2 h h') := by
  suffices K : ∀ Q : q_R → q_H → Prop, (∀ r_ h', (r_ = .inl none ∧ OB h' a g ∧ Fr a 2 h h') → Q r_ h') → Xv E q_m_X3_copyFrom 0 [Value.ref a, Value.ref b] [] h Q from K _ fun _ _ p => p
  intro Q hQ
  refine xv (x_aload_n 1 d_X3_copyFrom_0 rfl rfl) ?_
  refine xv (x_aload_n 2 d_X3_copyFrom_1 rfl rfl) ?_
  refine xv (x_getfield 5 d_X3_copyFrom_2 rfl f_3_19 (Nat.le_of_ble_eq_true rfl) (Nat.le_of_ble_eq_true rfl) (q_gf_of hB.1 rfl)) ?_
  obtain ⟨h5, e5, w5, f5⟩ := ob_pf0 (v := g 0) hA
  have B_5 := ob_fr hB f5 (by omega)
  have F5 : Fr a 2 h h5 := fr_tr fr_rf (fr_in f5 (by omega) (by omega))
  refine xv (x_putfield 8 d_X3_copyFrom_5 rfl f_3_19 (Nat.le_of_ble_eq_true rfl) e5 rfl rfl (fun e => absurd e (by decide))) ?_
  show Xv E q_m_X3_copyFrom 8 [Value.ref a, Value.ref b] [] h5 Q
  refine xv (x_aload_n 9 d_X3_copyFrom_8 rfl rfl) ?_
  refine xv (x_aload_n 10 d_X3_copyFrom_9 rfl rfl) ?_
  refine xv (x_getfield 13 d_X3_copyFrom_10 rfl f_3_22 (Nat.le_of_ble_eq_true rfl) (Nat.le_of_ble_eq_true rfl) (q_gf_of B_5.1 rfl)) ?_
  obtain ⟨h13, e13, w13, f13⟩ := ob_pf1 (v := g 1) w5
  have B_13 := ob_fr B_5 f13 (by omega)
  have F13 : Fr a 2 h h13 := fr_tr F5 (fr_in f13 (by omega) (by omega))
  refine xv (x_putfield 16 d_X3_copyFrom_13 rfl f_3_22 (Nat.le_of_ble_eq_true rfl) e13 rfl rfl (fun e => absurd e (by decide))) ?_
  show Xv E q_m_X3_copyFrom 16 [Value.ref a, Value.ref b] [] h13 Q
  refine xv (x_aload_n 17 d_X3_copyFrom_16 rfl rfl) ?_
  refine xv (x_aload_n 18 d_X3_copyFrom_17 rfl rfl) ?_
  refine xv (x_getfield 21 d_X3_copyFrom_18 rfl f_3_25 (Nat.le_of_ble_eq_true rfl) (Nat.le_of_ble_eq_true rfl) (q_gf_of B_13.1 rfl)) ?_
  obtain ⟨h21, e21, w21, f21⟩ := ob_pf2 (v := g 2) w13
  have B_21 := ob_fr B_13 f21 (by omega)
  have F21 : Fr a 2 h h21 := fr_tr F13 (fr_in f21 (by omega) (by omega))
  refine xv (x_putfield 24 d_X3_copyFrom_21 rfl f_3_25 (Nat.le_of_ble_eq_true rfl) e21 rfl rfl (fun e => absurd e (by decide))) ?_
  show Xv E q_m_X3_copyFrom 24 [Value.ref a, Value.ref b] [] h21 Q
  refine xv (x_aload_n 25 d_X3_copyFrom_24 rfl rfl) ?_
  refine xv (x_aload_n 26 d_X3_copyFrom_25 rfl rfl) ?_
  refine xv (x_getfield 29 d_X3_copyFrom_26 rfl f_3_15 (Nat.le_of_ble_eq_true rfl) (Nat.le_of_ble_eq_true rfl) (q_gf_of B_21.1 rfl)) ?_
  obtain ⟨h29, e29, w29, f29⟩ := ob_pf3 (v := g 4) w21
  have B_29 := ob_fr B_21 f29 (by omega)
  have F29 : Fr a 2 h h29 := fr_tr F21 (fr_in f29 (by omega) (by omega))
  refine xv (x_putfield 32 d_X3_copyFrom_29 rfl f_3_15 (Nat.le_of_ble_eq_true rfl) e29 rfl rfl (fun e => absurd e (by decide))) ?_
  show Xv E q_m_X3_copyFrom 32 [Value.ref a, Value.ref b] [] h29 Q
  refine xv (x_aload_n 33 d_X3_copyFrom_32 rfl rfl) ?_
  refine xv (x_getfield 36 d_X3_copyFrom_33 rfl f_3_9 (Nat.le_of_ble_eq_true rfl) (Nat.le_of_ble_eq_true rfl) (q_gf_of B_29.1 rfl)) ?_
  refine xv (x_iconst 37 d_X3_copyFrom_36 rfl) ?_
  refine xv (x_aload_n 38 d_X3_copyFrom_37 rfl rfl) ?_
  refine xv (x_getfield 41 d_X3_copyFrom_38 rfl f_3_9 (Nat.le_of_ble_eq_true rfl) (Nat.le_of_ble_eq_true rfl) (q_gf_of w29.1 rfl)) ?_
  refine xv (x_iconst 42 d_X3_copyFrom_41 rfl) ?_
  refine xv (x_iconst 43 d_X3_copyFrom_42 rfl) ?_
  obtain ⟨h43, e43, w43, f43⟩ := ob_cp (E := E) B_29 w29
  have B_43 := ob_fr B_29 f43 (by omega)
  have F43 : Fr a 2 h h43 := fr_tr F29 (fr_in f43 (by omega) (by omega))
  refine xv (x_copy 46 d_X3_copyFrom_43 rfl rfl rfl (Nat.le_of_ble_eq_true rfl) (Nat.le_of_ble_eq_true rfl) (Nat.le_of_ble_eq_true rfl) e43) ?_
  show Xv E q_m_X3_copyFrom 46 [Value.ref a, Value.ref b] [] h43 Q
  refine xv_r (x_return d_X3_copyFrom_46 rfl) ?_
  refine hQ _ _ ⟨rfl, ob_cg w43 fun i i0 i1 i2 => ?_, F43⟩
  by_cases z : 5 ≤ i
  · exact cseg_i z i1
  · rcases (by omega : i = 0 ∨ i = 1 ∨ i = 2 ∨ i = 4) with e | e | e | e <;> subst e <;> rfl
theorem S_X6_putRobot (hW : WH h w l p) (hR : RgC l) {x y : Int} (hc : l 3 < 6) : ∃ r_ h', q_cl E q_m_X6_putRobot [Value.ref w, Value.int (zi x), Value.int (zi y)] h = some (r_, h') ∧ (r_ = .inl (some (.int (zi (l 3)))) ∧ WH h' w (u1 (rset l (l 3) (bgn (rb l (l 3)) x y)) 3 (l 3 + 1)) p ∧ Fr w 38 h h') := by
  suffices K : ∀ Q : q_R → q_H → Prop, (∀ r_ h', (r_ = .inl (some (.int (zi (l 3)))) ∧ WH h' w (u1 (rset l (l 3) (bgn (rb l (l 3)) x y)) 3 (l 3 + 1)) p ∧ Fr w 38 h h') → Q r_ h') → Xv E q_m_X6_putRobot 0 [Value.ref w, Value.int (zi x), Value.int (zi y), Value.null] [] h Q from K _ fun _ _ p => p
  intro Q hQ
  obtain ⟨g0, g1, g2, g3, g4, gc, g5, g6, g7, gk, gl, gr, go⟩ := id hR
  refine xv (x_aload_n 1 d_X6_putRobot_0 rfl rfl) ?_
  refine xv (x_getfield 4 d_X6_putRobot_1 rfl f_6_55 (Nat.le_of_ble_eq_true rfl) (Nat.le_of_ble_eq_true rfl) (q_gf_of (wh_o hW) rfl)) ?_
  refine xv (x_istore_n 5 d_X6_putRobot_4 rfl (Nat.le_of_ble_eq_true rfl)) ?_
  show Xv E q_m_X6_putRobot 5 [Value.ref w, Value.int (zi x), Value.int (zi y), Value.int (zi (l 3))] [] h Q
  refine xv (x_iload_n 6 d_X6_putRobot_5 rfl rfl) ?_
  refine v_if_lt 15 9 d_X6_putRobot_6 rfl rfl (by omega) (by omega) (fun k6 => ?_) (fun k6 => ?_)
  · omega
  · refine xv (x_iload_n 10 d_X6_putRobot_9 rfl rfl) ?_
    refine xv (x_bipush 12 d_X6_putRobot_10 rfl rfl) ?_
    refine v_icmp_lt 17 15 d_X6_putRobot_12 rfl rfl (by omega) (by omega) (by omega) (by omega) (fun k12 => ?_) (fun k12 => ?_)
    · refine xv (x_aload_n 18 d_X6_putRobot_17 rfl rfl) ?_
      refine xv (x_getfield 21 d_X6_putRobot_18 rfl f_6_28 (Nat.le_of_ble_eq_true rfl) (Nat.le_of_ble_eq_true rfl) (q_gf_of (wh_o hW) rfl)) ?_
      refine xv (x_iload_n 22 d_X6_putRobot_21 rfl rfl) ?_
      refine xv (x_aaload 23 d_X6_putRobot_22 rfl (wh_rs hW (by omega) (by omega))) ?_
      refine xv (x_iload_n 24 d_X6_putRobot_23 rfl rfl) ?_
      refine xv (x_iload_n 25 d_X6_putRobot_24 rfl rfl) ?_
      obtain ⟨r25, h25, e25, z25, x25, y25⟩ := S_X5_begin (E := E) (wh_r (r := l 3) hW (by omega) (by omega)) (x := x) (y := y)
      subst z25
      obtain ⟨w25, f25⟩ := wh_rw (r := l 3) hW (by omega) (by omega) x25 y25
      have F25 : Fr w 38 h h25 := fr_tr fr_rf (fr_in f25 (by omega) (by omega))
      refine xv (x_inv0 28 (as := [Value.int (zi x), Value.int (zi y)]) d_X6_putRobot_25 rfl c_6_102 rfl (Nat.le_of_ble_eq_true rfl) (Nat.le_of_ble_eq_true rfl) (wh_r hW (by omega) (by omega)).1 (Nat.le_of_ble_eq_true rfl) (Nat.le_of_ble_eq_true rfl) rfl e25) ?_
      show Xv E q_m_X6_putRobot 28 [Value.ref w, Value.int (zi x), Value.int (zi y), Value.int (zi (l 3))] [] h25 Q
      have q25 : (rset l (l 3) (bgn (rb l (l 3)) x y)) 3 = l 3 := rset_o (by omega)
      refine xv (x_aload_n 29 d_X6_putRobot_28 rfl rfl) ?_
      refine xv (x_dup 30 d_X6_putRobot_29 rfl rfl) ?_
      refine xv (x_getfield 33 d_X6_putRobot_30 rfl f_6_55 (Nat.le_of_ble_eq_true rfl) (Nat.le_of_ble_eq_true rfl) (q_gf_of (wh_o w25) rfl)) ?_
      refine xv (x_iconst 34 d_X6_putRobot_33 rfl) ?_
      refine xv (x_iadd 35 d_X6_putRobot_34 rfl) ?_
      obtain ⟨h35, e35, w35, f35⟩ := wh_pf3 (v := ((rset l (l 3) (bgn (rb l (l 3)) x y)) 3) + 1) w25
      have F35 : Fr w 38 h h35 := fr_tr F25 (fr_in f35 (by omega) (by omega))
      refine xv (x_putfield 38 d_X6_putRobot_35 rfl f_6_55 (Nat.le_of_ble_eq_true rfl) e35 rfl rfl (fun e => absurd e (by decide))) ?_
      show Xv E q_m_X6_putRobot 38 [Value.ref w, Value.int (zi x), Value.int (zi y), Value.int (zi (l 3))] [] h35 Q
      refine xv (x_iload_n 39 d_X6_putRobot_38 rfl rfl) ?_
      refine xv_r (x_ireturn d_X6_putRobot_39 rfl rfl) ?_
      have ew := w35
      rw [show rset l (l 3) (bgn (rb l (l 3)) x y) 3 = l 3 from rset_o (by omega)] at ew
      exact hQ _ _ ⟨rfl, ew, F35⟩
    · omega
theorem S_X6_putOrder (hW : WH h w l p) (hR : RgC l) {d x y z : Int} (hc : l 4 < 10) (y0 : -2147483648 ≤ y) (y1 : y < 2147483648) (z0 : -2147483648 ≤ z) (z1 : z < 2147483648) : ∃ r_ h', q_cl E q_m_X6_putOrder [Value.ref w, Value.int (zi d), Value.int (zi x), Value.int (zi y), Value.int (zi z)] h = some (r_, h') ∧ (r_ = .inl (some (.int (zi (l 4)))) ∧ WH h' w (u1 (oset l (l 4) (obg (ob l (l 4)) d x y z)) 4 (l 4 + 1)) p ∧ Fr w 38 h h') := by
  suffices K : ∀ Q : q_R → q_H → Prop, (∀ r_ h', (r_ = .inl (some (.int (zi (l 4)))) ∧ WH h' w (u1 (oset l (l 4) (obg (ob l (l 4)) d x y z)) 4 (l 4 + 1)) p ∧ Fr w 38 h h') → Q r_ h') → Xv E q_m_X6_putOrder 0 [Value.ref w, Value.int (zi d), Value.int (zi x), Value.int (zi y), Value.int (zi z), Value.null] [] h Q from K _ fun _ _ p => p
  intro Q hQ
  obtain ⟨g0, g1, g2, g3, g4, gc, g5, g6, g7, gk, gl, gr, go⟩ := id hR
  refine xv (x_aload_n 1 d_X6_putOrder_0 rfl rfl) ?_
  refine xv (x_getfield 4 d_X6_putOrder_1 rfl f_6_58 (Nat.le_of_ble_eq_true rfl) (Nat.le_of_ble_eq_true rfl) (q_gf_of (wh_o hW) rfl)) ?_
  refine xv (x_istore 6 d_X6_putOrder_4 rfl (Nat.le_of_ble_eq_true rfl)) ?_
  show Xv E q_m_X6_putOrder 6 [Value.ref w, Value.int (zi d), Value.int (zi x), Value.int (zi y), Value.int (zi z), Value.int (zi (l 4))] [] h Q
  refine xv (x_iload 8 d_X6_putOrder_6 rfl rfl) ?_
  refine v_if_lt 18 11 d_X6_putOrder_8 rfl rfl (by omega) (by omega) (fun k8 => ?_) (fun k8 => ?_)
  · omega
  · refine xv (x_iload 13 d_X6_putOrder_11 rfl rfl) ?_
    refine xv (x_bipush 15 d_X6_putOrder_13 rfl rfl) ?_
    refine v_icmp_lt 20 18 d_X6_putOrder_15 rfl rfl (by omega) (by omega) (by omega) (by omega) (fun k15 => ?_) (fun k15 => ?_)
    · refine xv (x_aload_n 21 d_X6_putOrder_20 rfl rfl) ?_
      refine xv (x_getfield 24 d_X6_putOrder_21 rfl f_6_35 (Nat.le_of_ble_eq_true rfl) (Nat.le_of_ble_eq_true rfl) (q_gf_of (wh_o hW) rfl)) ?_
      refine xv (x_iload 26 d_X6_putOrder_24 rfl rfl) ?_
      refine xv (x_aaload 27 d_X6_putOrder_26 rfl (wh_os hW (by omega) (by omega))) ?_
      refine xv (x_iload_n 28 d_X6_putOrder_27 rfl rfl) ?_
      refine xv (x_iload_n 29 d_X6_putOrder_28 rfl rfl) ?_
      refine xv (x_iload_n 30 d_X6_putOrder_29 rfl rfl) ?_
      refine xv (x_iload 32 d_X6_putOrder_30 rfl rfl) ?_
      obtain ⟨r32, h32, e32, z32, x32, y32⟩ := S_X3_begin (E := E) (wh_ob (o := l 4) hW (by omega) (by omega)) (d := d) (x := x) (y := y) (z := z) (by omega) (by omega) (by omega) (by omega)
      subst z32
      obtain ⟨w32, f32⟩ := wh_ow (o := l 4) hW (by omega) (by omega) x32 y32
      have F32 : Fr w 38 h h32 := fr_tr fr_rf (fr_in f32 (by omega) (by omega))
      refine xv (x_inv0 35 (as := [Value.int (zi d), Value.int (zi x), Value.int (zi y), Value.int (zi z)]) d_X6_putOrder_32 rfl c_6_109 rfl (Nat.le_of_ble_eq_true rfl) (Nat.le_of_ble_eq_true rfl) (wh_ob hW (by omega) (by omega)).1 (Nat.le_of_ble_eq_true rfl) (Nat.le_of_ble_eq_true rfl) rfl e32) ?_
      show Xv E q_m_X6_putOrder 35 [Value.ref w, Value.int (zi d), Value.int (zi x), Value.int (zi y), Value.int (zi z), Value.int (zi (l 4))] [] h32 Q
      refine xv (x_aload_n 36 d_X6_putOrder_35 rfl rfl) ?_
      refine xv (x_dup 37 d_X6_putOrder_36 rfl rfl) ?_
      refine xv (x_getfield 40 d_X6_putOrder_37 rfl f_6_58 (Nat.le_of_ble_eq_true rfl) (Nat.le_of_ble_eq_true rfl) (q_gf_of (wh_o w32) rfl)) ?_
      refine xv (x_iconst 41 d_X6_putOrder_40 rfl) ?_
      refine xv (x_iadd 42 d_X6_putOrder_41 rfl) ?_
      obtain ⟨h42, e42, w42, f42⟩ := wh_pf4 (v := ((oset l (l 4) (obg (ob l (l 4)) d x y z)) 4) + 1) w32
      have F42 : Fr w 38 h h42 := fr_tr F32 (fr_in f42 (by omega) (by omega))
      refine xv (x_putfield 45 d_X6_putOrder_42 rfl f_6_58 (Nat.le_of_ble_eq_true rfl) e42 rfl rfl (fun e => absurd e (by decide))) ?_
      show Xv E q_m_X6_putOrder 45 [Value.ref w, Value.int (zi d), Value.int (zi x), Value.int (zi y), Value.int (zi z), Value.int (zi (l 4))] [] h42 Q
      refine xv (x_iload 47 d_X6_putOrder_45 rfl rfl) ?_
      refine xv_r (x_ireturn d_X6_putOrder_47 rfl rfl) ?_
      have ew := w42
      rw [show oset l (l 4) (obg (ob l (l 4)) d x y z) 4 = l 4 from oset_o (by omega)] at ew
      exact hQ _ _ ⟨rfl, ew, F42⟩
    · omega
theorem cs_u {l : Int → Int} {k v : Int} (h : 104 ≤ k) : cs (u1 l k v) = cs l := by
  unfold cs
  rw [u1_ne (by omega), u1_ne (by omega)]
theorem rgc_rset {l f : Int → Int} {r : Int} (hR : RgC l) (h1 : isR l r) (hf : Rf (cs l) (l 4) f) : RgC (rset l r f) := by
  obtain ⟨g0, g1, g2, g3, g4, gc, g5, g6, g7, gk, gl, gr, go⟩ := hR
  have ec : cs (rset l r f) = cs l := by unfold cs; rw [rset_o (by omega), rset_o (by omega)]
  have e (k : Int) (hk : k < 104) : rset l r f k = l k := rset_o (by omega)
  unfold RgC
  rw [ec, e 0 (by omega), e 1 (by omega), e 2 (by omega), e 3 (by omega), e 4 (by omega), e 5 (by omega), e 6 (by omega), e 7 (by omega)]
  refine ⟨g0, g1, g2, g3, g4, gc, g5, g6, g7, fun k a b => by rw [e _ (by omega)]; exact gk k a b, fun k a b => by rw [e _ (by omega)]; exact gl k a b, fun r' a b => ?_, fun o a b => ?_⟩
  · by_cases q : r' = r
    · subst q
      unfold Rf
      rw [rset_eq (by omega) (by omega), rset_eq (by omega) (by omega), rset_eq (by omega) (by omega), rset_eq (by omega) (by omega), rset_eq (by omega) (by omega), rset_eq (by omega) (by omega)]
      obtain ⟨q0, q1, q2, q3, q4, q5, q6⟩ := hf
      exact ⟨q0, q1, q2, q3, q4, q5, fun t a b => by rw [rset_eq (by omega) (by omega)]; exact q6 t a b⟩
    · unfold Rf
      rw [rset_ne (by omega) (by omega) q, rset_ne (by omega) (by omega) q, rset_ne (by omega) (by omega) q, rset_ne (by omega) (by omega) q, rset_ne (by omega) (by omega) q, rset_ne (by omega) (by omega) q]
      obtain ⟨q0, q1, q2, q3, q4, q5, q6⟩ := gr r' a b
      exact ⟨q0, q1, q2, q3, q4, q5, fun t a b => by rw [rset_ne (by omega) (by omega) q]; exact q6 t a b⟩
  · have eo (k : Int) (hk : 0 ≤ k) : ob (rset l r f) o k = ob l o k := rset_o (k := 320 + 8 * o + k) (by omega)
    unfold Of
    rw [eo 0 (by omega), eo 1 (by omega), eo 2 (by omega), eo 4 (by omega)]
    obtain ⟨q0, q1, q2, q4, q5, q6⟩ := go o a b
    exact ⟨q0, q1, q2, q4, fun t a b => by rw [eo _ (by omega)]; exact q5 t a b, fun t a b => by rw [eo _ (by omega)]; exact q6 t a b⟩
theorem rgc_oset {l f : Int → Int} {o : Int} (hR : RgC l) (h1 : isO l o) (hf : Of (cs l) f) : RgC (oset l o f) := by
  obtain ⟨g0, g1, g2, g3, g4, gc, g5, g6, g7, gk, gl, gr, go⟩ := hR
  have ec : cs (oset l o f) = cs l := by unfold cs; rw [oset_o (by omega), oset_o (by omega)]
  have e (k : Int) (hk : k < 320) : oset l o f k = l k := oset_o (by omega)
  unfold RgC
  rw [ec, e 0 (by omega), e 1 (by omega), e 2 (by omega), e 3 (by omega), e 4 (by omega), e 5 (by omega), e 6 (by omega), e 7 (by omega)]
  refine ⟨g0, g1, g2, g3, g4, gc, g5, g6, g7, fun k a b => by rw [e _ (by omega)]; exact gk k a b, fun k a b => by rw [e _ (by omega)]; exact gl k a b, fun r' a b => ?_, fun o' a b => ?_⟩
  · have er (k : Int) (hk : k < 36) : rb (oset l o f) r' k = rb l r' k := e _ (by omega)
    unfold Rf
    rw [er 0 (by omega), er 1 (by omega), er 2 (by omega), er 3 (by omega), er 4 (by omega), er 5 (by omega)]
    obtain ⟨q0, q1, q2, q3, q4, q5, q6⟩ := gr r' a b
    exact ⟨q0, q1, q2, q3, q4, q5, fun t a b => by rw [er _ (by omega)]; exact q6 t a b⟩
  · by_cases q : o' = o
    · subst q
      unfold Of
      rw [oset_eq (by omega) (by omega), oset_eq (by omega) (by omega), oset_eq (by omega) (by omega), oset_eq (by omega) (by omega)]
      obtain ⟨q0, q1, q2, q4, q5, q6⟩ := hf
      exact ⟨q0, q1, q2, q4, fun t a b => by rw [oset_eq (by omega) (by omega)]; exact q5 t a b, fun t a b => by rw [oset_eq (by omega) (by omega)]; exact q6 t a b⟩
    · unfold Of
      rw [oset_ne (by omega) (by omega) q, oset_ne (by omega) (by omega) q, oset_ne (by omega) (by omega) q, oset_ne (by omega) (by omega) q]
      obtain ⟨q0, q1, q2, q4, q5, q6⟩ := go o' a b
      exact ⟨q0, q1, q2, q4, fun t a b => by rw [oset_ne (by omega) (by omega) q]; exact q5 t a b, fun t a b => by rw [oset_ne (by omega) (by omega) q]; exact q6 t a b⟩
theorem rgc_rf {l : Int → Int} {r v : Int} (hR : RgC l) (h1 : isR l r) (v0 : -1 ≤ v) (v1 : v < l 4) : RgC (u1 l (104 + 36 * r + 2) v) := by
  obtain ⟨g0, g1, g2, g3, g4, gc, g5, g6, g7, gk, gl, gr, go⟩ := id hR
  rw [← rset_u (by omega) (by omega)]
  obtain ⟨q0, q1, q2, q3, q4, q5, q6⟩ := gr r h1.1 h1.2
  refine rgc_rset hR h1 ⟨?_, ?_, ?_, ?_, ?_, ?_, fun t a b => ?_⟩
  · exact q0
  · exact q1
  · exact ⟨v0, v1⟩
  · exact q3
  · exact q4
  · exact q5
  · have b2 : t < rb l r 3 := b
    rw [u1_ne (by omega)]
    exact q6 t a b2
theorem S_X6_freeRobot (hW : WH h w l p) (hR : RgC l) {c : Int} (h1 : isR l c) : ∃ r_ h', q_cl E q_m_X6_freeRobot [Value.ref w, Value.int (zi c)] h = some (r_, h') ∧ (r_ = .inl (some (.int (zi (rb l c 2)))) ∧ WH h' w (if isO l (rb l c 2) then u1 (u1 l (104 + 36 * c + 2) (-1)) (320 + 8 * (rb l c 2) + 2) 0 else u1 l (104 + 36 * c + 2) (-1)) p ∧ Fr w 38 h h') := by
  suffices K : ∀ Q : q_R → q_H → Prop, (∀ r_ h', (r_ = .inl (some (.int (zi (rb l c 2)))) ∧ WH h' w (if isO l (rb l c 2) then u1 (u1 l (104 + 36 * c + 2) (-1)) (320 + 8 * (rb l c 2) + 2) 0 else u1 l (104 + 36 * c + 2) (-1)) p ∧ Fr w 38 h h') → Q r_ h') → Xv E q_m_X6_freeRobot 0 [Value.ref w, Value.int (zi c), Value.null] [] h Q from K _ fun _ _ p => p
  intro Q hQ
  obtain ⟨g0, g1, g2, g3, g4, gc, g5, g6, g7, gk, gl, gr, go⟩ := id hR
  have gq := gr c h1.1 h1.2
  refine xv (x_aload_n 1 d_X6_freeRobot_0 rfl rfl) ?_
  refine xv (x_getfield 4 d_X6_freeRobot_1 rfl f_6_28 (Nat.le_of_ble_eq_true rfl) (Nat.le_of_ble_eq_true rfl) (q_gf_of (wh_o hW) rfl)) ?_
  refine xv (x_iload_n 5 d_X6_freeRobot_4 rfl rfl) ?_
  refine xv (x_aaload 6 d_X6_freeRobot_5 rfl (wh_rs hW (by omega) (by omega))) ?_
  refine xv (x_getfield 9 d_X6_freeRobot_6 rfl f_6_112 (Nat.le_of_ble_eq_true rfl) (Nat.le_of_ble_eq_true rfl) (q_gf_of (wh_r hW (by omega) (by omega)).1 rfl)) ?_
  refine xv (x_istore_n 10 d_X6_freeRobot_9 rfl (Nat.le_of_ble_eq_true rfl)) ?_
  show Xv E q_m_X6_freeRobot 10 [Value.ref w, Value.int (zi c), Value.int (zi (rb l c 2))] [] h Q
  refine xv (x_aload_n 11 d_X6_freeRobot_10 rfl rfl) ?_
  refine xv (x_getfield 14 d_X6_freeRobot_11 rfl f_6_28 (Nat.le_of_ble_eq_true rfl) (Nat.le_of_ble_eq_true rfl) (q_gf_of (wh_o hW) rfl)) ?_
  refine xv (x_iload_n 15 d_X6_freeRobot_14 rfl rfl) ?_
  refine xv (x_aaload 16 d_X6_freeRobot_15 rfl (wh_rs hW (by omega) (by omega))) ?_
  refine xv (x_iconst 17 d_X6_freeRobot_16 rfl) ?_
  obtain ⟨h17, e17, w17, f17⟩ := wh_rf2 (r := c) (v := (-1)) hW (by omega) (by omega)
  have F17 : Fr w 38 h h17 := fr_tr fr_rf (fr_in f17 (by omega) (by omega))
  refine xv (x_putfield 20 d_X6_freeRobot_17 rfl f_6_112 (Nat.le_of_ble_eq_true rfl) e17 rfl rfl (fun e => absurd e (by decide))) ?_
  show Xv E q_m_X6_freeRobot 20 [Value.ref w, Value.int (zi c), Value.int (zi (rb l c 2))] [] h17 Q
  have hR2 : RgC (u1 l (104 + 36 * c + 2) (-1)) := rgc_rf hR h1 (by omega) (by omega)
  refine xv (x_aload_n 21 d_X6_freeRobot_20 rfl rfl) ?_
  refine xv (x_iload_n 22 d_X6_freeRobot_21 rfl rfl) ?_
  refine xv (x_inv1 25 (as := [Value.int (zi (rb l c 2))]) d_X6_freeRobot_22 rfl c_6_115 rfl (Nat.le_of_ble_eq_true rfl) (Nat.le_of_ble_eq_true rfl) (wh_o w17) (Nat.le_of_ble_eq_true rfl) (Nat.le_of_ble_eq_true rfl) rfl (S_X6_isOrder w17 hR2 (by omega) (by omega))) ?_
  show Xv E q_m_X6_freeRobot 25 [Value.ref w, Value.int (zi c), Value.int (zi (rb l c 2))] [Value.int (zi (bI (isO (u1 l (104 + 36 * c + 2) (-1)) (rb l c 2))))] h17 Q
  refine v_if_eq 38 28 d_X6_freeRobot_25 rfl rfl (by have := bI_r (isO (u1 l (104 + 36 * c + 2) (-1)) (rb l c 2)); omega) (by have := bI_r (isO (u1 l (104 + 36 * c + 2) (-1)) (rb l c 2)); omega) (fun k25 => ?_) (fun k25 => ?_)
  · replace k25 := bI_0.mp k25
    refine xv (x_iload_n 39 d_X6_freeRobot_38 rfl rfl) ?_
    refine xv_r (x_ireturn d_X6_freeRobot_39 rfl rfl) ?_
    have e4 : u1 l (104 + 36 * c + 2) (-1) 4 = l 4 := u1_ne (by omega)
    refine hQ _ _ ⟨rfl, ?_, F17⟩
    first | (rw [if_pos (by omega)]; exact w17) | (rw [if_neg (by omega)]; exact w17)
  · replace k25 := bI_n0.mp k25
    refine xv (x_aload_n 29 d_X6_freeRobot_28 rfl rfl) ?_
    refine xv (x_getfield 32 d_X6_freeRobot_29 rfl f_6_35 (Nat.le_of_ble_eq_true rfl) (Nat.le_of_ble_eq_true rfl) (q_gf_of (wh_o w17) rfl)) ?_
    refine xv (x_iload_n 33 d_X6_freeRobot_32 rfl rfl) ?_
    refine xv (x_aaload 34 d_X6_freeRobot_33 rfl (wh_os w17 (by omega) (by omega))) ?_
    refine xv (x_iconst 35 d_X6_freeRobot_34 rfl) ?_
    obtain ⟨h35, e35, w35, f35⟩ := wh_of2 (o := rb l c 2) (v := 0) w17 (by omega) (by omega)
    have F35 : Fr w 38 h h35 := fr_tr F17 (fr_in f35 (by omega) (by omega))
    refine xv (x_putfield 38 d_X6_freeRobot_35 rfl f_6_118 (Nat.le_of_ble_eq_true rfl) e35 rfl rfl (fun e => absurd e (by decide))) ?_
    show Xv E q_m_X6_freeRobot 38 [Value.ref w, Value.int (zi c), Value.int (zi (rb l c 2))] [] h35 Q
    refine xv (x_iload_n 39 d_X6_freeRobot_38 rfl rfl) ?_
    refine xv_r (x_ireturn d_X6_freeRobot_39 rfl rfl) ?_
    have e4 : u1 l (104 + 36 * c + 2) (-1) 4 = l 4 := u1_ne (by omega)
    refine hQ _ _ ⟨rfl, ?_, F35⟩
    first | (rw [if_pos (by omega)]; exact w35) | (rw [if_neg (by omega)]; exact w35)
end CX
