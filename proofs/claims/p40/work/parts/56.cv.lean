/-! the class itself: its readers, second (printed by program) -/
section CV8
variable {E : q_E} {h h' : q_H} {x w v a b t N k d : Nat} {l lo ls f g c q PP : Int → Int} {p p2 pk : Int → Nat} {hs fa kr kd_ nx ct n ro go_ gt : Int} {kl : Int → Int → Int}
theorem ai_cp {t m : Nat} (e : h'.1 a = h.1 a) (H : AI h a t m f) : AI h' a t m f := by
  obtain ⟨g, e1, e2⟩ := H
  exact ⟨g, e.trans e1, e2⟩
theorem S_X7_distanceAgain (hC : CA h x l ls nx ct kl n c hs fa kr kd_) (hR : RgC l) (hn : 0 ≤ nx ∧ nx < 8) (hc : 0 ≤ ct ∧ ct ≤ 8) {y z : Int} (y0 : -2147483648 ≤ y) (y1 : y < 2147483648) (z0 : -2147483648 ≤ z) (z1 : z < 2147483648) : ∃ r_ h', q_cl E q_m_X7_distanceAgain [Value.ref x, Value.int (zi y), Value.int (zi z)] h = some (r_, h') ∧ (RDx h x l ls nx ct kl n c hs fa kr kd_ (dst0 l y z) r_ h') := by
  suffices K : ∀ Q : q_R → q_H → Prop, (∀ r_ h', (RDx h x l ls nx ct kl n c hs fa kr kd_ (dst0 l y z) r_ h') → Q r_ h') → Xv E q_m_X7_distanceAgain 0 [Value.ref x, Value.int (zi y), Value.int (zi z), Value.null] [] h Q from K _ fun _ _ p => p
  intro Q hQ
  obtain ⟨g0, g1, g2, g3, g4, gc, g5, g6, g7, gk, gl, gr, go⟩ := id hR
  obtain ⟨hX, ⟨p, hW⟩, hSN, hHI, hTX, ⟨q, f, tr, tc, to, T, NE, WI, ⟨hD, hq, hS⟩, ⟨hTB, hN, hI⟩, hv⟩, hPL⟩ := id hC
  refine xv (x_aload_n 1 d_X7_distanceAgain_0 rfl rfl) ?_
  refine xv (x_getfield 4 d_X7_distanceAgain_1 rfl f_7_12 (Nat.le_of_ble_eq_true rfl) (Nat.le_of_ble_eq_true rfl) (q_gf_of hX rfl)) ?_
  refine xv (x_iload_n 5 d_X7_distanceAgain_4 rfl rfl) ?_
  refine xv (x_inv1 8 (as := [Value.int (zi y)]) d_X7_distanceAgain_5 rfl c_7_105 rfl (Nat.le_of_ble_eq_true rfl) (Nat.le_of_ble_eq_true rfl) (wh_o hW) (Nat.le_of_ble_eq_true rfl) (Nat.le_of_ble_eq_true rfl) rfl (S_X6_isCell hW hR (by omega) (by omega))) ?_
  show Xv E q_m_X7_distanceAgain 8 [Value.ref x, Value.int (zi y), Value.int (zi z), Value.null] [Value.int (zi (bI (isC l y)))] h Q
  refine v_if_eq 22 11 d_X7_distanceAgain_8 rfl rfl (by have := bI_r (isC l y); omega) (by have := bI_r (isC l y); omega) (fun k8 => ?_) (fun k8 => ?_)
  · replace k8 := bI_0.mp k8
    refine xv_r (x_throw d_X7_distanceAgain_22 rfl rfl (Nat.le_of_ble_eq_true rfl) (Nat.le_of_ble_eq_true rfl) rfl rfl (Nat.le_of_ble_eq_true rfl)) ?_
    have er : dst0 l y z = .inl xIO := by unfold dst0; repeat (first | rw [if_pos (by omega)] | rw [if_neg (by omega)])
    refine hQ _ _ ⟨_, ⟨hX, ⟨_, hW⟩, hSN, hHI, hTX, ⟨_, _, _, _, _, _, _, _, ⟨hD, hq, hS⟩, ⟨hTB, hN, hI⟩, hv⟩, hPL⟩, fr_rf, ?_⟩
    rw [er]
    exact ⟨rfl, rfl⟩
  · replace k8 := bI_n0.mp k8
    refine xv (x_aload_n 12 d_X7_distanceAgain_11 rfl rfl) ?_
    refine xv (x_getfield 15 d_X7_distanceAgain_12 rfl f_7_12 (Nat.le_of_ble_eq_true rfl) (Nat.le_of_ble_eq_true rfl) (q_gf_of hX rfl)) ?_
    refine xv (x_iload_n 16 d_X7_distanceAgain_15 rfl rfl) ?_
    refine xv (x_inv1 19 (as := [Value.int (zi z)]) d_X7_distanceAgain_16 rfl c_7_105 rfl (Nat.le_of_ble_eq_true rfl) (Nat.le_of_ble_eq_true rfl) (wh_o hW) (Nat.le_of_ble_eq_true rfl) (Nat.le_of_ble_eq_true rfl) rfl (S_X6_isCell hW hR (by omega) (by omega))) ?_
    show Xv E q_m_X7_distanceAgain 19 [Value.ref x, Value.int (zi y), Value.int (zi z), Value.null] [Value.int (zi (bI (isC l z)))] h Q
    refine v_if_ne 30 22 d_X7_distanceAgain_19 rfl rfl (by have := bI_r (isC l z); omega) (by have := bI_r (isC l z); omega) (fun k19 => ?_) (fun k19 => ?_)
    · replace k19 := bI_n0.mp k19
      refine xv (x_aload_n 31 d_X7_distanceAgain_30 rfl rfl) ?_
      refine xv (x_getfield 34 d_X7_distanceAgain_31 rfl f_7_38 (Nat.le_of_ble_eq_true rfl) (Nat.le_of_ble_eq_true rfl) (q_gf_of hX rfl)) ?_
      refine xv (x_iload_n 35 d_X7_distanceAgain_34 rfl rfl) ?_
      refine xv (x_iload_n 36 d_X7_distanceAgain_35 rfl rfl) ?_
      obtain ⟨r36, h36, e36, z36, A36, B36, C36, T36, N36, I36, ⟨w36, d36, t36, m36, i36⟩, v36, f36⟩ := S_X0_betweenByTable (E := E) (x := y) (y := z) (by omega) (by omega) hW hR hD hTB hN hI (by omega) hv
      subst z36
      have Q_36 := ai_cp f36.2.1 hq
      have ST_36 := ai_cp f36.2.2 hS
      have X_36 := (f36.1.2 _ (by omega)).trans hX
      have SN_36 := sn_fr hSN f36.1 (by omega)
      have HI_36 := hi_fr hHI f36.1 (by omega)
      have TX_36 := tx_fr hTX f36.1 (by omega)
      have PLX_36 := plx_fr hPL f36.1 (by omega)
      have F36 : Fr x 444 h h36 := fr_tr fr_rf (fr_in f36.1 (by omega) (by omega))
      refine xv (x_inv1 39 (as := [Value.int (zi y), Value.int (zi z)]) d_X7_distanceAgain_36 rfl c_7_270 rfl (Nat.le_of_ble_eq_true rfl) (Nat.le_of_ble_eq_true rfl) hD (Nat.le_of_ble_eq_true rfl) (Nat.le_of_ble_eq_true rfl) rfl e36) ?_
      have q36 : -1 ≤ dst l y z ∧ dst l y z < (48 : Nat) := dsB_r
      show Xv E q_m_X7_distanceAgain 39 [Value.ref x, Value.int (zi y), Value.int (zi z), Value.null] [Value.int (zi (dst l y z))] h36 Q
      refine xv (x_istore_n 40 d_X7_distanceAgain_39 rfl (Nat.le_of_ble_eq_true rfl)) ?_
      show Xv E q_m_X7_distanceAgain 40 [Value.ref x, Value.int (zi y), Value.int (zi z), Value.int (zi (dst l y z))] [] h36 Q
      refine xv (x_iload_n 41 d_X7_distanceAgain_40 rfl rfl) ?_
      refine xv (x_iconst 42 d_X7_distanceAgain_41 rfl) ?_
      refine v_icmp_ne 53 45 d_X7_distanceAgain_42 rfl rfl (by omega) (by omega) (by omega) (by omega) (fun k42 => ?_) (fun k42 => ?_)
      · refine xv (x_iload_n 54 d_X7_distanceAgain_53 rfl rfl) ?_
        refine xv_r (x_ireturn d_X7_distanceAgain_54 rfl rfl) ?_
        have er : dst0 l y z = .inr (dst l y z) := by unfold dst0; repeat (first | rw [if_pos (by omega)] | rw [if_neg (by omega)])
        refine hQ _ _ ⟨_, ⟨X_36, ⟨_, w36⟩, SN_36, HI_36, TX_36, ⟨_, _, _, _, _, _, _, _, ⟨d36, Q_36, ST_36⟩, ⟨t36, m36, i36⟩, v36⟩, PLX_36⟩, F36, ?_⟩
        rw [er]
        exact ⟨rfl, rfl⟩
      · refine xv_r (x_throw d_X7_distanceAgain_45 rfl rfl (Nat.le_of_ble_eq_true rfl) (Nat.le_of_ble_eq_true rfl) rfl rfl (Nat.le_of_ble_eq_true rfl)) ?_
        have er : dst0 l y z = .inl xNS := by unfold dst0; repeat (first | rw [if_pos (by omega)] | rw [if_neg (by omega)])
        refine hQ _ _ ⟨_, ⟨X_36, ⟨_, w36⟩, SN_36, HI_36, TX_36, ⟨_, _, _, _, _, _, _, _, ⟨d36, Q_36, ST_36⟩, ⟨t36, m36, i36⟩, v36⟩, PLX_36⟩, F36, ?_⟩
        rw [er]
        exact ⟨rfl, rfl⟩
    · replace k19 := bI_0.mp k19
      refine xv_r (x_throw d_X7_distanceAgain_22 rfl rfl (Nat.le_of_ble_eq_true rfl) (Nat.le_of_ble_eq_true rfl) rfl rfl (Nat.le_of_ble_eq_true rfl)) ?_
      have er : dst0 l y z = .inl xIO := by unfold dst0; repeat (first | rw [if_pos (by omega)] | rw [if_neg (by omega)])
      refine hQ _ _ ⟨_, ⟨hX, ⟨_, hW⟩, hSN, hHI, hTX, ⟨_, _, _, _, _, _, _, _, ⟨hD, hq, hS⟩, ⟨hTB, hN, hI⟩, hv⟩, hPL⟩, fr_rf, ?_⟩
      rw [er]
      exact ⟨rfl, rfl⟩
theorem S_X7_reach (hC : CA h x l ls nx ct kl n c hs fa kr kd_) (hR : RgC l) (hn : 0 ≤ nx ∧ nx < 8) (hc : 0 ≤ ct ∧ ct ≤ 8) {y : Int} (y0 : -2147483648 ≤ y) (y1 : y < 2147483648) : ∃ r_ h', q_cl E q_m_X7_reach [Value.ref x, Value.int (zi y)] h = some (r_, h') ∧ (RDx h x l ls nx ct kl n c hs fa kr kd_ (rch0 l y) r_ h') := by
  suffices K : ∀ Q : q_R → q_H → Prop, (∀ r_ h', (RDx h x l ls nx ct kl n c hs fa kr kd_ (rch0 l y) r_ h') → Q r_ h') → Xv E q_m_X7_reach 0 [Value.ref x, Value.int (zi y)] [] h Q from K _ fun _ _ p => p
  intro Q hQ
  obtain ⟨g0, g1, g2, g3, g4, gc, g5, g6, g7, gk, gl, gr, go⟩ := id hR
  obtain ⟨hX, ⟨p, hW⟩, hSN, hHI, hTX, ⟨q, f, tr, tc, to, T, NE, WI, ⟨hD, hq, hS⟩, ⟨hTB, hN, hI⟩, hv⟩, hPL⟩ := id hC
  refine xv (x_aload_n 1 d_X7_reach_0 rfl rfl) ?_
  refine xv (x_getfield 4 d_X7_reach_1 rfl f_7_12 (Nat.le_of_ble_eq_true rfl) (Nat.le_of_ble_eq_true rfl) (q_gf_of hX rfl)) ?_
  refine xv (x_iload_n 5 d_X7_reach_4 rfl rfl) ?_
  refine xv (x_inv1 8 (as := [Value.int (zi y)]) d_X7_reach_5 rfl c_7_105 rfl (Nat.le_of_ble_eq_true rfl) (Nat.le_of_ble_eq_true rfl) (wh_o hW) (Nat.le_of_ble_eq_true rfl) (Nat.le_of_ble_eq_true rfl) rfl (S_X6_isCell hW hR (by omega) (by omega))) ?_
  show Xv E q_m_X7_reach 8 [Value.ref x, Value.int (zi y)] [Value.int (zi (bI (isC l y)))] h Q
  refine v_if_ne 19 11 d_X7_reach_8 rfl rfl (by have := bI_r (isC l y); omega) (by have := bI_r (isC l y); omega) (fun k8 => ?_) (fun k8 => ?_)
  · replace k8 := bI_n0.mp k8
    refine xv (x_aload_n 20 d_X7_reach_19 rfl rfl) ?_
    refine xv (x_getfield 23 d_X7_reach_20 rfl f_7_38 (Nat.le_of_ble_eq_true rfl) (Nat.le_of_ble_eq_true rfl) (q_gf_of hX rfl)) ?_
    refine xv (x_iload_n 24 d_X7_reach_23 rfl rfl) ?_
    obtain ⟨r24, h24, e24, z24, q24, s24, ⟨w24, d24, m24, t24⟩, f24⟩ := S_X0_countFrom (E := E) (a := y) (by omega) hW hR hD hq hS (by omega)
    subst z24
    have X_24 := (f24.2 _ (by omega)).trans hX
    have SN_24 := sn_fr hSN f24 (by omega)
    have HI_24 := hi_fr hHI f24 (by omega)
    have TX_24 := tx_fr hTX f24 (by omega)
    have PLX_24 := plx_fr hPL f24 (by omega)
    have NE_24 := al_fr hN f24 (by omega)
    have WI_24 := al_fr hI f24 (by omega)
    have TA_24 := tb_fr hTB f24 (by omega)
    have F24 : Fr x 444 h h24 := fr_tr fr_rf (fr_in f24 (by omega) (by omega))
    refine xv (x_inv1 27 (as := [Value.int (zi y)]) d_X7_reach_24 rfl c_7_273 rfl (Nat.le_of_ble_eq_true rfl) (Nat.le_of_ble_eq_true rfl) hD (Nat.le_of_ble_eq_true rfl) (Nat.le_of_ble_eq_true rfl) rfl e24) ?_
    show Xv E q_m_X7_reach 27 [Value.ref x, Value.int (zi y)] [Value.int (zi (rch l y))] h24 Q
    refine xv_r (x_ireturn d_X7_reach_27 rfl rfl) ?_
    have er : rch0 l y = .inr (rch l y) := by unfold rch0; repeat (first | rw [if_pos (by omega)] | rw [if_neg (by omega)])
    refine hQ _ _ ⟨_, ⟨X_24, ⟨_, w24⟩, SN_24, HI_24, TX_24, ⟨_, _, _, _, _, _, _, _, ⟨d24, m24, t24⟩, ⟨TA_24, NE_24, WI_24⟩, hv⟩, PLX_24⟩, F24, ?_⟩
    rw [er]
    exact ⟨rfl, rfl⟩
  · replace k8 := bI_0.mp k8
    refine xv_r (x_throw d_X7_reach_11 rfl rfl (Nat.le_of_ble_eq_true rfl) (Nat.le_of_ble_eq_true rfl) rfl rfl (Nat.le_of_ble_eq_true rfl)) ?_
    have er : rch0 l y = .inl xIO := by unfold rch0; repeat (first | rw [if_pos (by omega)] | rw [if_neg (by omega)])
    refine hQ _ _ ⟨_, ⟨hX, ⟨_, hW⟩, hSN, hHI, hTX, ⟨_, _, _, _, _, _, _, _, ⟨hD, hq, hS⟩, ⟨hTB, hN, hI⟩, hv⟩, hPL⟩, fr_rf, ?_⟩
    rw [er]
    exact ⟨rfl, rfl⟩
theorem S_X7_farthest (hC : CA h x l ls nx ct kl n c hs fa kr kd_) (hR : RgC l) (hn : 0 ≤ nx ∧ nx < 8) (hc : 0 ≤ ct ∧ ct ≤ 8) {y : Int} (y0 : -2147483648 ≤ y) (y1 : y < 2147483648) : ∃ r_ h', q_cl E q_m_X7_farthest [Value.ref x, Value.int (zi y)] h = some (r_, h') ∧ (RDx h x l ls nx ct kl n c hs fa kr kd_ (frt0 l y) r_ h') := by
  suffices K : ∀ Q : q_R → q_H → Prop, (∀ r_ h', (RDx h x l ls nx ct kl n c hs fa kr kd_ (frt0 l y) r_ h') → Q r_ h') → Xv E q_m_X7_farthest 0 [Value.ref x, Value.int (zi y)] [] h Q from K _ fun _ _ p => p
  intro Q hQ
  obtain ⟨g0, g1, g2, g3, g4, gc, g5, g6, g7, gk, gl, gr, go⟩ := id hR
  obtain ⟨hX, ⟨p, hW⟩, hSN, hHI, hTX, ⟨q, f, tr, tc, to, T, NE, WI, ⟨hD, hq, hS⟩, ⟨hTB, hN, hI⟩, hv⟩, hPL⟩ := id hC
  refine xv (x_aload_n 1 d_X7_farthest_0 rfl rfl) ?_
  refine xv (x_getfield 4 d_X7_farthest_1 rfl f_7_12 (Nat.le_of_ble_eq_true rfl) (Nat.le_of_ble_eq_true rfl) (q_gf_of hX rfl)) ?_
  refine xv (x_iload_n 5 d_X7_farthest_4 rfl rfl) ?_
  refine xv (x_inv1 8 (as := [Value.int (zi y)]) d_X7_farthest_5 rfl c_7_105 rfl (Nat.le_of_ble_eq_true rfl) (Nat.le_of_ble_eq_true rfl) (wh_o hW) (Nat.le_of_ble_eq_true rfl) (Nat.le_of_ble_eq_true rfl) rfl (S_X6_isCell hW hR (by omega) (by omega))) ?_
  show Xv E q_m_X7_farthest 8 [Value.ref x, Value.int (zi y)] [Value.int (zi (bI (isC l y)))] h Q
  refine v_if_ne 19 11 d_X7_farthest_8 rfl rfl (by have := bI_r (isC l y); omega) (by have := bI_r (isC l y); omega) (fun k8 => ?_) (fun k8 => ?_)
  · replace k8 := bI_n0.mp k8
    refine xv (x_aload_n 20 d_X7_farthest_19 rfl rfl) ?_
    refine xv (x_getfield 23 d_X7_farthest_20 rfl f_7_38 (Nat.le_of_ble_eq_true rfl) (Nat.le_of_ble_eq_true rfl) (q_gf_of hX rfl)) ?_
    refine xv (x_iload_n 24 d_X7_farthest_23 rfl rfl) ?_
    obtain ⟨r24, h24, e24, z24, q24, s24, ⟨w24, d24, m24, t24⟩, f24⟩ := S_X0_farthestFrom (E := E) (a := y) (by omega) hW hR hD hq hS (by omega)
    subst z24
    have X_24 := (f24.2 _ (by omega)).trans hX
    have SN_24 := sn_fr hSN f24 (by omega)
    have HI_24 := hi_fr hHI f24 (by omega)
    have TX_24 := tx_fr hTX f24 (by omega)
    have PLX_24 := plx_fr hPL f24 (by omega)
    have NE_24 := al_fr hN f24 (by omega)
    have WI_24 := al_fr hI f24 (by omega)
    have TA_24 := tb_fr hTB f24 (by omega)
    have F24 : Fr x 444 h h24 := fr_tr fr_rf (fr_in f24 (by omega) (by omega))
    refine xv (x_inv1 27 (as := [Value.int (zi y)]) d_X7_farthest_24 rfl c_7_276 rfl (Nat.le_of_ble_eq_true rfl) (Nat.le_of_ble_eq_true rfl) hD (Nat.le_of_ble_eq_true rfl) (Nat.le_of_ble_eq_true rfl) rfl e24) ?_
    show Xv E q_m_X7_farthest 27 [Value.ref x, Value.int (zi y)] [Value.int (zi (frt l y))] h24 Q
    refine xv_r (x_ireturn d_X7_farthest_27 rfl rfl) ?_
    have er : frt0 l y = .inr (frt l y) := by unfold frt0; repeat (first | rw [if_pos (by omega)] | rw [if_neg (by omega)])
    refine hQ _ _ ⟨_, ⟨X_24, ⟨_, w24⟩, SN_24, HI_24, TX_24, ⟨_, _, _, _, _, _, _, _, ⟨d24, m24, t24⟩, ⟨TA_24, NE_24, WI_24⟩, hv⟩, PLX_24⟩, F24, ?_⟩
    rw [er]
    exact ⟨rfl, rfl⟩
  · replace k8 := bI_0.mp k8
    refine xv_r (x_throw d_X7_farthest_11 rfl rfl (Nat.le_of_ble_eq_true rfl) (Nat.le_of_ble_eq_true rfl) rfl rfl (Nat.le_of_ble_eq_true rfl)) ?_
    have er : frt0 l y = .inl xIO := by unfold frt0; repeat (first | rw [if_pos (by omega)] | rw [if_neg (by omega)])
    refine hQ _ _ ⟨_, ⟨hX, ⟨_, hW⟩, hSN, hHI, hTX, ⟨_, _, _, _, _, _, _, _, ⟨hD, hq, hS⟩, ⟨hTB, hN, hI⟩, hv⟩, hPL⟩, fr_rf, ?_⟩
    rw [er]
    exact ⟨rfl, rfl⟩
theorem S_X7_suited (hC : CA h x l ls nx ct kl n c hs fa kr kd_) (hR : RgC l) (hn : 0 ≤ nx ∧ nx < 8) (hc : 0 ≤ ct ∧ ct ≤ 8) {y : Int} (y0 : -2147483648 ≤ y) (y1 : y < 2147483648) : ∃ r_ h', q_cl E q_m_X7_suited [Value.ref x, Value.int (zi y)] h = some (r_, h') ∧ (RDx h x l ls nx ct kl n c hs fa kr kd_ (suiO l y) r_ h') := by
  suffices K : ∀ Q : q_R → q_H → Prop, (∀ r_ h', (RDx h x l ls nx ct kl n c hs fa kr kd_ (suiO l y) r_ h') → Q r_ h') → Xv E q_m_X7_suited 0 [Value.ref x, Value.int (zi y), Value.null] [] h Q from K _ fun _ _ p => p
  intro Q hQ
  obtain ⟨g0, g1, g2, g3, g4, gc, g5, g6, g7, gk, gl, gr, go⟩ := id hR
  obtain ⟨hX, ⟨p, hW⟩, hSN, hHI, hTX, ⟨q, f, tr, tc, to, T, NE, WI, ⟨hD, hq, hS⟩, ⟨hTB, hN, hI⟩, hv⟩, hPL⟩ := id hC
  refine xv (x_aload_n 1 d_X7_suited_0 rfl rfl) ?_
  refine xv (x_getfield 4 d_X7_suited_1 rfl f_7_12 (Nat.le_of_ble_eq_true rfl) (Nat.le_of_ble_eq_true rfl) (q_gf_of hX rfl)) ?_
  refine xv (x_iload_n 5 d_X7_suited_4 rfl rfl) ?_
  refine xv (x_inv1 8 (as := [Value.int (zi y)]) d_X7_suited_5 rfl c_7_173 rfl (Nat.le_of_ble_eq_true rfl) (Nat.le_of_ble_eq_true rfl) (wh_o hW) (Nat.le_of_ble_eq_true rfl) (Nat.le_of_ble_eq_true rfl) rfl (S_X6_isOrder hW hR (by omega) (by omega))) ?_
  show Xv E q_m_X7_suited 8 [Value.ref x, Value.int (zi y), Value.null] [Value.int (zi (bI (isO l y)))] h Q
  refine v_if_ne 19 11 d_X7_suited_8 rfl rfl (by have := bI_r (isO l y); omega) (by have := bI_r (isO l y); omega) (fun k8 => ?_) (fun k8 => ?_)
  · replace k8 := bI_n0.mp k8
    have gq := go y k8.1 k8.2
    have gq5 := gq.2.2.2.2.1
    have gq6 := gq.2.2.2.2.2
    have gz := gq6 0 (by omega) (by omega)
    have gy := gq5 0 (by omega) (by omega)
    refine xv (x_aload_n 20 d_X7_suited_19 rfl rfl) ?_
    refine xv (x_getfield 23 d_X7_suited_20 rfl f_7_38 (Nat.le_of_ble_eq_true rfl) (Nat.le_of_ble_eq_true rfl) (q_gf_of hX rfl)) ?_
    refine xv (x_aload_n 24 d_X7_suited_23 rfl rfl) ?_
    refine xv (x_getfield 27 d_X7_suited_24 rfl f_7_12 (Nat.le_of_ble_eq_true rfl) (Nat.le_of_ble_eq_true rfl) (q_gf_of hX rfl)) ?_
    refine xv (x_getfield 30 d_X7_suited_27 rfl f_7_164 (Nat.le_of_ble_eq_true rfl) (Nat.le_of_ble_eq_true rfl) (q_gf_of (wh_o hW) rfl)) ?_
    refine xv (x_iload_n 31 d_X7_suited_30 rfl rfl) ?_
    refine xv (x_aaload 32 d_X7_suited_31 rfl (wh_os hW (by omega) (by omega))) ?_
    refine xv (x_getfield 35 d_X7_suited_32 rfl f_7_309 (Nat.le_of_ble_eq_true rfl) (Nat.le_of_ble_eq_true rfl) (q_gf_of (wh_ob hW (by omega) (by omega)).1 rfl)) ?_
    refine xv (x_iconst 36 d_X7_suited_35 rfl) ?_
    refine xv (x_iaload 37 d_X7_suited_36 rfl (ai_g (wh_ob hW (by omega) (by omega)).2 (by omega) (by omega) (by decide))) ?_
    obtain ⟨r37, h37, e37, z37, q37, s37, ⟨w37, d37, m37, t37⟩, f37⟩ := S_X0_bestRobotFor (E := E) (g := ob l y (5 + 0)) (by omega) hW hR hD hq hS (by omega)
    subst z37
    have X_37 := (f37.2 _ (by omega)).trans hX
    have SN_37 := sn_fr hSN f37 (by omega)
    have HI_37 := hi_fr hHI f37 (by omega)
    have TX_37 := tx_fr hTX f37 (by omega)
    have PLX_37 := plx_fr hPL f37 (by omega)
    have NE_37 := al_fr hN f37 (by omega)
    have WI_37 := al_fr hI f37 (by omega)
    have TA_37 := tb_fr hTB f37 (by omega)
    have F37 : Fr x 444 h h37 := fr_tr fr_rf (fr_in f37 (by omega) (by omega))
    refine xv (x_inv1 40 (as := [Value.int (zi (ob l y (5 + 0)))]) d_X7_suited_37 rfl c_7_318 rfl (Nat.le_of_ble_eq_true rfl) (Nat.le_of_ble_eq_true rfl) hD (Nat.le_of_ble_eq_true rfl) (Nat.le_of_ble_eq_true rfl) rfl e37) ?_
    have q37 : -1 ≤ suiV l y ∧ suiV l y < 6 := brf_r (l := l) (g := ob l y (5 + 0)) (l 3).toNat 0 (-1) (-1) (by omega) (by omega) (by omega)
    show Xv E q_m_X7_suited 40 [Value.ref x, Value.int (zi y), Value.null] [Value.int (zi (suiV l y))] h37 Q
    refine xv (x_istore_n 41 d_X7_suited_40 rfl (Nat.le_of_ble_eq_true rfl)) ?_
    show Xv E q_m_X7_suited 41 [Value.ref x, Value.int (zi y), Value.int (zi (suiV l y))] [] h37 Q
    refine xv (x_iload_n 42 d_X7_suited_41 rfl rfl) ?_
    refine xv (x_iconst 43 d_X7_suited_42 rfl) ?_
    refine v_icmp_ne 54 46 d_X7_suited_43 rfl rfl (by omega) (by omega) (by omega) (by omega) (fun k43 => ?_) (fun k43 => ?_)
    · refine xv (x_iload_n 55 d_X7_suited_54 rfl rfl) ?_
      refine xv_r (x_ireturn d_X7_suited_55 rfl rfl) ?_
      have er : suiO l y = .inr (suiV l y) := by unfold suiO; repeat (first | rw [if_pos (by omega)] | rw [if_neg (by omega)])
      refine hQ _ _ ⟨_, ⟨X_37, ⟨_, w37⟩, SN_37, HI_37, TX_37, ⟨_, _, _, _, _, _, _, _, ⟨d37, m37, t37⟩, ⟨TA_37, NE_37, WI_37⟩, hv⟩, PLX_37⟩, F37, ?_⟩
      rw [er]
      exact ⟨rfl, rfl⟩
    · refine xv_r (x_throw d_X7_suited_46 rfl rfl (Nat.le_of_ble_eq_true rfl) (Nat.le_of_ble_eq_true rfl) rfl rfl (Nat.le_of_ble_eq_true rfl)) ?_
      have er : suiO l y = .inl xNS := by unfold suiO; repeat (first | rw [if_pos (by omega)] | rw [if_neg (by omega)])
      refine hQ _ _ ⟨_, ⟨X_37, ⟨_, w37⟩, SN_37, HI_37, TX_37, ⟨_, _, _, _, _, _, _, _, ⟨d37, m37, t37⟩, ⟨TA_37, NE_37, WI_37⟩, hv⟩, PLX_37⟩, F37, ?_⟩
      rw [er]
      exact ⟨rfl, rfl⟩
  · replace k8 := bI_0.mp k8
    refine xv_r (x_throw d_X7_suited_11 rfl rfl (Nat.le_of_ble_eq_true rfl) (Nat.le_of_ble_eq_true rfl) rfl rfl (Nat.le_of_ble_eq_true rfl)) ?_
    have er : suiO l y = .inl xIO := by unfold suiO; repeat (first | rw [if_pos (by omega)] | rw [if_neg (by omega)])
    refine hQ _ _ ⟨_, ⟨hX, ⟨_, hW⟩, hSN, hHI, hTX, ⟨_, _, _, _, _, _, _, _, ⟨hD, hq, hS⟩, ⟨hTB, hN, hI⟩, hv⟩, hPL⟩, fr_rf, ?_⟩
    rw [er]
    exact ⟨rfl, rfl⟩
theorem S_X7_arrival (hC : CA h x l ls nx ct kl n c hs fa kr kd_) (hR : RgC l) (hn : 0 ≤ nx ∧ nx < 8) (hc : 0 ≤ ct ∧ ct ≤ 8) {y z : Int} (y0 : -2147483648 ≤ y) (y1 : y < 2147483648) (z0 : -2147483648 ≤ z) (z1 : z < 2147483648) : ∃ r_ h', q_cl E q_m_X7_arrival [Value.ref x, Value.int (zi y), Value.int (zi z)] h = some (r_, h') ∧ (RDx h x l ls nx ct kl n c hs fa kr kd_ (arrO l y z) r_ h') := by
  suffices K : ∀ Q : q_R → q_H → Prop, (∀ r_ h', (RDx h x l ls nx ct kl n c hs fa kr kd_ (arrO l y z) r_ h') → Q r_ h') → Xv E q_m_X7_arrival 0 [Value.ref x, Value.int (zi y), Value.int (zi z), Value.null] [] h Q from K _ fun _ _ p => p
  intro Q hQ
  obtain ⟨g0, g1, g2, g3, g4, gc, g5, g6, g7, gk, gl, gr, go⟩ := id hR
  obtain ⟨hX, ⟨p, hW⟩, hSN, hHI, hTX, hDS, ⟨ro0, g0, gt0, TK, PQ, PO, PP, ⟨hP, hK⟩, hQQ, hO, hPP⟩⟩ := id hC
  refine xv (x_aload_n 1 d_X7_arrival_0 rfl rfl) ?_
  refine xv (x_getfield 4 d_X7_arrival_1 rfl f_7_12 (Nat.le_of_ble_eq_true rfl) (Nat.le_of_ble_eq_true rfl) (q_gf_of hX rfl)) ?_
  refine xv (x_iload_n 5 d_X7_arrival_4 rfl rfl) ?_
  refine xv (x_inv1 8 (as := [Value.int (zi y)]) d_X7_arrival_5 rfl c_7_128 rfl (Nat.le_of_ble_eq_true rfl) (Nat.le_of_ble_eq_true rfl) (wh_o hW) (Nat.le_of_ble_eq_true rfl) (Nat.le_of_ble_eq_true rfl) rfl (S_X6_isRobot hW hR (by omega) (by omega))) ?_
  show Xv E q_m_X7_arrival 8 [Value.ref x, Value.int (zi y), Value.int (zi z), Value.null] [Value.int (zi (bI (isR l y)))] h Q
  refine v_if_eq 22 11 d_X7_arrival_8 rfl rfl (by have := bI_r (isR l y); omega) (by have := bI_r (isR l y); omega) (fun k8 => ?_) (fun k8 => ?_)
  · replace k8 := bI_0.mp k8
    refine xv_r (x_throw d_X7_arrival_22 rfl rfl (Nat.le_of_ble_eq_true rfl) (Nat.le_of_ble_eq_true rfl) rfl rfl (Nat.le_of_ble_eq_true rfl)) ?_
    have er : arrO l y z = .inl xIO := by unfold arrO; repeat (first | rw [if_pos (by omega)] | rw [if_neg (by omega)])
    refine hQ _ _ ⟨_, ⟨hX, ⟨_, hW⟩, hSN, hHI, hTX, hDS, ⟨_, _, _, _, _, _, _, ⟨hP, hK⟩, hQQ, hO, hPP⟩⟩, fr_rf, ?_⟩
    rw [er]
    exact ⟨rfl, rfl⟩
  · replace k8 := bI_n0.mp k8
    refine xv (x_aload_n 12 d_X7_arrival_11 rfl rfl) ?_
    refine xv (x_getfield 15 d_X7_arrival_12 rfl f_7_12 (Nat.le_of_ble_eq_true rfl) (Nat.le_of_ble_eq_true rfl) (q_gf_of hX rfl)) ?_
    refine xv (x_iload_n 16 d_X7_arrival_15 rfl rfl) ?_
    refine xv (x_inv1 19 (as := [Value.int (zi z)]) d_X7_arrival_16 rfl c_7_105 rfl (Nat.le_of_ble_eq_true rfl) (Nat.le_of_ble_eq_true rfl) (wh_o hW) (Nat.le_of_ble_eq_true rfl) (Nat.le_of_ble_eq_true rfl) rfl (S_X6_isCell hW hR (by omega) (by omega))) ?_
    show Xv E q_m_X7_arrival 19 [Value.ref x, Value.int (zi y), Value.int (zi z), Value.null] [Value.int (zi (bI (isC l z)))] h Q
    refine v_if_ne 30 22 d_X7_arrival_19 rfl rfl (by have := bI_r (isC l z); omega) (by have := bI_r (isC l z); omega) (fun k19 => ?_) (fun k19 => ?_)
    · replace k19 := bI_n0.mp k19
      refine xv (x_aload_n 31 d_X7_arrival_30 rfl rfl) ?_
      refine xv (x_getfield 34 d_X7_arrival_31 rfl f_7_12 (Nat.le_of_ble_eq_true rfl) (Nat.le_of_ble_eq_true rfl) (q_gf_of hX rfl)) ?_
      refine xv (x_iload_n 35 d_X7_arrival_34 rfl rfl) ?_
      refine xv (x_inv1 38 (as := [Value.int (zi z)]) d_X7_arrival_35 rfl c_7_115 rfl (Nat.le_of_ble_eq_true rfl) (Nat.le_of_ble_eq_true rfl) (wh_o hW) (Nat.le_of_ble_eq_true rfl) (Nat.le_of_ble_eq_true rfl) rfl (S_X6_canEnter hW hR (by omega) (by omega))) ?_
      show Xv E q_m_X7_arrival 38 [Value.ref x, Value.int (zi y), Value.int (zi z), Value.null] [Value.int (zi (bI (isC l z ∧ ent l z)))] h Q
      refine v_if_ne 49 41 d_X7_arrival_38 rfl rfl (by have := bI_r (isC l z ∧ ent l z); omega) (by have := bI_r (isC l z ∧ ent l z); omega) (fun k38 => ?_) (fun k38 => ?_)
      · replace k38 := bI_n0.mp k38
        have hy : isR l y ∧ isC l z ∧ ent l z := ⟨by omega, by omega, k38.2⟩
        have gq := gr y hy.1.1 hy.1.2
        refine xv (x_aload_n 50 d_X7_arrival_49 rfl rfl) ?_
        refine xv (x_getfield 53 d_X7_arrival_50 rfl f_7_12 (Nat.le_of_ble_eq_true rfl) (Nat.le_of_ble_eq_true rfl) (q_gf_of hX rfl)) ?_
        refine xv (x_getfield 56 d_X7_arrival_53 rfl f_7_131 (Nat.le_of_ble_eq_true rfl) (Nat.le_of_ble_eq_true rfl) (q_gf_of (wh_o hW) rfl)) ?_
        refine xv (x_iload_n 57 d_X7_arrival_56 rfl rfl) ?_
        refine xv (x_aaload 58 d_X7_arrival_57 rfl (wh_rs hW (by omega) (by omega))) ?_
        refine xv (x_getfield 61 d_X7_arrival_58 rfl f_7_233 (Nat.le_of_ble_eq_true rfl) (Nat.le_of_ble_eq_true rfl) (q_gf_of (wh_r hW (by omega) (by omega)).1 rfl)) ?_
        have q58 := gr y (by omega) (by omega)
        refine xv (x_iload_n 62 d_X7_arrival_61 rfl rfl) ?_
        refine v_icmp_ne 67 65 d_X7_arrival_62 rfl rfl (by omega) (by omega) (by omega) (by omega) (fun k62 => ?_) (fun k62 => ?_)
        · refine xv (x_aload_n 68 d_X7_arrival_67 rfl rfl) ?_
          refine xv (x_getfield 71 d_X7_arrival_68 rfl f_7_45 (Nat.le_of_ble_eq_true rfl) (Nat.le_of_ble_eq_true rfl) (q_gf_of hX rfl)) ?_
          refine xv (x_iload_n 72 d_X7_arrival_71 rfl rfl) ?_
          refine xv (x_iload_n 73 d_X7_arrival_72 rfl rfl) ?_
          obtain ⟨r73, h73, e73, z73, t73, g73, b73, o73, p73, ⟨w73, d73, m73, x73, y73, u73⟩, G73, f73⟩ := S_X4_findFirst (E := E) hW hR hP hK hQQ hO hPP hy.1 hy.2.1 hy.2.2 (by omega)
          subst z73
          have X_73 := (f73.2 _ (by omega)).trans hX
          have SN_73 := sn_fr hSN f73 (by omega)
          have HI_73 := hi_fr hHI f73 (by omega)
          have TX_73 := tx_fr hTX f73 (by omega)
          have DS_73 := ds_fr hDS f73 (by omega)
          have F73 : Fr x 444 h h73 := fr_tr fr_rf (fr_in f73 (by omega) (by omega))
          refine xv (x_inv1 76 (as := [Value.int (zi y), Value.int (zi z)]) d_X7_arrival_73 rfl c_7_214 rfl (Nat.le_of_ble_eq_true rfl) (Nat.le_of_ble_eq_true rfl) hP (Nat.le_of_ble_eq_true rfl) (Nat.le_of_ble_eq_true rfl) rfl e73) ?_
          have qT := fT_r (l := l) (y := y) (z := z) hR
          show Xv E q_m_X7_arrival 76 [Value.ref x, Value.int (zi y), Value.int (zi z), Value.null] [Value.int (zi (fT l y z))] h73 Q
          refine xv (x_istore_n 77 d_X7_arrival_76 rfl (Nat.le_of_ble_eq_true rfl)) ?_
          show Xv E q_m_X7_arrival 77 [Value.ref x, Value.int (zi y), Value.int (zi z), Value.int (zi (fT l y z))] [] h73 Q
          refine xv (x_iload_n 78 d_X7_arrival_77 rfl rfl) ?_
          refine xv (x_iconst 79 d_X7_arrival_78 rfl) ?_
          refine v_icmp_ne 90 82 d_X7_arrival_79 rfl rfl (by omega) (by omega) (by omega) (by omega) (fun k79 => ?_) (fun k79 => ?_)
          · refine xv (x_iload_n 91 d_X7_arrival_90 rfl rfl) ?_
            refine xv_r (x_ireturn d_X7_arrival_91 rfl rfl) ?_
            have er : arrO l y z = .inr (fT l y z) := by unfold arrO; repeat (first | rw [if_pos (by omega)] | rw [if_neg (by omega)])
            refine hQ _ _ ⟨_, ⟨X_73, ⟨_, w73⟩, SN_73, HI_73, TX_73, DS_73, ⟨_, _, _, _, _, _, _, ⟨d73, m73⟩, x73, y73, u73⟩⟩, F73, ?_⟩
            rw [er]
            exact ⟨rfl, rfl⟩
          · refine xv_r (x_throw d_X7_arrival_82 rfl rfl (Nat.le_of_ble_eq_true rfl) (Nat.le_of_ble_eq_true rfl) rfl rfl (Nat.le_of_ble_eq_true rfl)) ?_
            have er : arrO l y z = .inl xNS := by unfold arrO; repeat (first | rw [if_pos (by omega)] | rw [if_neg (by omega)])
            refine hQ _ _ ⟨_, ⟨X_73, ⟨_, w73⟩, SN_73, HI_73, TX_73, DS_73, ⟨_, _, _, _, _, _, _, ⟨d73, m73⟩, x73, y73, u73⟩⟩, F73, ?_⟩
            rw [er]
            exact ⟨rfl, rfl⟩
        · refine xv (x_iconst 66 d_X7_arrival_65 rfl) ?_
          refine xv_r (x_ireturn d_X7_arrival_66 rfl rfl) ?_
          have er : arrO l y z = .inr 0 := by unfold arrO; repeat (first | rw [if_pos (by omega)] | rw [if_neg (by omega)])
          refine hQ _ _ ⟨_, ⟨hX, ⟨_, hW⟩, hSN, hHI, hTX, hDS, ⟨_, _, _, _, _, _, _, ⟨hP, hK⟩, hQQ, hO, hPP⟩⟩, fr_rf, ?_⟩
          rw [er]
          exact ⟨rfl, rfl⟩
      · replace k38 := bI_0.mp k38
        refine xv_r (x_throw d_X7_arrival_41 rfl rfl (Nat.le_of_ble_eq_true rfl) (Nat.le_of_ble_eq_true rfl) rfl rfl (Nat.le_of_ble_eq_true rfl)) ?_
        have er : arrO l y z = .inl xNS := by unfold arrO; repeat (first | rw [if_pos (by omega)] | rw [if_neg (by omega)])
        refine hQ _ _ ⟨_, ⟨hX, ⟨_, hW⟩, hSN, hHI, hTX, hDS, ⟨_, _, _, _, _, _, _, ⟨hP, hK⟩, hQQ, hO, hPP⟩⟩, fr_rf, ?_⟩
        rw [er]
        exact ⟨rfl, rfl⟩
    · replace k19 := bI_0.mp k19
      refine xv_r (x_throw d_X7_arrival_22 rfl rfl (Nat.le_of_ble_eq_true rfl) (Nat.le_of_ble_eq_true rfl) rfl rfl (Nat.le_of_ble_eq_true rfl)) ?_
      have er : arrO l y z = .inl xIO := by unfold arrO; repeat (first | rw [if_pos (by omega)] | rw [if_neg (by omega)])
      refine hQ _ _ ⟨_, ⟨hX, ⟨_, hW⟩, hSN, hHI, hTX, hDS, ⟨_, _, _, _, _, _, _, ⟨hP, hK⟩, hQQ, hO, hPP⟩⟩, fr_rf, ?_⟩
      rw [er]
      exact ⟨rfl, rfl⟩
theorem S_X7_arrivalAgain (hC : CA h x l ls nx ct kl n c hs fa kr kd_) (hR : RgC l) (hn : 0 ≤ nx ∧ nx < 8) (hc : 0 ≤ ct ∧ ct ≤ 8) {y z : Int} (y0 : -2147483648 ≤ y) (y1 : y < 2147483648) (z0 : -2147483648 ≤ z) (z1 : z < 2147483648) : ∃ r_ h', q_cl E q_m_X7_arrivalAgain [Value.ref x, Value.int (zi y), Value.int (zi z)] h = some (r_, h') ∧ (RDx h x l ls nx ct kl n c hs fa kr kd_ (arrO l y z) r_ h') := by
  suffices K : ∀ Q : q_R → q_H → Prop, (∀ r_ h', (RDx h x l ls nx ct kl n c hs fa kr kd_ (arrO l y z) r_ h') → Q r_ h') → Xv E q_m_X7_arrivalAgain 0 [Value.ref x, Value.int (zi y), Value.int (zi z), Value.null] [] h Q from K _ fun _ _ p => p
  intro Q hQ
  obtain ⟨g0, g1, g2, g3, g4, gc, g5, g6, g7, gk, gl, gr, go⟩ := id hR
  obtain ⟨hX, ⟨p, hW⟩, hSN, hHI, hTX, hDS, ⟨ro0, g0, gt0, TK, PQ, PO, PP, ⟨hP, hK⟩, hQQ, hO, hPP⟩⟩ := id hC
  refine xv (x_aload_n 1 d_X7_arrivalAgain_0 rfl rfl) ?_
  refine xv (x_getfield 4 d_X7_arrivalAgain_1 rfl f_7_12 (Nat.le_of_ble_eq_true rfl) (Nat.le_of_ble_eq_true rfl) (q_gf_of hX rfl)) ?_
  refine xv (x_iload_n 5 d_X7_arrivalAgain_4 rfl rfl) ?_
  refine xv (x_inv1 8 (as := [Value.int (zi y)]) d_X7_arrivalAgain_5 rfl c_7_128 rfl (Nat.le_of_ble_eq_true rfl) (Nat.le_of_ble_eq_true rfl) (wh_o hW) (Nat.le_of_ble_eq_true rfl) (Nat.le_of_ble_eq_true rfl) rfl (S_X6_isRobot hW hR (by omega) (by omega))) ?_
  show Xv E q_m_X7_arrivalAgain 8 [Value.ref x, Value.int (zi y), Value.int (zi z), Value.null] [Value.int (zi (bI (isR l y)))] h Q
  refine v_if_eq 22 11 d_X7_arrivalAgain_8 rfl rfl (by have := bI_r (isR l y); omega) (by have := bI_r (isR l y); omega) (fun k8 => ?_) (fun k8 => ?_)
  · replace k8 := bI_0.mp k8
    refine xv_r (x_throw d_X7_arrivalAgain_22 rfl rfl (Nat.le_of_ble_eq_true rfl) (Nat.le_of_ble_eq_true rfl) rfl rfl (Nat.le_of_ble_eq_true rfl)) ?_
    have er : arrO l y z = .inl xIO := by unfold arrO; repeat (first | rw [if_pos (by omega)] | rw [if_neg (by omega)])
    refine hQ _ _ ⟨_, ⟨hX, ⟨_, hW⟩, hSN, hHI, hTX, hDS, ⟨_, _, _, _, _, _, _, ⟨hP, hK⟩, hQQ, hO, hPP⟩⟩, fr_rf, ?_⟩
    rw [er]
    exact ⟨rfl, rfl⟩
  · replace k8 := bI_n0.mp k8
    refine xv (x_aload_n 12 d_X7_arrivalAgain_11 rfl rfl) ?_
    refine xv (x_getfield 15 d_X7_arrivalAgain_12 rfl f_7_12 (Nat.le_of_ble_eq_true rfl) (Nat.le_of_ble_eq_true rfl) (q_gf_of hX rfl)) ?_
    refine xv (x_iload_n 16 d_X7_arrivalAgain_15 rfl rfl) ?_
    refine xv (x_inv1 19 (as := [Value.int (zi z)]) d_X7_arrivalAgain_16 rfl c_7_105 rfl (Nat.le_of_ble_eq_true rfl) (Nat.le_of_ble_eq_true rfl) (wh_o hW) (Nat.le_of_ble_eq_true rfl) (Nat.le_of_ble_eq_true rfl) rfl (S_X6_isCell hW hR (by omega) (by omega))) ?_
    show Xv E q_m_X7_arrivalAgain 19 [Value.ref x, Value.int (zi y), Value.int (zi z), Value.null] [Value.int (zi (bI (isC l z)))] h Q
    refine v_if_ne 30 22 d_X7_arrivalAgain_19 rfl rfl (by have := bI_r (isC l z); omega) (by have := bI_r (isC l z); omega) (fun k19 => ?_) (fun k19 => ?_)
    · replace k19 := bI_n0.mp k19
      refine xv (x_aload_n 31 d_X7_arrivalAgain_30 rfl rfl) ?_
      refine xv (x_getfield 34 d_X7_arrivalAgain_31 rfl f_7_12 (Nat.le_of_ble_eq_true rfl) (Nat.le_of_ble_eq_true rfl) (q_gf_of hX rfl)) ?_
      refine xv (x_iload_n 35 d_X7_arrivalAgain_34 rfl rfl) ?_
      refine xv (x_inv1 38 (as := [Value.int (zi z)]) d_X7_arrivalAgain_35 rfl c_7_115 rfl (Nat.le_of_ble_eq_true rfl) (Nat.le_of_ble_eq_true rfl) (wh_o hW) (Nat.le_of_ble_eq_true rfl) (Nat.le_of_ble_eq_true rfl) rfl (S_X6_canEnter hW hR (by omega) (by omega))) ?_
      show Xv E q_m_X7_arrivalAgain 38 [Value.ref x, Value.int (zi y), Value.int (zi z), Value.null] [Value.int (zi (bI (isC l z ∧ ent l z)))] h Q
      refine v_if_ne 49 41 d_X7_arrivalAgain_38 rfl rfl (by have := bI_r (isC l z ∧ ent l z); omega) (by have := bI_r (isC l z ∧ ent l z); omega) (fun k38 => ?_) (fun k38 => ?_)
      · replace k38 := bI_n0.mp k38
        have hy : isR l y ∧ isC l z ∧ ent l z := ⟨by omega, by omega, k38.2⟩
        have gq := gr y hy.1.1 hy.1.2
        refine xv (x_aload_n 50 d_X7_arrivalAgain_49 rfl rfl) ?_
        refine xv (x_getfield 53 d_X7_arrivalAgain_50 rfl f_7_12 (Nat.le_of_ble_eq_true rfl) (Nat.le_of_ble_eq_true rfl) (q_gf_of hX rfl)) ?_
        refine xv (x_getfield 56 d_X7_arrivalAgain_53 rfl f_7_131 (Nat.le_of_ble_eq_true rfl) (Nat.le_of_ble_eq_true rfl) (q_gf_of (wh_o hW) rfl)) ?_
        refine xv (x_iload_n 57 d_X7_arrivalAgain_56 rfl rfl) ?_
        refine xv (x_aaload 58 d_X7_arrivalAgain_57 rfl (wh_rs hW (by omega) (by omega))) ?_
        refine xv (x_getfield 61 d_X7_arrivalAgain_58 rfl f_7_233 (Nat.le_of_ble_eq_true rfl) (Nat.le_of_ble_eq_true rfl) (q_gf_of (wh_r hW (by omega) (by omega)).1 rfl)) ?_
        have q58 := gr y (by omega) (by omega)
        refine xv (x_iload_n 62 d_X7_arrivalAgain_61 rfl rfl) ?_
        refine v_icmp_ne 67 65 d_X7_arrivalAgain_62 rfl rfl (by omega) (by omega) (by omega) (by omega) (fun k62 => ?_) (fun k62 => ?_)
        · refine xv (x_aload_n 68 d_X7_arrivalAgain_67 rfl rfl) ?_
          refine xv (x_getfield 71 d_X7_arrivalAgain_68 rfl f_7_45 (Nat.le_of_ble_eq_true rfl) (Nat.le_of_ble_eq_true rfl) (q_gf_of hX rfl)) ?_
          refine xv (x_iload_n 72 d_X7_arrivalAgain_71 rfl rfl) ?_
          refine xv (x_iload_n 73 d_X7_arrivalAgain_72 rfl rfl) ?_
          obtain ⟨r73, h73, e73, z73, t73, g73, ⟨w73, d73, m73⟩, f73⟩ := S_X4_findTickByTick (E := E) hW hR hP hK hy.1 hy.2.1 hy.2.2 (by omega)
          subst z73
          have Q73 := fq_fr f73
          have PQ_73 := ai_fq hQQ f73 (by omega)
          have PO_73 := ai_fq hO f73 (by omega)
          have PP_73 := ai_fq hPP f73 (by omega)
          have X_73 := (Q73.2 _ (by omega)).trans hX
          have SN_73 := sn_fr hSN Q73 (by omega)
          have HI_73 := hi_fr hHI Q73 (by omega)
          have TX_73 := tx_fr hTX Q73 (by omega)
          have DS_73 := ds_fr hDS Q73 (by omega)
          have F73 : Fr x 444 h h73 := fr_tr fr_rf (fr_in Q73 (by omega) (by omega))
          refine xv (x_inv1 76 (as := [Value.int (zi y), Value.int (zi z)]) d_X7_arrivalAgain_73 rfl c_7_291 rfl (Nat.le_of_ble_eq_true rfl) (Nat.le_of_ble_eq_true rfl) hP (Nat.le_of_ble_eq_true rfl) (Nat.le_of_ble_eq_true rfl) rfl e73) ?_
          have qT := fT_r (l := l) (y := y) (z := z) hR
          show Xv E q_m_X7_arrivalAgain 76 [Value.ref x, Value.int (zi y), Value.int (zi z), Value.null] [Value.int (zi (fT l y z))] h73 Q
          refine xv (x_istore_n 77 d_X7_arrivalAgain_76 rfl (Nat.le_of_ble_eq_true rfl)) ?_
          show Xv E q_m_X7_arrivalAgain 77 [Value.ref x, Value.int (zi y), Value.int (zi z), Value.int (zi (fT l y z))] [] h73 Q
          refine xv (x_iload_n 78 d_X7_arrivalAgain_77 rfl rfl) ?_
          refine xv (x_iconst 79 d_X7_arrivalAgain_78 rfl) ?_
          refine v_icmp_ne 90 82 d_X7_arrivalAgain_79 rfl rfl (by omega) (by omega) (by omega) (by omega) (fun k79 => ?_) (fun k79 => ?_)
          · refine xv (x_iload_n 91 d_X7_arrivalAgain_90 rfl rfl) ?_
            refine xv_r (x_ireturn d_X7_arrivalAgain_91 rfl rfl) ?_
            have er : arrO l y z = .inr (fT l y z) := by unfold arrO; repeat (first | rw [if_pos (by omega)] | rw [if_neg (by omega)])
            refine hQ _ _ ⟨_, ⟨X_73, ⟨_, w73⟩, SN_73, HI_73, TX_73, DS_73, ⟨_, _, _, _, _, _, _, ⟨d73, m73⟩, PQ_73, PO_73, PP_73⟩⟩, F73, ?_⟩
            rw [er]
            exact ⟨rfl, rfl⟩
          · refine xv_r (x_throw d_X7_arrivalAgain_82 rfl rfl (Nat.le_of_ble_eq_true rfl) (Nat.le_of_ble_eq_true rfl) rfl rfl (Nat.le_of_ble_eq_true rfl)) ?_
            have er : arrO l y z = .inl xNS := by unfold arrO; repeat (first | rw [if_pos (by omega)] | rw [if_neg (by omega)])
            refine hQ _ _ ⟨_, ⟨X_73, ⟨_, w73⟩, SN_73, HI_73, TX_73, DS_73, ⟨_, _, _, _, _, _, _, ⟨d73, m73⟩, PQ_73, PO_73, PP_73⟩⟩, F73, ?_⟩
            rw [er]
            exact ⟨rfl, rfl⟩
        · refine xv (x_iconst 66 d_X7_arrivalAgain_65 rfl) ?_
          refine xv_r (x_ireturn d_X7_arrivalAgain_66 rfl rfl) ?_
          have er : arrO l y z = .inr 0 := by unfold arrO; repeat (first | rw [if_pos (by omega)] | rw [if_neg (by omega)])
          refine hQ _ _ ⟨_, ⟨hX, ⟨_, hW⟩, hSN, hHI, hTX, hDS, ⟨_, _, _, _, _, _, _, ⟨hP, hK⟩, hQQ, hO, hPP⟩⟩, fr_rf, ?_⟩
          rw [er]
          exact ⟨rfl, rfl⟩
      · replace k38 := bI_0.mp k38
        refine xv_r (x_throw d_X7_arrivalAgain_41 rfl rfl (Nat.le_of_ble_eq_true rfl) (Nat.le_of_ble_eq_true rfl) rfl rfl (Nat.le_of_ble_eq_true rfl)) ?_
        have er : arrO l y z = .inl xNS := by unfold arrO; repeat (first | rw [if_pos (by omega)] | rw [if_neg (by omega)])
        refine hQ _ _ ⟨_, ⟨hX, ⟨_, hW⟩, hSN, hHI, hTX, hDS, ⟨_, _, _, _, _, _, _, ⟨hP, hK⟩, hQQ, hO, hPP⟩⟩, fr_rf, ?_⟩
        rw [er]
        exact ⟨rfl, rfl⟩
    · replace k19 := bI_0.mp k19
      refine xv_r (x_throw d_X7_arrivalAgain_22 rfl rfl (Nat.le_of_ble_eq_true rfl) (Nat.le_of_ble_eq_true rfl) rfl rfl (Nat.le_of_ble_eq_true rfl)) ?_
      have er : arrO l y z = .inl xIO := by unfold arrO; repeat (first | rw [if_pos (by omega)] | rw [if_neg (by omega)])
      refine hQ _ _ ⟨_, ⟨hX, ⟨_, hW⟩, hSN, hHI, hTX, hDS, ⟨_, _, _, _, _, _, _, ⟨hP, hK⟩, hQQ, hO, hPP⟩⟩, fr_rf, ?_⟩
      rw [er]
      exact ⟨rfl, rfl⟩
end CV8
