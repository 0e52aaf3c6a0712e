/-! the class itself: what changes it, second (printed by program) -/
section CV2
variable {E : q_E} {h h' : q_H} {x w v a b t N k d : Nat} {l lo ls f g c q : Int → Int} {p p2 pk : Int → Nat} {hs fa kr kd_ nx ct n : Int} {kl : Int → Int → Int}
/-- a robot let go -/
def frl (l : Int → Int) (c : Int) : Int → Int := if isO l (rb l c 2) then u1 (u1 l (104 + 36 * c + 2) (-1)) (320 + 8 * (rb l c 2) + 2) 0 else u1 l (104 + 36 * c + 2) (-1)
theorem rgc_cl {c v : Int} (hR : RgC l) (h1 : isC l c) (hv : 0 ≤ v ∧ v ≤ 1) : RgC (u1 l (56 + c) v) := by
  obtain ⟨g0, g1, g2, g3, g4, gc, g5, g6, g7, gk, gl, gr, go⟩ := hR
  have ec : cs (u1 l (56 + c) v) = cs l := by unfold cs; rw [u1_ne (by omega), u1_ne (by omega)]
  have e (k : Int) (hk : k ≠ 56 + c) : u1 l (56 + c) v k = l k := u1_ne hk
  unfold RgC
  rw [ec, e 0 (by omega), e 1 (by omega), e 2 (by omega), e 3 (by omega), e 4 (by omega), e 5 (by omega), e 6 (by omega), e 7 (by omega)]
  refine ⟨g0, g1, g2, g3, g4, gc, g5, g6, g7, fun k a b => by rw [e _ (by omega)]; exact gk k a b, fun k a b => ?_, fun r' a b => ?_, fun o' a b => ?_⟩
  · by_cases q : k = c
    · subst q; rw [u1_eq]; exact hv
    · rw [e _ (by omega)]; exact gl k a b
  · have er (k : Int) (hk : 0 ≤ k) : rb (u1 l (56 + c) v) r' k = rb l r' k := e _ (by omega)
    unfold Rf
    rw [er 0 (by omega), er 1 (by omega), er 2 (by omega), er 3 (by omega), er 4 (by omega), er 5 (by omega)]
    obtain ⟨q0, q1, q2, q3, q4, q5, q6⟩ := gr r' a b
    exact ⟨q0, q1, q2, q3, q4, q5, fun t a b => by rw [er _ (by omega)]; exact q6 t a b⟩
  · have er (k : Int) (hk : 0 ≤ k) : ob (u1 l (56 + c) v) o' k = ob l o' k := e _ (by omega)
    unfold Of
    rw [er 0 (by omega), er 1 (by omega), er 2 (by omega), er 4 (by omega)]
    obtain ⟨q0, q1, q2, q4, q5, q6⟩ := go o' a b
    exact ⟨q0, q1, q2, q4, fun t a b => by rw [er _ (by omega)]; exact q5 t a b, fun t a b => by rw [er _ (by omega)]; exact q6 t a b⟩
theorem S_X7_release (hC : CA h x l ls nx ct kl n c hs fa kr kd_) (hR : RgC l) (hn : 0 ≤ nx ∧ nx < 8) (hc : 0 ≤ ct ∧ ct ≤ 8) {y : Int} (y0 : -2147483648 ≤ y) (y1 : y < 2147483648) : ∃ r_ h', q_cl E q_m_X7_release [Value.ref x, Value.int (zi y)] h = some (r_, h') ∧ (Mut h x l ls nx ct kl n c hs fa kr kd_ (rfRel l y) (rb l y 2) (frl l y) r_ h') := by
  suffices K : ∀ Q : q_R → q_H → Prop, (∀ r_ h', (Mut h x l ls nx ct kl n c hs fa kr kd_ (rfRel l y) (rb l y 2) (frl l y) r_ h') → Q r_ h') → Xv E q_m_X7_release 0 [Value.ref x, Value.int (zi y)] [] h Q from K _ fun _ _ p => p
  intro Q hQ
  obtain ⟨g0, g1, g2, g3, g4, gc, g5, g6, g7, gk, gl, gr, go⟩ := id hR
  obtain ⟨hX, ⟨p, hW⟩, hSN, hHI, hTX, hDS, hPL⟩ := id hC
  refine xv (x_aload_n 1 d_X7_release_0 rfl rfl) ?_
  refine xv (x_iload_n 2 d_X7_release_1 rfl rfl) ?_
  obtain ⟨r2, h2, e2, z2, w2, u2, f2⟩ := S_X7_refusesRelease (E := E) (y := y) hX hW hR (by omega) (by omega)
  subst z2
  have SN_2 := sn_fr hSN f2 (by omega)
  have HI_2 := hi_fr hHI f2 (by omega)
  have TX_2 := tx_fr hTX f2 (by omega)
  have DS_2 := ds_fr hDS f2 (by omega)
  have PLX_2 := plx_fr hPL f2 (by omega)
  have F2 : Fr x 444 h h2 := fr_tr fr_rf (fr_in f2 (by omega) (by omega))
  refine xv (x_inv1 5 (as := [Value.int (zi y)]) d_X7_release_2 rfl c_7_180 rfl (Nat.le_of_ble_eq_true rfl) (Nat.le_of_ble_eq_true rfl) hX (Nat.le_of_ble_eq_true rfl) (Nat.le_of_ble_eq_true rfl) rfl e2) ?_
  show Xv E q_m_X7_release 5 [Value.ref x, Value.int (zi y)] [Value.int (zi (bI (¬ (rfRel l y).1 = 0)))] h2 Q
  refine v_if_eq 16 8 d_X7_release_5 rfl rfl (by have := bI_r (¬ (rfRel l y).1 = 0); omega) (by have := bI_r (¬ (rfRel l y).1 = 0); omega) (fun k5 => ?_) (fun k5 => ?_)
  · replace k5 := bI_0.mp k5
    have kK := k5
    have hy := rfRel_0 (Classical.not_not.mp kK)
    refine xv (x_aload_n 17 d_X7_release_16 rfl rfl) ?_
    refine xv (x_getfield 20 d_X7_release_17 rfl f_7_22 (Nat.le_of_ble_eq_true rfl) (Nat.le_of_ble_eq_true rfl) (q_gf_of w2 rfl)) ?_
    refine xv (x_aload_n 21 d_X7_release_20 rfl rfl) ?_
    refine xv (x_getfield 24 d_X7_release_21 rfl f_7_12 (Nat.le_of_ble_eq_true rfl) (Nat.le_of_ble_eq_true rfl) (q_gf_of w2 rfl)) ?_
    obtain ⟨r24, h24, e24, z24, l24, i24, g24, f24⟩ := S_X1_keep (E := E) hR HI_2 u2 hn hc (by omega)
    subst z24
    have X_24 := (f24.2 _ (by omega)).trans w2
    have W_24 := wh_fr u2 f24 (by omega)
    have SN_24 := sn_fr SN_2 f24 (by omega)
    have TX_24 := tx_fr TX_2 f24 (by omega)
    have DS_24 := ds_fr DS_2 f24 (by omega)
    have PLX_24 := plx_fr PLX_2 f24 (by omega)
    have F24 : Fr x 444 h h24 := fr_tr F2 (fr_in f24 (by omega) (by omega))
    refine xv (x_inv0 27 (as := [Value.ref (x + 1)]) d_X7_release_24 rfl c_7_84 rfl (Nat.le_of_ble_eq_true rfl) (Nat.le_of_ble_eq_true rfl) HI_2.1 (Nat.le_of_ble_eq_true rfl) (Nat.le_of_ble_eq_true rfl) rfl e24) ?_
    show Xv E q_m_X7_release 27 [Value.ref x, Value.int (zi y)] [] h24 Q
    refine xv (x_aload_n 28 d_X7_release_27 rfl rfl) ?_
    refine xv (x_getfield 31 d_X7_release_28 rfl f_7_12 (Nat.le_of_ble_eq_true rfl) (Nat.le_of_ble_eq_true rfl) (q_gf_of X_24 rfl)) ?_
    refine xv (x_iload_n 32 d_X7_release_31 rfl rfl) ?_
    obtain ⟨r32, h32, e32, z32, w32, f32⟩ := S_X6_freeRobot (E := E) (c := y) W_24 hR (by omega)
    subst z32
    have X_32 := (f32.2 _ (by omega)).trans X_24
    have SN_32 := sn_fr SN_24 f32 (by omega)
    have HI_32 := hi_fr g24 f32 (by omega)
    have TX_32 := tx_fr TX_24 f32 (by omega)
    have DS_32 := ds_fr DS_24 f32 (by omega)
    have PLX_32 := plx_fr PLX_24 f32 (by omega)
    have F32 : Fr x 444 h h32 := fr_tr F24 (fr_in f32 (by omega) (by omega))
    refine xv (x_inv1 35 (as := [Value.int (zi y)]) d_X7_release_32 rfl c_7_183 rfl (Nat.le_of_ble_eq_true rfl) (Nat.le_of_ble_eq_true rfl) (wh_o W_24) (Nat.le_of_ble_eq_true rfl) (Nat.le_of_ble_eq_true rfl) rfl e32) ?_
    have gq := gr y (by omega) (by omega)
    show Xv E q_m_X7_release 35 [Value.ref x, Value.int (zi y)] [Value.int (zi (rb l y 2))] h32 Q
    refine xv_r (x_ireturn d_X7_release_35 rfl rfl) ?_
    have k0_ := Classical.not_not.mp k5
    rw [krn_0 k0_, kdn_0 k0_] at X_32
    exact hQ _ _ (.inl ⟨k0_, rfl, _, _, _, ⟨rfl, rfl, l24, i24, rfl⟩, ⟨X_32, ⟨_, w32⟩, SN_32, HI_32, TX_32, DS_32, PLX_32⟩, F32⟩)
  · replace k5 := bI_n0.mp k5
    refine xv_r (x_throw d_X7_release_8 rfl rfl (Nat.le_of_ble_eq_true rfl) (Nat.le_of_ble_eq_true rfl) rfl rfl (Nat.le_of_ble_eq_true rfl)) ?_
    rw [krn, if_neg k5, kdn, if_neg k5] at w2
    exact hQ _ _ (.inr ⟨k5, rfl, _, ⟨w2, ⟨_, u2⟩, SN_2, HI_2, TX_2, DS_2, PLX_2⟩, F2, rfl⟩)
theorem S_X7_close (hC : CA h x l ls nx ct kl n c hs fa kr kd_) (hR : RgC l) (hn : 0 ≤ nx ∧ nx < 8) (hc : 0 ≤ ct ∧ ct ≤ 8) {y : Int} (y0 : -2147483648 ≤ y) (y1 : y < 2147483648) : ∃ r_ h', q_cl E q_m_X7_close [Value.ref x, Value.int (zi y)] h = some (r_, h') ∧ (Mut h x l ls nx ct kl n c hs fa kr kd_ (rfClo l y) (ccl (u1 l (56 + y) 1)) (u1 l (56 + y) 1) r_ h') := by
  suffices K : ∀ Q : q_R → q_H → Prop, (∀ r_ h', (Mut h x l ls nx ct kl n c hs fa kr kd_ (rfClo l y) (ccl (u1 l (56 + y) 1)) (u1 l (56 + y) 1) r_ h') → Q r_ h') → Xv E q_m_X7_close 0 [Value.ref x, Value.int (zi y)] [] h Q from K _ fun _ _ p => p
  intro Q hQ
  obtain ⟨g0, g1, g2, g3, g4, gc, g5, g6, g7, gk, gl, gr, go⟩ := id hR
  obtain ⟨hX, ⟨p, hW⟩, hSN, hHI, hTX, hDS, hPL⟩ := id hC
  refine xv (x_aload_n 1 d_X7_close_0 rfl rfl) ?_
  refine xv (x_iload_n 2 d_X7_close_1 rfl rfl) ?_
  obtain ⟨r2, h2, e2, z2, w2, u2, f2⟩ := S_X7_refusesClose (E := E) (y := y) hX hW hR (by omega) (by omega)
  subst z2
  have SN_2 := sn_fr hSN f2 (by omega)
  have HI_2 := hi_fr hHI f2 (by omega)
  have TX_2 := tx_fr hTX f2 (by omega)
  have DS_2 := ds_fr hDS f2 (by omega)
  have PLX_2 := plx_fr hPL f2 (by omega)
  have F2 : Fr x 444 h h2 := fr_tr fr_rf (fr_in f2 (by omega) (by omega))
  refine xv (x_inv1 5 (as := [Value.int (zi y)]) d_X7_close_2 rfl c_7_186 rfl (Nat.le_of_ble_eq_true rfl) (Nat.le_of_ble_eq_true rfl) hX (Nat.le_of_ble_eq_true rfl) (Nat.le_of_ble_eq_true rfl) rfl e2) ?_
  show Xv E q_m_X7_close 5 [Value.ref x, Value.int (zi y)] [Value.int (zi (bI (¬ (rfClo l y).1 = 0)))] h2 Q
  refine v_if_eq 16 8 d_X7_close_5 rfl rfl (by have := bI_r (¬ (rfClo l y).1 = 0); omega) (by have := bI_r (¬ (rfClo l y).1 = 0); omega) (fun k5 => ?_) (fun k5 => ?_)
  · replace k5 := bI_0.mp k5
    have kK := k5
    have hy := rfClo_0 (Classical.not_not.mp kK)
    have hR2 : RgC (u1 l (56 + y) 1) := rgc_cl hR hy.1 (by omega)
    refine xv (x_aload_n 17 d_X7_close_16 rfl rfl) ?_
    refine xv (x_getfield 20 d_X7_close_17 rfl f_7_22 (Nat.le_of_ble_eq_true rfl) (Nat.le_of_ble_eq_true rfl) (q_gf_of w2 rfl)) ?_
    refine xv (x_aload_n 21 d_X7_close_20 rfl rfl) ?_
    refine xv (x_getfield 24 d_X7_close_21 rfl f_7_12 (Nat.le_of_ble_eq_true rfl) (Nat.le_of_ble_eq_true rfl) (q_gf_of w2 rfl)) ?_
    obtain ⟨r24, h24, e24, z24, l24, i24, g24, f24⟩ := S_X1_keep (E := E) hR HI_2 u2 hn hc (by omega)
    subst z24
    have X_24 := (f24.2 _ (by omega)).trans w2
    have W_24 := wh_fr u2 f24 (by omega)
    have SN_24 := sn_fr SN_2 f24 (by omega)
    have TX_24 := tx_fr TX_2 f24 (by omega)
    have DS_24 := ds_fr DS_2 f24 (by omega)
    have PLX_24 := plx_fr PLX_2 f24 (by omega)
    have F24 : Fr x 444 h h24 := fr_tr F2 (fr_in f24 (by omega) (by omega))
    refine xv (x_inv0 27 (as := [Value.ref (x + 1)]) d_X7_close_24 rfl c_7_84 rfl (Nat.le_of_ble_eq_true rfl) (Nat.le_of_ble_eq_true rfl) HI_2.1 (Nat.le_of_ble_eq_true rfl) (Nat.le_of_ble_eq_true rfl) rfl e24) ?_
    show Xv E q_m_X7_close 27 [Value.ref x, Value.int (zi y)] [] h24 Q
    refine xv (x_aload_n 28 d_X7_close_27 rfl rfl) ?_
    refine xv (x_getfield 31 d_X7_close_28 rfl f_7_12 (Nat.le_of_ble_eq_true rfl) (Nat.le_of_ble_eq_true rfl) (q_gf_of X_24 rfl)) ?_
    refine xv (x_getfield 34 d_X7_close_31 rfl f_7_189 (Nat.le_of_ble_eq_true rfl) (Nat.le_of_ble_eq_true rfl) (q_gf_of (wh_o W_24) rfl)) ?_
    refine xv (x_iload_n 35 d_X7_close_34 rfl rfl) ?_
    refine xv (x_iconst 36 d_X7_close_35 rfl) ?_
    obtain ⟨h36, e36, w36, f36⟩ := wh_cs (z := y) (v := 1) W_24 (by omega) (by omega)
    have X_36 := (f36.2 _ (by omega)).trans X_24
    have SN_36 := sn_fr SN_24 f36 (by omega)
    have HI_36 := hi_fr g24 f36 (by omega)
    have TX_36 := tx_fr TX_24 f36 (by omega)
    have DS_36 := ds_fr DS_24 f36 (by omega)
    have PLX_36 := plx_fr PLX_24 f36 (by omega)
    have F36 : Fr x 444 h h36 := fr_tr F24 (fr_in f36 (by omega) (by omega))
    refine xv (x_bastore 37 d_X7_close_36 rfl ((congrArg (q_sI _ 2 _ _) (rfl)).trans e36)) ?_
    show Xv E q_m_X7_close 37 [Value.ref x, Value.int (zi y)] [] h36 Q
    refine xv (x_aload_n 38 d_X7_close_37 rfl rfl) ?_
    refine xv (x_getfield 41 d_X7_close_38 rfl f_7_12 (Nat.le_of_ble_eq_true rfl) (Nat.le_of_ble_eq_true rfl) (q_gf_of X_36 rfl)) ?_
    refine xv (x_inv1 44 (as := []) d_X7_close_41 rfl c_7_193 rfl (Nat.le_of_ble_eq_true rfl) (Nat.le_of_ble_eq_true rfl) (wh_o w36) (Nat.le_of_ble_eq_true rfl) (Nat.le_of_ble_eq_true rfl) rfl (S_X6_closedCount w36 hR2)) ?_
    show Xv E q_m_X7_close 44 [Value.ref x, Value.int (zi y)] [Value.int (zi (ccl (u1 l (56 + y) 1)))] h36 Q
    refine xv_r (x_ireturn d_X7_close_44 rfl rfl) ?_
    have k0_ := Classical.not_not.mp k5
    rw [krn_0 k0_, kdn_0 k0_] at X_36
    exact hQ _ _ (.inl ⟨k0_, rfl, _, _, _, ⟨rfl, rfl, l24, i24, rfl⟩, ⟨X_36, ⟨_, w36⟩, SN_36, HI_36, TX_36, DS_36, PLX_36⟩, F36⟩)
  · replace k5 := bI_n0.mp k5
    refine xv_r (x_throw d_X7_close_8 rfl rfl (Nat.le_of_ble_eq_true rfl) (Nat.le_of_ble_eq_true rfl) rfl rfl (Nat.le_of_ble_eq_true rfl)) ?_
    rw [krn, if_neg k5, kdn, if_neg k5] at w2
    exact hQ _ _ (.inr ⟨k5, rfl, _, ⟨w2, ⟨_, u2⟩, SN_2, HI_2, TX_2, DS_2, PLX_2⟩, F2, rfl⟩)
theorem S_X7_open (hC : CA h x l ls nx ct kl n c hs fa kr kd_) (hR : RgC l) (hn : 0 ≤ nx ∧ nx < 8) (hc : 0 ≤ ct ∧ ct ≤ 8) {y : Int} (y0 : -2147483648 ≤ y) (y1 : y < 2147483648) : ∃ r_ h', q_cl E q_m_X7_open [Value.ref x, Value.int (zi y)] h = some (r_, h') ∧ (Mut h x l ls nx ct kl n c hs fa kr kd_ (rfOpn l y) (ccl (u1 l (56 + y) 0)) (u1 l (56 + y) 0) r_ h') := by
  suffices K : ∀ Q : q_R → q_H → Prop, (∀ r_ h', (Mut h x l ls nx ct kl n c hs fa kr kd_ (rfOpn l y) (ccl (u1 l (56 + y) 0)) (u1 l (56 + y) 0) r_ h') → Q r_ h') → Xv E q_m_X7_open 0 [Value.ref x, Value.int (zi y)] [] h Q from K _ fun _ _ p => p
  intro Q hQ
  obtain ⟨g0, g1, g2, g3, g4, gc, g5, g6, g7, gk, gl, gr, go⟩ := id hR
  obtain ⟨hX, ⟨p, hW⟩, hSN, hHI, hTX, hDS, hPL⟩ := id hC
  refine xv (x_aload_n 1 d_X7_open_0 rfl rfl) ?_
  refine xv (x_iload_n 2 d_X7_open_1 rfl rfl) ?_
  obtain ⟨r2, h2, e2, z2, w2, u2, f2⟩ := S_X7_refusesOpen (E := E) (y := y) hX hW hR (by omega) (by omega)
  subst z2
  have SN_2 := sn_fr hSN f2 (by omega)
  have HI_2 := hi_fr hHI f2 (by omega)
  have TX_2 := tx_fr hTX f2 (by omega)
  have DS_2 := ds_fr hDS f2 (by omega)
  have PLX_2 := plx_fr hPL f2 (by omega)
  have F2 : Fr x 444 h h2 := fr_tr fr_rf (fr_in f2 (by omega) (by omega))
  refine xv (x_inv1 5 (as := [Value.int (zi y)]) d_X7_open_2 rfl c_7_196 rfl (Nat.le_of_ble_eq_true rfl) (Nat.le_of_ble_eq_true rfl) hX (Nat.le_of_ble_eq_true rfl) (Nat.le_of_ble_eq_true rfl) rfl e2) ?_
  show Xv E q_m_X7_open 5 [Value.ref x, Value.int (zi y)] [Value.int (zi (bI (¬ (rfOpn l y).1 = 0)))] h2 Q
  refine v_if_eq 16 8 d_X7_open_5 rfl rfl (by have := bI_r (¬ (rfOpn l y).1 = 0); omega) (by have := bI_r (¬ (rfOpn l y).1 = 0); omega) (fun k5 => ?_) (fun k5 => ?_)
  · replace k5 := bI_0.mp k5
    have kK := k5
    have hy := rfOpn_0 (Classical.not_not.mp kK)
    have hR2 : RgC (u1 l (56 + y) 0) := rgc_cl hR hy.1 (by omega)
    refine xv (x_aload_n 17 d_X7_open_16 rfl rfl) ?_
    refine xv (x_getfield 20 d_X7_open_17 rfl f_7_22 (Nat.le_of_ble_eq_true rfl) (Nat.le_of_ble_eq_true rfl) (q_gf_of w2 rfl)) ?_
    refine xv (x_aload_n 21 d_X7_open_20 rfl rfl) ?_
    refine xv (x_getfield 24 d_X7_open_21 rfl f_7_12 (Nat.le_of_ble_eq_true rfl) (Nat.le_of_ble_eq_true rfl) (q_gf_of w2 rfl)) ?_
    obtain ⟨r24, h24, e24, z24, l24, i24, g24, f24⟩ := S_X1_keep (E := E) hR HI_2 u2 hn hc (by omega)
    subst z24
    have X_24 := (f24.2 _ (by omega)).trans w2
    have W_24 := wh_fr u2 f24 (by omega)
    have SN_24 := sn_fr SN_2 f24 (by omega)
    have TX_24 := tx_fr TX_2 f24 (by omega)
    have DS_24 := ds_fr DS_2 f24 (by omega)
    have PLX_24 := plx_fr PLX_2 f24 (by omega)
    have F24 : Fr x 444 h h24 := fr_tr F2 (fr_in f24 (by omega) (by omega))
    refine xv (x_inv0 27 (as := [Value.ref (x + 1)]) d_X7_open_24 rfl c_7_84 rfl (Nat.le_of_ble_eq_true rfl) (Nat.le_of_ble_eq_true rfl) HI_2.1 (Nat.le_of_ble_eq_true rfl) (Nat.le_of_ble_eq_true rfl) rfl e24) ?_
    show Xv E q_m_X7_open 27 [Value.ref x, Value.int (zi y)] [] h24 Q
    refine xv (x_aload_n 28 d_X7_open_27 rfl rfl) ?_
    refine xv (x_getfield 31 d_X7_open_28 rfl f_7_12 (Nat.le_of_ble_eq_true rfl) (Nat.le_of_ble_eq_true rfl) (q_gf_of X_24 rfl)) ?_
    refine xv (x_getfield 34 d_X7_open_31 rfl f_7_189 (Nat.le_of_ble_eq_true rfl) (Nat.le_of_ble_eq_true rfl) (q_gf_of (wh_o W_24) rfl)) ?_
    refine xv (x_iload_n 35 d_X7_open_34 rfl rfl) ?_
    refine xv (x_iconst 36 d_X7_open_35 rfl) ?_
    obtain ⟨h36, e36, w36, f36⟩ := wh_cs (z := y) (v := 0) W_24 (by omega) (by omega)
    have X_36 := (f36.2 _ (by omega)).trans X_24
    have SN_36 := sn_fr SN_24 f36 (by omega)
    have HI_36 := hi_fr g24 f36 (by omega)
    have TX_36 := tx_fr TX_24 f36 (by omega)
    have DS_36 := ds_fr DS_24 f36 (by omega)
    have PLX_36 := plx_fr PLX_24 f36 (by omega)
    have F36 : Fr x 444 h h36 := fr_tr F24 (fr_in f36 (by omega) (by omega))
    refine xv (x_bastore 37 d_X7_open_36 rfl ((congrArg (q_sI _ 2 _ _) (rfl)).trans e36)) ?_
    show Xv E q_m_X7_open 37 [Value.ref x, Value.int (zi y)] [] h36 Q
    refine xv (x_aload_n 38 d_X7_open_37 rfl rfl) ?_
    refine xv (x_getfield 41 d_X7_open_38 rfl f_7_12 (Nat.le_of_ble_eq_true rfl) (Nat.le_of_ble_eq_true rfl) (q_gf_of X_36 rfl)) ?_
    refine xv (x_inv1 44 (as := []) d_X7_open_41 rfl c_7_193 rfl (Nat.le_of_ble_eq_true rfl) (Nat.le_of_ble_eq_true rfl) (wh_o w36) (Nat.le_of_ble_eq_true rfl) (Nat.le_of_ble_eq_true rfl) rfl (S_X6_closedCount w36 hR2)) ?_
    show Xv E q_m_X7_open 44 [Value.ref x, Value.int (zi y)] [Value.int (zi (ccl (u1 l (56 + y) 0)))] h36 Q
    refine xv_r (x_ireturn d_X7_open_44 rfl rfl) ?_
    have k0_ := Classical.not_not.mp k5
    rw [krn_0 k0_, kdn_0 k0_] at X_36
    exact hQ _ _ (.inl ⟨k0_, rfl, _, _, _, ⟨rfl, rfl, l24, i24, rfl⟩, ⟨X_36, ⟨_, w36⟩, SN_36, HI_36, TX_36, DS_36, PLX_36⟩, F36⟩)
  · replace k5 := bI_n0.mp k5
    refine xv_r (x_throw d_X7_open_8 rfl rfl (Nat.le_of_ble_eq_true rfl) (Nat.le_of_ble_eq_true rfl) rfl rfl (Nat.le_of_ble_eq_true rfl)) ?_
    rw [krn, if_neg k5, kdn, if_neg k5] at w2
    exact hQ _ _ (.inr ⟨k5, rfl, _, ⟨w2, ⟨_, u2⟩, SN_2, HI_2, TX_2, DS_2, PLX_2⟩, F2, rfl⟩)
theorem S_X7_cancel (hC : CA h x l ls nx ct kl n c hs fa kr kd_) (hR : RgC l) (hn : 0 ≤ nx ∧ nx < 8) (hc : 0 ≤ ct ∧ ct ≤ 8) {y : Int} (y0 : -2147483648 ≤ y) (y1 : y < 2147483648) : ∃ r_ h', q_cl E q_m_X7_cancel [Value.ref x, Value.int (zi y)] h = some (r_, h') ∧ (Mut h x l ls nx ct kl n c hs fa kr kd_ (rfCan l y) (rb l y 3) (u1 l (104 + 36 * y + 3) 0) r_ h') := by
  suffices K : ∀ Q : q_R → q_H → Prop, (∀ r_ h', (Mut h x l ls nx ct kl n c hs fa kr kd_ (rfCan l y) (rb l y 3) (u1 l (104 + 36 * y + 3) 0) r_ h') → Q r_ h') → Xv E q_m_X7_cancel 0 [Value.ref x, Value.int (zi y), Value.null] [] h Q from K _ fun _ _ p => p
  intro Q hQ
  obtain ⟨g0, g1, g2, g3, g4, gc, g5, g6, g7, gk, gl, gr, go⟩ := id hR
  obtain ⟨hX, ⟨p, hW⟩, hSN, hHI, hTX, hDS, hPL⟩ := id hC
  refine xv (x_aload_n 1 d_X7_cancel_0 rfl rfl) ?_
  refine xv (x_iload_n 2 d_X7_cancel_1 rfl rfl) ?_
  obtain ⟨r2, h2, e2, z2, w2, u2, f2⟩ := S_X7_refusesCancel (E := E) (y := y) hX hW hR (by omega) (by omega)
  subst z2
  have SN_2 := sn_fr hSN f2 (by omega)
  have HI_2 := hi_fr hHI f2 (by omega)
  have TX_2 := tx_fr hTX f2 (by omega)
  have DS_2 := ds_fr hDS f2 (by omega)
  have PLX_2 := plx_fr hPL f2 (by omega)
  have F2 : Fr x 444 h h2 := fr_tr fr_rf (fr_in f2 (by omega) (by omega))
  refine xv (x_inv1 5 (as := [Value.int (zi y)]) d_X7_cancel_2 rfl c_7_242 rfl (Nat.le_of_ble_eq_true rfl) (Nat.le_of_ble_eq_true rfl) hX (Nat.le_of_ble_eq_true rfl) (Nat.le_of_ble_eq_true rfl) rfl e2) ?_
  show Xv E q_m_X7_cancel 5 [Value.ref x, Value.int (zi y), Value.null] [Value.int (zi (bI (¬ (rfCan l y).1 = 0)))] h2 Q
  refine v_if_eq 16 8 d_X7_cancel_5 rfl rfl (by have := bI_r (¬ (rfCan l y).1 = 0); omega) (by have := bI_r (¬ (rfCan l y).1 = 0); omega) (fun k5 => ?_) (fun k5 => ?_)
  · replace k5 := bI_0.mp k5
    have kK := k5
    have hy := rfCan_0 (Classical.not_not.mp kK)
    refine xv (x_aload_n 17 d_X7_cancel_16 rfl rfl) ?_
    refine xv (x_getfield 20 d_X7_cancel_17 rfl f_7_22 (Nat.le_of_ble_eq_true rfl) (Nat.le_of_ble_eq_true rfl) (q_gf_of w2 rfl)) ?_
    refine xv (x_aload_n 21 d_X7_cancel_20 rfl rfl) ?_
    refine xv (x_getfield 24 d_X7_cancel_21 rfl f_7_12 (Nat.le_of_ble_eq_true rfl) (Nat.le_of_ble_eq_true rfl) (q_gf_of w2 rfl)) ?_
    obtain ⟨r24, h24, e24, z24, l24, i24, g24, f24⟩ := S_X1_keep (E := E) hR HI_2 u2 hn hc (by omega)
    subst z24
    have X_24 := (f24.2 _ (by omega)).trans w2
    have W_24 := wh_fr u2 f24 (by omega)
    have SN_24 := sn_fr SN_2 f24 (by omega)
    have TX_24 := tx_fr TX_2 f24 (by omega)
    have DS_24 := ds_fr DS_2 f24 (by omega)
    have PLX_24 := plx_fr PLX_2 f24 (by omega)
    have F24 : Fr x 444 h h24 := fr_tr F2 (fr_in f24 (by omega) (by omega))
    refine xv (x_inv0 27 (as := [Value.ref (x + 1)]) d_X7_cancel_24 rfl c_7_84 rfl (Nat.le_of_ble_eq_true rfl) (Nat.le_of_ble_eq_true rfl) HI_2.1 (Nat.le_of_ble_eq_true rfl) (Nat.le_of_ble_eq_true rfl) rfl e24) ?_
    show Xv E q_m_X7_cancel 27 [Value.ref x, Value.int (zi y), Value.null] [] h24 Q
    refine xv (x_aload_n 28 d_X7_cancel_27 rfl rfl) ?_
    refine xv (x_getfield 31 d_X7_cancel_28 rfl f_7_12 (Nat.le_of_ble_eq_true rfl) (Nat.le_of_ble_eq_true rfl) (q_gf_of X_24 rfl)) ?_
    refine xv (x_getfield 34 d_X7_cancel_31 rfl f_7_131 (Nat.le_of_ble_eq_true rfl) (Nat.le_of_ble_eq_true rfl) (q_gf_of (wh_o W_24) rfl)) ?_
    refine xv (x_iload_n 35 d_X7_cancel_34 rfl rfl) ?_
    refine xv (x_aaload 36 d_X7_cancel_35 rfl (wh_rs W_24 (by omega) (by omega))) ?_
    refine xv (x_getfield 39 d_X7_cancel_36 rfl f_7_230 (Nat.le_of_ble_eq_true rfl) (Nat.le_of_ble_eq_true rfl) (q_gf_of (wh_r W_24 (by omega) (by omega)).1 rfl)) ?_
    have q36 := gr y (by omega) (by omega)
    refine xv (x_istore_n 40 d_X7_cancel_39 rfl (Nat.le_of_ble_eq_true rfl)) ?_
    show Xv E q_m_X7_cancel 40 [Value.ref x, Value.int (zi y), Value.int (zi (rb l y 3))] [] h24 Q
    refine xv (x_aload_n 41 d_X7_cancel_40 rfl rfl) ?_
    refine xv (x_getfield 44 d_X7_cancel_41 rfl f_7_12 (Nat.le_of_ble_eq_true rfl) (Nat.le_of_ble_eq_true rfl) (q_gf_of X_24 rfl)) ?_
    refine xv (x_getfield 47 d_X7_cancel_44 rfl f_7_131 (Nat.le_of_ble_eq_true rfl) (Nat.le_of_ble_eq_true rfl) (q_gf_of (wh_o W_24) rfl)) ?_
    refine xv (x_iload_n 48 d_X7_cancel_47 rfl rfl) ?_
    refine xv (x_aaload 49 d_X7_cancel_48 rfl (wh_rs W_24 (by omega) (by omega))) ?_
    refine xv (x_iconst 50 d_X7_cancel_49 rfl) ?_
    obtain ⟨h50, e50, w50, f50⟩ := wh_rf4 (r := y) (v := 0) W_24 (by omega) (by omega)
    have X_50 := (f50.2 _ (by omega)).trans X_24
    have SN_50 := sn_fr SN_24 f50 (by omega)
    have HI_50 := hi_fr g24 f50 (by omega)
    have TX_50 := tx_fr TX_24 f50 (by omega)
    have DS_50 := ds_fr DS_24 f50 (by omega)
    have PLX_50 := plx_fr PLX_24 f50 (by omega)
    have F50 : Fr x 444 h h50 := fr_tr F24 (fr_in f50 (by omega) (by omega))
    refine xv (x_putfield 53 d_X7_cancel_50 rfl f_7_230 (Nat.le_of_ble_eq_true rfl) e50 rfl rfl (fun e => absurd e (by decide))) ?_
    show Xv E q_m_X7_cancel 53 [Value.ref x, Value.int (zi y), Value.int (zi (rb l y 3))] [] h50 Q
    refine xv (x_iload_n 54 d_X7_cancel_53 rfl rfl) ?_
    refine xv_r (x_ireturn d_X7_cancel_54 rfl rfl) ?_
    have k0_ := Classical.not_not.mp k5
    rw [krn_0 k0_, kdn_0 k0_] at X_50
    exact hQ _ _ (.inl ⟨k0_, rfl, _, _, _, ⟨rfl, rfl, l24, i24, rfl⟩, ⟨X_50, ⟨_, w50⟩, SN_50, HI_50, TX_50, DS_50, PLX_50⟩, F50⟩)
  · replace k5 := bI_n0.mp k5
    refine xv_r (x_throw d_X7_cancel_8 rfl rfl (Nat.le_of_ble_eq_true rfl) (Nat.le_of_ble_eq_true rfl) rfl rfl (Nat.le_of_ble_eq_true rfl)) ?_
    rw [krn, if_neg k5, kdn, if_neg k5] at w2
    exact hQ _ _ (.inr ⟨k5, rfl, _, ⟨w2, ⟨_, u2⟩, SN_2, HI_2, TX_2, DS_2, PLX_2⟩, F2, rfl⟩)
theorem S_X7_set (hC : CA h x l ls nx ct kl n c hs fa kr kd_) (hR : RgC l) (hn : 0 ≤ nx ∧ nx < 8) (hc : 0 ≤ ct ∧ ct ≤ 8) {y z : Int} (y0 : -2147483648 ≤ y) (y1 : y < 2147483648) (z0 : -2147483648 ≤ z) (z1 : z < 2147483648) (hE : q_EN E N) (hLo : Lo h N) : ∃ r_ h', q_cl E q_m_X7_set [Value.ref x, Value.int (zi y), Value.int (zi z)] h = some (r_, h') ∧ (Mut h x l ls nx ct kl n c hs fa kr kd_ (rfSet y z) (l (5 + y)) (u1 l (5 + y) z) r_ h') := by
  suffices K : ∀ Q : q_R → q_H → Prop, (∀ r_ h', (Mut h x l ls nx ct kl n c hs fa kr kd_ (rfSet y z) (l (5 + y)) (u1 l (5 + y) z) r_ h') → Q r_ h') → Xv E q_m_X7_set 0 [Value.ref x, Value.int (zi y), Value.int (zi z), Value.null] [] h Q from K _ fun _ _ p => p
  intro Q hQ
  obtain ⟨g0, g1, g2, g3, g4, gc, g5, g6, g7, gk, gl, gr, go⟩ := id hR
  obtain ⟨hX, ⟨p, hW⟩, hSN, hHI, hTX, hDS, hPL⟩ := id hC
  refine xv (x_aload_n 1 d_X7_set_0 rfl rfl) ?_
  refine xv (x_iload_n 2 d_X7_set_1 rfl rfl) ?_
  refine xv (x_iload_n 3 d_X7_set_2 rfl rfl) ?_
  obtain ⟨r3, h3, e3, z3, w3, u3, f3⟩ := S_X7_refusesSet (E := E) (y := y) (z := z) hE hLo hX hW hR (by omega) (by omega) (by omega) (by omega)
  subst z3
  have SN_3 := sn_fr hSN f3 (by omega)
  have HI_3 := hi_fr hHI f3 (by omega)
  have TX_3 := tx_fr hTX f3 (by omega)
  have DS_3 := ds_fr hDS f3 (by omega)
  have PLX_3 := plx_fr hPL f3 (by omega)
  have F3 : Fr x 444 h h3 := fr_tr fr_rf (fr_in f3 (by omega) (by omega))
  refine xv (x_inv1 6 (as := [Value.int (zi y), Value.int (zi z)]) d_X7_set_3 rfl c_7_199 rfl (Nat.le_of_ble_eq_true rfl) (Nat.le_of_ble_eq_true rfl) hX (Nat.le_of_ble_eq_true rfl) (Nat.le_of_ble_eq_true rfl) rfl e3) ?_
  show Xv E q_m_X7_set 6 [Value.ref x, Value.int (zi y), Value.int (zi z), Value.null] [Value.int (zi (bI (¬ (rfSet y z).1 = 0)))] h3 Q
  refine v_if_eq 17 9 d_X7_set_6 rfl rfl (by have := bI_r (¬ (rfSet y z).1 = 0); omega) (by have := bI_r (¬ (rfSet y z).1 = 0); omega) (fun k6 => ?_) (fun k6 => ?_)
  · replace k6 := bI_0.mp k6
    have kK := k6
    have hy := rfSet_0 (Classical.not_not.mp kK)
    refine xv (x_aload_n 18 d_X7_set_17 rfl rfl) ?_
    refine xv (x_getfield 21 d_X7_set_18 rfl f_7_22 (Nat.le_of_ble_eq_true rfl) (Nat.le_of_ble_eq_true rfl) (q_gf_of w3 rfl)) ?_
    refine xv (x_aload_n 22 d_X7_set_21 rfl rfl) ?_
    refine xv (x_getfield 25 d_X7_set_22 rfl f_7_12 (Nat.le_of_ble_eq_true rfl) (Nat.le_of_ble_eq_true rfl) (q_gf_of w3 rfl)) ?_
    obtain ⟨r25, h25, e25, z25, l25, i25, g25, f25⟩ := S_X1_keep (E := E) hR HI_3 u3 hn hc (by omega)
    subst z25
    have X_25 := (f25.2 _ (by omega)).trans w3
    have W_25 := wh_fr u3 f25 (by omega)
    have SN_25 := sn_fr SN_3 f25 (by omega)
    have TX_25 := tx_fr TX_3 f25 (by omega)
    have DS_25 := ds_fr DS_3 f25 (by omega)
    have PLX_25 := plx_fr PLX_3 f25 (by omega)
    have F25 : Fr x 444 h h25 := fr_tr F3 (fr_in f25 (by omega) (by omega))
    refine xv (x_inv0 28 (as := [Value.ref (x + 1)]) d_X7_set_25 rfl c_7_84 rfl (Nat.le_of_ble_eq_true rfl) (Nat.le_of_ble_eq_true rfl) HI_3.1 (Nat.le_of_ble_eq_true rfl) (Nat.le_of_ble_eq_true rfl) rfl e25) ?_
    show Xv E q_m_X7_set 28 [Value.ref x, Value.int (zi y), Value.int (zi z), Value.null] [] h25 Q
    refine xv (x_aload_n 29 d_X7_set_28 rfl rfl) ?_
    refine xv (x_getfield 32 d_X7_set_29 rfl f_7_12 (Nat.le_of_ble_eq_true rfl) (Nat.le_of_ble_eq_true rfl) (q_gf_of X_25 rfl)) ?_
    refine xv (x_getfield 35 d_X7_set_32 rfl f_7_202 (Nat.le_of_ble_eq_true rfl) (Nat.le_of_ble_eq_true rfl) (q_gf_of (wh_o W_25) rfl)) ?_
    refine xv (x_iload_n 36 d_X7_set_35 rfl rfl) ?_
    refine xv (x_iaload 37 d_X7_set_36 rfl (ai_g (wh_s W_25) (by omega) (by omega) (by decide))) ?_
    refine xv (x_istore_n 38 d_X7_set_37 rfl (Nat.le_of_ble_eq_true rfl)) ?_
    show Xv E q_m_X7_set 38 [Value.ref x, Value.int (zi y), Value.int (zi z), Value.int (zi (l (5 + y)))] [] h25 Q
    refine xv (x_aload_n 39 d_X7_set_38 rfl rfl) ?_
    refine xv (x_getfield 42 d_X7_set_39 rfl f_7_12 (Nat.le_of_ble_eq_true rfl) (Nat.le_of_ble_eq_true rfl) (q_gf_of X_25 rfl)) ?_
    refine xv (x_getfield 45 d_X7_set_42 rfl f_7_202 (Nat.le_of_ble_eq_true rfl) (Nat.le_of_ble_eq_true rfl) (q_gf_of (wh_o W_25) rfl)) ?_
    refine xv (x_iload_n 46 d_X7_set_45 rfl rfl) ?_
    refine xv (x_iload_n 47 d_X7_set_46 rfl rfl) ?_
    obtain ⟨h47, e47, w47, f47⟩ := wh_ss (z := y) (v := z) W_25 (by omega) (by omega)
    have X_47 := (f47.2 _ (by omega)).trans X_25
    have SN_47 := sn_fr SN_25 f47 (by omega)
    have HI_47 := hi_fr g25 f47 (by omega)
    have TX_47 := tx_fr TX_25 f47 (by omega)
    have DS_47 := ds_fr DS_25 f47 (by omega)
    have PLX_47 := plx_fr PLX_25 f47 (by omega)
    have F47 : Fr x 444 h h47 := fr_tr F25 (fr_in f47 (by omega) (by omega))
    refine xv (x_iastore 48 d_X7_set_47 rfl e47) ?_
    show Xv E q_m_X7_set 48 [Value.ref x, Value.int (zi y), Value.int (zi z), Value.int (zi (l (5 + y)))] [] h47 Q
    refine xv (x_iload_n 49 d_X7_set_48 rfl rfl) ?_
    refine xv_r (x_ireturn d_X7_set_49 rfl rfl) ?_
    have k0_ := Classical.not_not.mp k6
    rw [krn_0 k0_, kdn_0 k0_] at X_47
    exact hQ _ _ (.inl ⟨k0_, rfl, _, _, _, ⟨rfl, rfl, l25, i25, rfl⟩, ⟨X_47, ⟨_, w47⟩, SN_47, HI_47, TX_47, DS_47, PLX_47⟩, F47⟩)
  · replace k6 := bI_n0.mp k6
    refine xv_r (x_throw d_X7_set_9 rfl rfl (Nat.le_of_ble_eq_true rfl) (Nat.le_of_ble_eq_true rfl) rfl rfl (Nat.le_of_ble_eq_true rfl)) ?_
    rw [krn, if_neg k6, kdn, if_neg k6] at w3
    exact hQ _ _ (.inr ⟨k6, rfl, _, ⟨w3, ⟨_, u3⟩, SN_3, HI_3, TX_3, DS_3, PLX_3⟩, F3, rfl⟩)
/-- so many ticks: the warehouse, the orders delivered -/
def psL : Nat → (Int → Int) → (Int → Int)
  | 0, l => l
  | n + 1, l => psL n (tkr (l 3).toNat 0 (u1 l 2 (l 2 + 1)))
def psV : Nat → (Int → Int) → Int → Int
  | 0, _, d => d
  | n + 1, l, d => psV n (tkr (l 3).toNat 0 (u1 l 2 (l 2 + 1))) (d + tkd (l 3).toNat 0 (u1 l 2 (l 2 + 1)) 0)
/-- bounds: T ticks so far -/
def TB0 (T : Int) (l : Int → Int) : Prop := l 2 ≤ T ∧ (∀ r, 0 ≤ r → r < l 3 → -3 * T ≤ rb l r 1 ∧ rb l r 5 ≤ T) ∧ ∀ o, 0 ≤ o → o < l 4 → ob l o 4 ≤ T
theorem tb0_k {T : Int} (h : TB0 T l) (hT : 0 ≤ T) : TBk T 0 (u1 l 2 (l 2 + 1)) := by
  obtain ⟨h1, h2, h3⟩ := h
  unfold TBk
  rw [u1_eq, show u1 l 2 (l 2 + 1) 3 = l 3 from u1_ne (by omega), show u1 l 2 (l 2 + 1) 4 = l 4 from u1_ne (by omega)]
  refine ⟨by omega, fun r a b => ?_, fun o a b => ?_⟩
  · rw [show rb (u1 l 2 (l 2 + 1)) r 1 = rb l r 1 from u1_ne (by omega), show rb (u1 l 2 (l 2 + 1)) r 5 = rb l r 5 from u1_ne (by omega)]
    have := h2 r a b
    omega
  · rw [show ob (u1 l 2 (l 2 + 1)) o 4 = ob l o 4 from u1_ne (by omega)]
    have := h3 o a b
    omega
theorem tbk_0 {T k : Int} (h : TBk T k l) : TB0 (T + 1) l := ⟨h.1, fun r a b => (h.2.1 r a b).1, h.2.2⟩
theorem tkr_3 {T : Int} (hR : RgC l) (hT : TBk T 0 l) (h0 : 0 ≤ T) (h2 : T ≤ 99000) : ∀ (m : Nat) (k : Int) (lk : Int → Int), RgC lk → TBk T k lk → 0 ≤ k → k + m = lk 3 → (tkr m k lk) 3 = lk 3 ∧ RgC (tkr m k lk) ∧ TBk T (k + m) (tkr m k lk)
  | 0, k, lk, hk, hb, _, _ => ⟨rfl, hk, by rw [show k + ((0 : Nat) : Int) = k by omega]; exact hb⟩
  | m + 1, k, lk, hk, hb, k0, e => by
    obtain ⟨x1, x2, x3⟩ := tkL_ok hk (k := k) ⟨k0, by omega⟩ hb h0 h2
    have e3 := x3 3 (by omega)
    obtain ⟨y1, y2, y3⟩ := tkr_3 hR hT h0 h2 m (k + 1) (tkL lk k) x1 x2 (by omega) (by omega)
    refine ⟨y1.trans e3, y2, ?_⟩
    rw [show k + ((m + 1 : Nat) : Int) = k + 1 + m by omega]
    exact y3
theorem tkd_r : ∀ (m : Nat) (k : Int) (lk : Int → Int) (d : Int), d ≤ tkd m k lk d ∧ tkd m k lk d ≤ d + m
  | 0, k, lk, d => ⟨Int.le_refl _, by show d ≤ d + 0; omega⟩
  | m + 1, k, lk, d => by
    have := tkd_r m (k + 1) (tkL lk k) (d + tkV lk k)
    have hv : 0 ≤ tkV lk k ∧ tkV lk k ≤ 1 := by
      unfold tkV
      split
      · exact epV_r
      · omega
    show d ≤ tkd m (k + 1) (tkL lk k) (d + tkV lk k) ∧ tkd m (k + 1) (tkL lk k) (d + tkV lk k) ≤ d + (m + 1 : Nat)
    omega
theorem S_X7_pass (hC : CA h x l ls nx ct kl n c hs fa kr kd_) (hR : RgC l) (hn : 0 ≤ nx ∧ nx < 8) (hc : 0 ≤ ct ∧ ct ≤ 8) {y T : Int} (y0 : -2147483648 ≤ y) (y1 : y < 2147483648) (hT : TB0 T l) (hT0 : 0 ≤ T) (hT1 : T ≤ 90000) : ∃ r_ h', q_cl E q_m_X7_pass [Value.ref x, Value.int (zi y)] h = some (r_, h') ∧ (Mut h x l ls nx ct kl n c hs fa kr kd_ (rfPas y) (psV y.toNat l 0) (psL y.toNat l) r_ h') := by
  suffices K : ∀ Q : q_R → q_H → Prop, (∀ r_ h', (Mut h x l ls nx ct kl n c hs fa kr kd_ (rfPas y) (psV y.toNat l 0) (psL y.toNat l) r_ h') → Q r_ h') → Xv E q_m_X7_pass 0 [Value.ref x, Value.int (zi y), Value.null, Value.null] [] h Q from K _ fun _ _ p => p
  intro Q hQ
  obtain ⟨g0, g1, g2, g3, g4, gc, g5, g6, g7, gk, gl, gr, go⟩ := id hR
  obtain ⟨hX, ⟨p, hW⟩, hSN, hHI, hTX, hDS, hPL⟩ := id hC
  refine xv (x_aload_n 1 d_X7_pass_0 rfl rfl) ?_
  refine xv (x_iload_n 2 d_X7_pass_1 rfl rfl) ?_
  obtain ⟨r2, h2, e2, z2, w2, u2, f2⟩ := S_X7_refusesPass (E := E) (y := y) hX hW hR (by omega) (by omega)
  subst z2
  have SN_2 := sn_fr hSN f2 (by omega)
  have HI_2 := hi_fr hHI f2 (by omega)
  have TX_2 := tx_fr hTX f2 (by omega)
  have DS_2 := ds_fr hDS f2 (by omega)
  have PLX_2 := plx_fr hPL f2 (by omega)
  have F2 : Fr x 444 h h2 := fr_tr fr_rf (fr_in f2 (by omega) (by omega))
  refine xv (x_inv1 5 (as := [Value.int (zi y)]) d_X7_pass_2 rfl c_7_245 rfl (Nat.le_of_ble_eq_true rfl) (Nat.le_of_ble_eq_true rfl) hX (Nat.le_of_ble_eq_true rfl) (Nat.le_of_ble_eq_true rfl) rfl e2) ?_
  show Xv E q_m_X7_pass 5 [Value.ref x, Value.int (zi y), Value.null, Value.null] [Value.int (zi (bI (¬ (rfPas y).1 = 0)))] h2 Q
  refine v_if_eq 16 8 d_X7_pass_5 rfl rfl (by have := bI_r (¬ (rfPas y).1 = 0); omega) (by have := bI_r (¬ (rfPas y).1 = 0); omega) (fun k5 => ?_) (fun k5 => ?_)
  · replace k5 := bI_0.mp k5
    have hy := rfPas_0 (Classical.not_not.mp k5)
    have k0_ := Classical.not_not.mp k5
    rw [krn_0 k0_, kdn_0 k0_] at w2
    refine xv (x_aload_n 17 d_X7_pass_16 rfl rfl) ?_
    refine xv (x_getfield 20 d_X7_pass_17 rfl f_7_22 (Nat.le_of_ble_eq_true rfl) (Nat.le_of_ble_eq_true rfl) (q_gf_of w2 rfl)) ?_
    refine xv (x_aload_n 21 d_X7_pass_20 rfl rfl) ?_
    refine xv (x_getfield 24 d_X7_pass_21 rfl f_7_12 (Nat.le_of_ble_eq_true rfl) (Nat.le_of_ble_eq_true rfl) (q_gf_of w2 rfl)) ?_
    obtain ⟨r24, h24, e24, z24, l24, i24, g24, f24⟩ := S_X1_keep (E := E) hR HI_2 u2 hn hc (by omega)
    subst z24
    have X_24 := (f24.2 _ (by omega)).trans w2
    have W_24 := wh_fr u2 f24 (by omega)
    have SN_24 := sn_fr SN_2 f24 (by omega)
    have TX_24 := tx_fr TX_2 f24 (by omega)
    have DS_24 := ds_fr DS_2 f24 (by omega)
    have PLX_24 := plx_fr PLX_2 f24 (by omega)
    have F24 : Fr x 444 h h24 := fr_tr F2 (fr_in f24 (by omega) (by omega))
    refine xv (x_inv0 27 (as := [Value.ref (x + 1)]) d_X7_pass_24 rfl c_7_84 rfl (Nat.le_of_ble_eq_true rfl) (Nat.le_of_ble_eq_true rfl) HI_2.1 (Nat.le_of_ble_eq_true rfl) (Nat.le_of_ble_eq_true rfl) rfl e24) ?_
    show Xv E q_m_X7_pass 27 [Value.ref x, Value.int (zi y), Value.null, Value.null] [] h24 Q
    refine xv (x_iconst 28 d_X7_pass_27 rfl) ?_
    refine xv (x_istore_n 29 d_X7_pass_28 rfl (Nat.le_of_ble_eq_true rfl)) ?_
    show Xv E q_m_X7_pass 29 [Value.ref x, Value.int (zi y), Value.int (zi 0), Value.null] [] h24 Q
    refine xv (x_iconst 30 d_X7_pass_29 rfl) ?_
    refine xv (x_istore_n 31 d_X7_pass_30 rfl (Nat.le_of_ble_eq_true rfl)) ?_
    show Xv E q_m_X7_pass 31 [Value.ref x, Value.int (zi y), Value.int (zi 0), Value.int (zi 0)] [] h24 Q
    have L31 : ∀ (n_ : Nat) (d : Int) (k : Int) (lk : Int → Int) (H : q_H), (0 ≤ k) → (k ≤ y) → (0 ≤ d ∧ d ≤ 6 * k) → (RgC lk) → (TB0 (T + k) lk) → (CAo H x hs fa kr kd_) → (WH H (x + 1) lk p) → (SNx H x ls) → (HI H (x + 77) (if nx + 1 < 8 then nx + 1 else 0) (min 8 (ct + 1)) (fun i => if i = nx then l24 else kl i)) → (TXx H x n c) → (DSx H x) → (PLx H x) → (Fr x 444 h H) → (psV y.toNat l 0 = psV (y - k).toNat lk d) → (psL y.toNat l = psL (y - k).toNat lk) → (y - k).toNat = n_ → Xv E q_m_X7_pass 31 [Value.ref x, Value.int (zi y), Value.int (zi d), Value.int (zi k)] [] H Q := by
      intro n_
      induction n_ using Nat.strongRecOn with
      | _ n_ ih31 =>
        intro d k lk H k0 k1 d0 hRk hTk hX2 hW2 hSN2 hHI2 hTX2 hDS2 hPL2 hF2 hv hw em
        refine xv (x_iload_n 32 d_X7_pass_31 rfl rfl) ?_
        refine xv (x_iload_n 33 d_X7_pass_32 rfl rfl) ?_
        refine v_icmp_ge 52 36 d_X7_pass_33 rfl rfl (by omega) (by omega) (by omega) (by omega) (fun k33 => ?_) (fun k33 => ?_)
        · refine xv (x_iload_n 53 d_X7_pass_52 rfl rfl) ?_
          refine xv_r (x_ireturn d_X7_pass_53 rfl rfl) ?_
          have hz : (y - k).toNat = 0 := by omega
          rw [hz] at hv hw
          have ev : psV y.toNat l 0 = d := hv
          have el : psL y.toNat l = lk := hw
          exact hQ _ _ (.inl ⟨k0_, by rw [ev], _, _, _, ⟨rfl, rfl, l24, i24, rfl⟩, ⟨hX2, ⟨_, (el ▸ hW2)⟩, hSN2, hHI2, hTX2, hDS2, hPL2⟩, hF2⟩)
        · refine xv (x_iload_n 37 d_X7_pass_36 rfl rfl) ?_
          refine xv (x_aload_n 38 d_X7_pass_37 rfl rfl) ?_
          refine xv (x_getfield 41 d_X7_pass_38 rfl f_7_12 (Nat.le_of_ble_eq_true rfl) (Nat.le_of_ble_eq_true rfl) (q_gf_of hX2 rfl)) ?_
          obtain ⟨r41, h41, e41, ⟨z41, a41, b41⟩, w41, f41⟩ := S_X6_tick (E := E) hW2 hRk (tb0_k hTk (by omega)) (by omega) (by omega)
          subst z41
          have X_41 := (f41.2 _ (by omega)).trans hX2
          have SN_41 := sn_fr hSN2 f41 (by omega)
          have HI_41 := hi_fr hHI2 f41 (by omega)
          have TX_41 := tx_fr hTX2 f41 (by omega)
          have DS_41 := ds_fr hDS2 f41 (by omega)
          have PLX_41 := plx_fr hPL2 f41 (by omega)
          have F41 : Fr x 444 h h41 := fr_tr hF2 (fr_in f41 (by omega) (by omega))
          refine xv (x_inv1 44 (as := []) d_X7_pass_41 rfl c_7_248 rfl (Nat.le_of_ble_eq_true rfl) (Nat.le_of_ble_eq_true rfl) (wh_o hW2) (Nat.le_of_ble_eq_true rfl) (Nat.le_of_ble_eq_true rfl) rfl e41) ?_
          have q41 := tkd_r (lk 3).toNat 0 (u1 lk 2 (lk 2 + 1)) 0
          show Xv E q_m_X7_pass 44 [Value.ref x, Value.int (zi y), Value.int (zi d), Value.int (zi k)] [Value.int (zi (tkd (lk 3).toNat 0 (u1 lk 2 (lk 2 + 1)) 0)), Value.int (zi d)] h41 Q
          refine xv (x_iadd 45 d_X7_pass_44 rfl) ?_
          refine xv (x_istore_n 46 d_X7_pass_45 rfl (Nat.le_of_ble_eq_true rfl)) ?_
          show Xv E q_m_X7_pass 46 [Value.ref x, Value.int (zi y), Value.int (zi (d + (tkd (lk 3).toNat 0 (u1 lk 2 (lk 2 + 1)) 0))), Value.int (zi k)] [] h41 Q
          refine xv (x_iinc 49 d_X7_pass_46 rfl rfl) ?_
          show Xv E q_m_X7_pass 49 [Value.ref x, Value.int (zi y), Value.int (zi (d + (tkd (lk 3).toNat 0 (u1 lk 2 (lk 2 + 1)) 0))), Value.int (zi (k + 1))] [] h41 Q
          refine xv (x_goto 31 d_X7_pass_49 rfl) ?_
          have g3k := hRk.2.2.2.1
          have es : (y - k).toNat = (y - (k + 1)).toNat + 1 := by omega
          refine ih31 _ (by omega) _ (k + 1) _ _ (by omega) (by omega) (by omega) a41 ?_ X_41 w41 SN_41 HI_41 TX_41 DS_41 PLX_41 F41 (hv.trans (by rw [es]; rfl)) (hw.trans (by rw [es]; rfl)) rfl
          rw [show T + (k + 1) = T + k + 1 by omega]
          exact tbk_0 b41
    exact L31 _ 0 0 l _ (by omega) (by omega) (by omega) hR (by rw [Int.add_zero]; exact hT) X_24 W_24 SN_24 g24 TX_24 DS_24 PLX_24 F24 (by rw [Int.sub_zero]) (by rw [Int.sub_zero]) rfl
  · replace k5 := bI_n0.mp k5
    refine xv_r (x_throw d_X7_pass_8 rfl rfl (Nat.le_of_ble_eq_true rfl) (Nat.le_of_ble_eq_true rfl) rfl rfl (Nat.le_of_ble_eq_true rfl)) ?_
    rw [krn, if_neg k5, kdn, if_neg k5] at w2
    exact hQ _ _ (.inr ⟨k5, rfl, _, ⟨w2, ⟨_, u2⟩, SN_2, HI_2, TX_2, DS_2, PLX_2⟩, F2, rfl⟩)
end CV2
