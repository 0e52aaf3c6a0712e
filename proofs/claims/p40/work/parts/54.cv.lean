/-! the class itself: plan (printed by program) -/
section CV6
variable {E : q_E} {h h' : q_H} {x w v a b t N k d : Nat} {l lo ls f g c q PP : Int → Int} {p p2 pk : Int → Nat} {hs fa kr kd_ nx ct n ro go_ gt : Int} {kl : Int → Int → Int}
theorem S_X7_plan (hC : CA h x l ls nx ct kl n c hs fa kr kd_) (hR : RgC l) (hn : 0 ≤ nx ∧ nx < 8) (hc : 0 ≤ ct ∧ ct ≤ 8) {y z : Int} (y0 : -2147483648 ≤ y) (y1 : y < 2147483648) (z0 : -2147483648 ≤ z) (z1 : z < 2147483648) : ∃ r_ h', q_cl E q_m_X7_plan [Value.ref x, Value.int (zi y), Value.int (zi z)] h = some (r_, h') ∧ (∃ PP, ((rfGoa l y z).1 = 0 → ¬ fT l y z = -1 → Grd l y z (fT l y z) (fun t => if t = 0 then rb l y 0 else PP (t - 1))) ∧ Mut h x l ls nx ct kl n c hs fa kr kd_ (rfPln l y z PP) (fT l y z) (rset l y (fol (rb l y) PP (fT l y z) (stp l y))) r_ h') := by
  suffices K : ∀ Q : q_R → q_H → Prop, (∀ r_ h', (∃ PP, ((rfGoa l y z).1 = 0 → ¬ fT l y z = -1 → Grd l y z (fT l y z) (fun t => if t = 0 then rb l y 0 else PP (t - 1))) ∧ Mut h x l ls nx ct kl n c hs fa kr kd_ (rfPln l y z PP) (fT l y z) (rset l y (fol (rb l y) PP (fT l y z) (stp l y))) r_ h') → Q r_ h') → Xv E q_m_X7_plan 0 [Value.ref x, Value.int (zi y), Value.int (zi z), Value.null] [] h Q from K _ fun _ _ p => p
  intro Q hQ
  obtain ⟨g0, g1, g2, g3, g4, gc, g5, g6, g7, gk, gl, gr, go⟩ := id hR
  obtain ⟨hX, ⟨p, hW⟩, hSN, hHI, hTX, hDS, ⟨ro0, g0, gt0, TK, PQ, PO, PP, ⟨hP, hK⟩, hQQ, hO, hPP⟩⟩ := id hC
  refine xv (x_aload_n 1 d_X7_plan_0 rfl rfl) ?_
  refine xv (x_iload_n 2 d_X7_plan_1 rfl rfl) ?_
  refine xv (x_iload_n 3 d_X7_plan_2 rfl rfl) ?_
  obtain ⟨r3, h3, e3, z3, w3, u3, f3⟩ := S_X7_refusesGoal (E := E) (y := y) (z := z) hX hW hR (by omega) (by omega) (by omega) (by omega)
  subst z3
  have SN_3 := sn_fr hSN f3 (by omega)
  have HI_3 := hi_fr hHI f3 (by omega)
  have TX_3 := tx_fr hTX f3 (by omega)
  have DS_3 := ds_fr hDS f3 (by omega)
  have PL_3 := (f3.2 _ (by omega)).trans hP
  have TK_3 := al_fr hK f3 (by omega)
  have PQ_3 := ai_fr hQQ f3 (by omega)
  have PO_3 := ai_fr hO f3 (by omega)
  have PP_3 := ai_fr hPP f3 (by omega)
  have F3 : Fr x 444 h h3 := fr_tr fr_rf (fr_in f3 (by omega) (by omega))
  refine xv (x_inv1 6 (as := [Value.int (zi y), Value.int (zi z)]) d_X7_plan_3 rfl c_7_211 rfl (Nat.le_of_ble_eq_true rfl) (Nat.le_of_ble_eq_true rfl) hX (Nat.le_of_ble_eq_true rfl) (Nat.le_of_ble_eq_true rfl) rfl e3) ?_
  show Xv E q_m_X7_plan 6 [Value.ref x, Value.int (zi y), Value.int (zi z), Value.null] [Value.int (zi (bI (¬ (rfGoa l y z).1 = 0)))] h3 Q
  refine v_if_eq 17 9 d_X7_plan_6 rfl rfl (by have := bI_r (¬ (rfGoa l y z).1 = 0); omega) (by have := bI_r (¬ (rfGoa l y z).1 = 0); omega) (fun k6 => ?_) (fun k6 => ?_)
  · replace k6 := bI_0.mp k6
    have k0_ := Classical.not_not.mp k6
    have hy := rfGoa_0 k0_
    rw [krn_0 k0_, kdn_0 k0_] at w3
    refine xv (x_aload_n 18 d_X7_plan_17 rfl rfl) ?_
    refine xv (x_getfield 21 d_X7_plan_18 rfl f_7_45 (Nat.le_of_ble_eq_true rfl) (Nat.le_of_ble_eq_true rfl) (q_gf_of w3 rfl)) ?_
    refine xv (x_iload_n 22 d_X7_plan_21 rfl rfl) ?_
    refine xv (x_iload_n 23 d_X7_plan_22 rfl rfl) ?_
    obtain ⟨r23, h23, e23, z23, t23, g23, b23, o23, p23, ⟨w23, d23, m23, x23, y23, u23⟩, G23, f23⟩ := S_X4_findFirst (E := E) u3 hR PL_3 TK_3 PQ_3 PO_3 PP_3 hy.1.1 hy.1.2 hy.2.2.2 (by omega)
    subst z23
    have X_23 := (f23.2 _ (by omega)).trans w3
    have SN_23 := sn_fr SN_3 f23 (by omega)
    have HI_23 := hi_fr HI_3 f23 (by omega)
    have TX_23 := tx_fr TX_3 f23 (by omega)
    have DS_23 := ds_fr DS_3 f23 (by omega)
    have F23 : Fr x 444 h h23 := fr_tr F3 (fr_in f23 (by omega) (by omega))
    refine xv (x_inv1 26 (as := [Value.int (zi y), Value.int (zi z)]) d_X7_plan_23 rfl c_7_214 rfl (Nat.le_of_ble_eq_true rfl) (Nat.le_of_ble_eq_true rfl) PL_3 (Nat.le_of_ble_eq_true rfl) (Nat.le_of_ble_eq_true rfl) rfl e23) ?_
    have qT := fT_r (l := l) (y := y) (z := z) hR
    have hp : ∀ i, 0 ≤ i → i < fT l y z → 0 ≤ p23 i ∧ p23 i < 48 := fun i a b => by
      have gg := G23 (by omega)
      have := grd_r hR hy.1.1 gg (i + 1).toNat (by omega)
      rw [Int.toNat_of_nonneg (by omega)] at this
      rw [if_neg (by omega), show i + 1 - 1 = i by omega] at this
      omega
    show Xv E q_m_X7_plan 26 [Value.ref x, Value.int (zi y), Value.int (zi z), Value.null] [Value.int (zi (fT l y z))] h23 Q
    refine xv (x_istore_n 27 d_X7_plan_26 rfl (Nat.le_of_ble_eq_true rfl)) ?_
    show Xv E q_m_X7_plan 27 [Value.ref x, Value.int (zi y), Value.int (zi z), Value.int (zi (fT l y z))] [] h23 Q
    refine xv (x_aload_n 28 d_X7_plan_27 rfl rfl) ?_
    refine xv (x_iload_n 29 d_X7_plan_28 rfl rfl) ?_
    refine xv (x_iload_n 30 d_X7_plan_29 rfl rfl) ?_
    obtain ⟨r30, h30, e30, z30, w30, u30, f30⟩ := S_X7_refusesFound (E := E) (y := y) (t := fT l y z) X_23 w23 hR d23 u23 hy.1.1 (by omega) hp
    subst z30
    have SN_30 := sn_fr SN_23 f30 (by omega)
    have HI_30 := hi_fr HI_23 f30 (by omega)
    have TX_30 := tx_fr TX_23 f30 (by omega)
    have DS_30 := ds_fr DS_23 f30 (by omega)
    have PL_30 := (f30.2 _ (by omega)).trans d23
    have TK_30 := al_fr m23 f30 (by omega)
    have PQ_30 := ai_fr x23 f30 (by omega)
    have PO_30 := ai_fr y23 f30 (by omega)
    have PP_30 := ai_fr u23 f30 (by omega)
    have F30 : Fr x 444 h h30 := fr_tr F23 (fr_in f30 (by omega) (by omega))
    refine xv (x_inv1 33 (as := [Value.int (zi y), Value.int (zi (fT l y z))]) d_X7_plan_30 rfl c_7_217 rfl (Nat.le_of_ble_eq_true rfl) (Nat.le_of_ble_eq_true rfl) X_23 (Nat.le_of_ble_eq_true rfl) (Nat.le_of_ble_eq_true rfl) rfl e30) ?_
    show Xv E q_m_X7_plan 33 [Value.ref x, Value.int (zi y), Value.int (zi z), Value.int (zi (fT l y z))] [Value.int (zi (bI (¬ (rfFnd l y (fT l y z) p23).1 = 0)))] h30 Q
    refine v_if_eq 44 36 d_X7_plan_33 rfl rfl (by have := bI_r (¬ (rfFnd l y (fT l y z) p23).1 = 0); omega) (by have := bI_r (¬ (rfFnd l y (fT l y z) p23).1 = 0); omega) (fun k33 => ?_) (fun k33 => ?_)
    · replace k33 := bI_0.mp k33
      have k1_ := Classical.not_not.mp k33
      rw [krn_0 k1_, kdn_0 k1_] at w30
      have k2_ : ¬ fT l y z = -1 := fun e_ => by
        unfold rfFnd at k1_
        rw [if_pos e_] at k1_
        exact absurd (show (10 : Int) = 0 from k1_) (by decide)
      refine xv (x_aload_n 45 d_X7_plan_44 rfl rfl) ?_
      refine xv (x_getfield 48 d_X7_plan_45 rfl f_7_22 (Nat.le_of_ble_eq_true rfl) (Nat.le_of_ble_eq_true rfl) (q_gf_of w30 rfl)) ?_
      refine xv (x_aload_n 49 d_X7_plan_48 rfl rfl) ?_
      refine xv (x_getfield 52 d_X7_plan_49 rfl f_7_12 (Nat.le_of_ble_eq_true rfl) (Nat.le_of_ble_eq_true rfl) (q_gf_of w30 rfl)) ?_
      obtain ⟨r52, h52, e52, z52, l52, i52, g52, f52⟩ := S_X1_keep (E := E) hR HI_30 u30 hn hc (by omega)
      subst z52
      have X_52 := (f52.2 _ (by omega)).trans w30
      have W_52 := wh_fr u30 f52 (by omega)
      have SN_52 := sn_fr SN_30 f52 (by omega)
      have TX_52 := tx_fr TX_30 f52 (by omega)
      have DS_52 := ds_fr DS_30 f52 (by omega)
      have PL_52 := (f52.2 _ (by omega)).trans PL_30
      have TK_52 := al_fr TK_30 f52 (by omega)
      have PQ_52 := ai_fr PQ_30 f52 (by omega)
      have PO_52 := ai_fr PO_30 f52 (by omega)
      have PP_52 := ai_fr PP_30 f52 (by omega)
      have F52 : Fr x 444 h h52 := fr_tr F30 (fr_in f52 (by omega) (by omega))
      refine xv (x_inv0 55 (as := [Value.ref (x + 1)]) d_X7_plan_52 rfl c_7_84 rfl (Nat.le_of_ble_eq_true rfl) (Nat.le_of_ble_eq_true rfl) HI_30.1 (Nat.le_of_ble_eq_true rfl) (Nat.le_of_ble_eq_true rfl) rfl e52) ?_
      show Xv E q_m_X7_plan 55 [Value.ref x, Value.int (zi y), Value.int (zi z), Value.int (zi (fT l y z))] [] h52 Q
      refine xv (x_aload_n 56 d_X7_plan_55 rfl rfl) ?_
      refine xv (x_getfield 59 d_X7_plan_56 rfl f_7_12 (Nat.le_of_ble_eq_true rfl) (Nat.le_of_ble_eq_true rfl) (q_gf_of X_52 rfl)) ?_
      refine xv (x_getfield 62 d_X7_plan_59 rfl f_7_131 (Nat.le_of_ble_eq_true rfl) (Nat.le_of_ble_eq_true rfl) (q_gf_of (wh_o W_52) rfl)) ?_
      refine xv (x_iload_n 63 d_X7_plan_62 rfl rfl) ?_
      refine xv (x_aaload 64 d_X7_plan_63 rfl (wh_rs W_52 (by omega) (by omega))) ?_
      refine xv (x_aload_n 65 d_X7_plan_64 rfl rfl) ?_
      refine xv (x_getfield 68 d_X7_plan_65 rfl f_7_45 (Nat.le_of_ble_eq_true rfl) (Nat.le_of_ble_eq_true rfl) (q_gf_of X_52 rfl)) ?_
      refine xv (x_getfield 71 d_X7_plan_68 rfl f_7_220 (Nat.le_of_ble_eq_true rfl) (Nat.le_of_ble_eq_true rfl) (q_gf_of PL_52 rfl)) ?_
      refine xv (x_iload_n 72 d_X7_plan_71 rfl rfl) ?_
      refine xv (x_aload_n 73 d_X7_plan_72 rfl rfl) ?_
      refine xv (x_getfield 76 d_X7_plan_73 rfl f_7_12 (Nat.le_of_ble_eq_true rfl) (Nat.le_of_ble_eq_true rfl) (q_gf_of X_52 rfl)) ?_
      refine xv (x_iload_n 77 d_X7_plan_76 rfl rfl) ?_
      refine xv (x_inv1 80 (as := [Value.int (zi y)]) d_X7_plan_77 rfl c_7_223 rfl (Nat.le_of_ble_eq_true rfl) (Nat.le_of_ble_eq_true rfl) (wh_o W_52) (Nat.le_of_ble_eq_true rfl) (Nat.le_of_ble_eq_true rfl) rfl (S_X6_stepCost W_52 hR hy.1.1)) ?_
      have qs := stp_r (r := y) hR
      show Xv E q_m_X7_plan 80 [Value.ref x, Value.int (zi y), Value.int (zi z), Value.int (zi (fT l y z))] [Value.int (zi (stp l y)), Value.int (zi (fT l y z)), Value.ref (x + 443), Value.ref (p y)] h52 Q
      obtain ⟨r80, h80, e80, z80, x80, y80⟩ := S_X5_follow (E := E) (wh_r (r := y) W_52 (by omega) (by omega)) PP_52 (by have := wh_pb (wh_pm W_52) hy.1.1.1 (show y < 6 by omega); omega) (t := fT l y z) (z := stp l y) (by omega)
      subst z80
      obtain ⟨w80, f80⟩ := wh_rw (r := y) W_52 (by omega) (by omega) x80 y80
      have X_80 := (f80.2 _ (by omega)).trans X_52
      have SN_80 := sn_fr SN_52 f80 (by omega)
      have HI_80 := hi_fr g52 f80 (by omega)
      have TX_80 := tx_fr TX_52 f80 (by omega)
      have DS_80 := ds_fr DS_52 f80 (by omega)
      have PL_80 := (f80.2 _ (by omega)).trans PL_52
      have TK_80 := al_fr TK_52 f80 (by omega)
      have PQ_80 := ai_fr PQ_52 f80 (by omega)
      have PO_80 := ai_fr PO_52 f80 (by omega)
      have PP_80 := ai_fr PP_52 f80 (by omega)
      have F80 : Fr x 444 h h80 := fr_tr F52 (fr_in f80 (by omega) (by omega))
      refine xv (x_inv0 83 (as := [Value.ref (x + 443), Value.int (zi (fT l y z)), Value.int (zi (stp l y))]) d_X7_plan_80 rfl c_7_226 rfl (Nat.le_of_ble_eq_true rfl) (Nat.le_of_ble_eq_true rfl) (wh_r W_52 (by omega) (by omega)).1 (Nat.le_of_ble_eq_true rfl) (Nat.le_of_ble_eq_true rfl) rfl e80) ?_
      show Xv E q_m_X7_plan 83 [Value.ref x, Value.int (zi y), Value.int (zi z), Value.int (zi (fT l y z))] [] h80 Q
      refine xv (x_iload_n 84 d_X7_plan_83 rfl rfl) ?_
      refine xv_r (x_ireturn d_X7_plan_84 rfl rfl) ?_
      refine hQ _ _ ⟨p23, fun _ => G23, ?_⟩
      have er : rfPln l y z p23 = rfFnd l y (fT l y z) p23 := if_neg (fun e_ => e_ k0_)
      rw [er]
      exact .inl ⟨k1_, rfl, _, _, _, ⟨rfl, rfl, l52, i52, rfl⟩, ⟨X_80, ⟨_, w80⟩, SN_80, HI_80, TX_80, DS_80, ⟨_, _, _, _, _, _, _, ⟨PL_80, TK_80⟩, PQ_80, PO_80, PP_80⟩⟩, F80⟩
    · replace k33 := bI_n0.mp k33
      refine xv_r (x_throw d_X7_plan_36 rfl rfl (Nat.le_of_ble_eq_true rfl) (Nat.le_of_ble_eq_true rfl) rfl rfl (Nat.le_of_ble_eq_true rfl)) ?_
      refine hQ _ _ ⟨p23, fun _ => G23, ?_⟩
      have er : rfPln l y z p23 = rfFnd l y (fT l y z) p23 := if_neg (fun e_ => e_ k0_)
      rw [er]
      rw [krn, if_neg k33, kdn, if_neg k33] at w30
      exact .inr ⟨k33, rfl, _, ⟨w30, ⟨_, u30⟩, SN_30, HI_30, TX_30, DS_30, ⟨_, _, _, _, _, _, _, ⟨PL_30, TK_30⟩, PQ_30, PO_30, PP_30⟩⟩, F30, rfl⟩
  · replace k6 := bI_n0.mp k6
    refine xv_r (x_throw d_X7_plan_9 rfl rfl (Nat.le_of_ble_eq_true rfl) (Nat.le_of_ble_eq_true rfl) rfl rfl (Nat.le_of_ble_eq_true rfl)) ?_
    refine hQ _ _ ⟨fun _ => 0, fun e_ => absurd e_ k6, ?_⟩
    have er : rfPln l y z (fun _ => 0) = rfGoa l y z := if_pos k6
    rw [er]
    rw [krn, if_neg k6, kdn, if_neg k6] at w3
    exact .inr ⟨k6, rfl, _, ⟨w3, ⟨_, u3⟩, SN_3, HI_3, TX_3, DS_3, ⟨_, _, _, _, _, _, _, ⟨PL_3, TK_3⟩, PQ_3, PO_3, PP_3⟩⟩, F3, rfl⟩
end CV6
