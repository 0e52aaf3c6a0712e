/-! the class itself: what is refused (printed by program) -/
abbrev CAo (h : q_H) (x : Nat) (hs fa kr kd_ : Int) : Prop := h.1 x = some (.inr (7, [.ref (x + 1), .ref (x + 39), .ref (x + 77), .ref (x + 383), .ref (x + 385), .ref (x + 439), .int (zi hs), .int (zi fa), .int (zi kr), .int (zi kd_)]))
def krn (rf : Int × Int) (k : Int) : Int := if rf.1 = 0 then k else rf.1
def kdn (rf : Int × Int) (k : Int) : Int := if rf.1 = 0 then k else rf.2
theorem krn_0 {rf : Int × Int} {k : Int} (h : rf.1 = 0) : krn rf k = k := if_pos h
theorem kdn_0 {rf : Int × Int} {k : Int} (h : rf.1 = 0) : kdn rf k = k := if_pos h
/-- why it is refused, with what; (0, 0): it isn't -/
noncomputable def rfRC (l : Int → Int) (c e : Int) : Int × Int := if lev l c e = -1 then (0, 0) else (5, lev l c e)
noncomputable def rfAdd (l : Int → Int) (c b : Int) : Int × Int := if ¬ isC l c then (1, 0) else if b < 0 ∨ 99 < b then (2, 0) else if 6 ≤ l 3 then (3, 0) else if ¬ ent l c then (4, c) else rfRC l c (-1)
def rfTak (l : Int → Int) (r : Int) : Int × Int := if ¬ isR l r then (1, 0) else if ¬ rb l r 2 = -1 then (7, rb l r 2) else (0, 0)
def rfLin (l : Int → Int) (c : Int) : Int × Int := if isC l c ∧ ¬ l (8 + c) = 0 then (12, c) else (0, 0)
def rfOrd (l : Int → Int) (d a b c : Int) : Int × Int := if ¬ isC l a ∨ ¬ (b = -1 ∨ isC l b) ∨ ¬ (c = -1 ∨ isC l c) then (1, 0) else if d < 0 ∨ 999 < d ∨ (b = -1 ∧ ¬ c = -1) then (2, 0) else if 10 ≤ l 4 then (3, 0) else if ¬ (rfLin l a).1 = 0 then rfLin l a else if ¬ (rfLin l b).1 = 0 then rfLin l b else rfLin l c
noncomputable def rfAsg (l : Int → Int) (r o : Int) : Int × Int := if ¬ isR l r ∨ ¬ isO l o then (1, 0) else if ¬ rb l r 2 = -1 then (7, rb l r 2) else if ¬ stc l o = 0 then (8, stc l o) else (0, 0)
def rfRel (l : Int → Int) (r : Int) : Int × Int := if ¬ isR l r then (1, 0) else if rb l r 2 = -1 then (7, -1) else (0, 0)
noncomputable def rfClo (l : Int → Int) (c : Int) : Int × Int := if ¬ isC l c then (1, 0) else if ¬ l (56 + c) = 0 then (13, 0) else if l (8 + c) = 1 then (4, c) else rfRC l c (-1)
def rfOpn (l : Int → Int) (c : Int) : Int × Int := if ¬ isC l c then (1, 0) else if l (56 + c) = 0 then (13, 0) else (0, 0)
def mst2 (w : Int) : Int := if w = 0 then 20 else if w = 1 then 3 else 30
def rfSet (w v : Int) : Int × Int := if w < 0 ∨ 3 ≤ w then (2, 0) else if v < 1 ∨ mst2 w < v then (2, 0) else (0, 0)
def rfGoa (l : Int → Int) (r g : Int) : Int × Int := if ¬ isR l r ∨ ¬ isC l g then (1, 0) else if 0 < rb l r 3 then (6, rb l r 3) else if rb l r 0 = g then (9, 0) else if ¬ ent l g then (4, g) else (0, 0)
noncomputable def rfCan (l : Int → Int) (r : Int) : Int × Int := if ¬ isR l r then (1, 0) else if rb l r 3 = 0 then (14, 0) else rfRC l (rb l r 0) r
def rfPas (t : Int) : Int × Int := if t < 1 ∨ 99 < t then (2, 0) else (0, 0)
section CU
variable {E : q_E} {h h' : q_H} {x w v a b t N k d : Nat} {l lo f g c q : Int → Int} {p p2 pk : Int → Nat} {hs fa kr kd_ : Int}
theorem S_X7_refuse (hX : CAo h x hs fa kr kd_) {y z : Int} : ∃ r_ h', q_cl E q_m_X7_refuse [Value.ref x, Value.int (zi y), Value.int (zi z)] h = some (r_, h') ∧ (r_ = .inl (some (.int (zi 1))) ∧ CAo h' x hs fa y z ∧ Fr x 1 h h') := by
  suffices K : ∀ Q : q_R → q_H → Prop, (∀ r_ h', (r_ = .inl (some (.int (zi 1))) ∧ CAo h' x hs fa y z ∧ Fr x 1 h h') → Q r_ h') → Xv E q_m_X7_refuse 0 [Value.ref x, Value.int (zi y), Value.int (zi z)] [] h Q from K _ fun _ _ p => p
  intro Q hQ
  refine xv (x_aload_n 1 d_X7_refuse_0 rfl rfl) ?_
  refine xv (x_iload_n 2 d_X7_refuse_1 rfl rfl) ?_
  obtain ⟨h2, e2, w2, f2⟩ := obj_pf (k := 8) (v := Value.int (zi y)) hX (Nat.le_of_ble_eq_true rfl)
  have F2 : Fr x 1 h h2 := fr_tr fr_rf (fr_in f2 (by omega) (by omega))
  replace w2 : h2.1 x = some (.inr (7, [Value.ref (x + 1), Value.ref (x + 39), Value.ref (x + 77), Value.ref (x + 383), Value.ref (x + 385), Value.ref (x + 439), Value.int (zi hs), Value.int (zi fa), Value.int (zi y), Value.int (zi kd_)])) := w2
  refine xv (x_putfield 5 d_X7_refuse_2 rfl f_7_57 (Nat.le_of_ble_eq_true rfl) e2 rfl rfl (fun e => absurd e (by decide))) ?_
  show Xv E q_m_X7_refuse 5 [Value.ref x, Value.int (zi y), Value.int (zi z)] [] h2 Q
  refine xv (x_aload_n 6 d_X7_refuse_5 rfl rfl) ?_
  refine xv (x_iload_n 7 d_X7_refuse_6 rfl rfl) ?_
  obtain ⟨h7, e7, w7, f7⟩ := obj_pf (k := 9) (v := Value.int (zi z)) w2 (Nat.le_of_ble_eq_true rfl)
  have F7 : Fr x 1 h h7 := fr_tr F2 (fr_in f7 (by omega) (by omega))
  replace w7 : h7.1 x = some (.inr (7, [Value.ref (x + 1), Value.ref (x + 39), Value.ref (x + 77), Value.ref (x + 383), Value.ref (x + 385), Value.ref (x + 439), Value.int (zi hs), Value.int (zi fa), Value.int (zi y), Value.int (zi z)])) := w7
  refine xv (x_putfield 10 d_X7_refuse_7 rfl f_7_60 (Nat.le_of_ble_eq_true rfl) e7 rfl rfl (fun e => absurd e (by decide))) ?_
  show Xv E q_m_X7_refuse 10 [Value.ref x, Value.int (zi y), Value.int (zi z)] [] h7 Q
  refine xv (x_iconst 11 d_X7_refuse_10 rfl) ?_
  refine xv_r (x_ireturn d_X7_refuse_11 rfl rfl) ?_
  exact hQ _ _ ⟨rfl, w7, F7⟩
theorem S_X7_refusesRobotsCell (hX : CAo h x hs fa kr kd_) (hW : WH h (x + 1) l p) (hR : RgC l) {y z : Int} (y0 : -2147483648 ≤ y) (y1 : y < 2147483648) (z0 : -2147483648 ≤ z) (z1 : z < 2147483648) : ∃ r_ h', q_cl E q_m_X7_refusesRobotsCell [Value.ref x, Value.int (zi y), Value.int (zi z)] h = some (r_, h') ∧ (r_ = .inl (some (.int (zi (bI (¬ (rfRC l y z).1 = 0))))) ∧ CAo h' x hs fa (krn (rfRC l y z) kr) (kdn (rfRC l y z) kd_) ∧ WH h' (x + 1) l p ∧ Fr x 1 h h') := by
  suffices K : ∀ Q : q_R → q_H → Prop, (∀ r_ h', (r_ = .inl (some (.int (zi (bI (¬ (rfRC l y z).1 = 0))))) ∧ CAo h' x hs fa (krn (rfRC l y z) kr) (kdn (rfRC l y z) kd_) ∧ WH h' (x + 1) l p ∧ Fr x 1 h h') → Q r_ h') → Xv E q_m_X7_refusesRobotsCell 0 [Value.ref x, Value.int (zi y), Value.int (zi z), Value.null] [] h Q from K _ fun _ _ p => p
  intro Q hQ
  obtain ⟨g0, g1, g2, g3, g4, gc, g5, g6, g7, gk, gl, gr, go⟩ := id hR
  refine xv (x_aload_n 1 d_X7_refusesRobotsCell_0 rfl rfl) ?_
  refine xv (x_getfield 4 d_X7_refusesRobotsCell_1 rfl f_7_12 (Nat.le_of_ble_eq_true rfl) (Nat.le_of_ble_eq_true rfl) (q_gf_of hX rfl)) ?_
  refine xv (x_iload_n 5 d_X7_refusesRobotsCell_4 rfl rfl) ?_
  refine xv (x_iload_n 6 d_X7_refusesRobotsCell_5 rfl rfl) ?_
  refine xv (x_inv1 9 (as := [Value.int (zi y), Value.int (zi z)]) d_X7_refusesRobotsCell_6 rfl c_7_361 rfl (Nat.le_of_ble_eq_true rfl) (Nat.le_of_ble_eq_true rfl) (wh_o hW) (Nat.le_of_ble_eq_true rfl) (Nat.le_of_ble_eq_true rfl) rfl (S_X6_lowestRobotEverIn hW hR (by omega) (by omega) (by omega) (by omega))) ?_
  have q6 := @lev_r l y z
  show Xv E q_m_X7_refusesRobotsCell 9 [Value.ref x, Value.int (zi y), Value.int (zi z), Value.null] [Value.int (zi (lev l y z))] h Q
  refine xv (x_istore_n 10 d_X7_refusesRobotsCell_9 rfl (Nat.le_of_ble_eq_true rfl)) ?_
  show Xv E q_m_X7_refusesRobotsCell 10 [Value.ref x, Value.int (zi y), Value.int (zi z), Value.int (zi (lev l y z))] [] h Q
  refine xv (x_iload_n 11 d_X7_refusesRobotsCell_10 rfl rfl) ?_
  refine xv (x_iconst 12 d_X7_refusesRobotsCell_11 rfl) ?_
  refine v_icmp_eq 28 15 d_X7_refusesRobotsCell_12 rfl rfl (by omega) (by omega) (by omega) (by omega) (fun k12 => ?_) (fun k12 => ?_)
  · refine xv (x_iconst 29 d_X7_refusesRobotsCell_28 rfl) ?_
    refine xv_r (x_ireturn d_X7_refusesRobotsCell_29 rfl rfl) ?_
    have er : rfRC l y z = (0, 0) := by unfold rfRC; repeat (first | rw [if_pos (by omega)] | rw [if_neg (by omega)])
    refine hQ _ _ ?_
    rw [er]
    exact ⟨by rw [bI_f (show ¬ ¬ ((0, 0) : Int × Int).1 = 0 from fun e_ => e_ rfl)], hX, hW, fr_rf⟩
  · refine xv (x_aload_n 16 d_X7_refusesRobotsCell_15 rfl rfl) ?_
    refine xv (x_iconst 17 d_X7_refusesRobotsCell_16 rfl) ?_
    refine xv (x_iload_n 18 d_X7_refusesRobotsCell_17 rfl rfl) ?_
    obtain ⟨r18, h18, e18, z18, w18, f18⟩ := S_X7_refuse (E := E) (y := 5) (z := lev l y z) hX
    subst z18
    have W_18 := wh_fr hW f18 (by omega)
    have F18 : Fr x 1 h h18 := fr_tr fr_rf (fr_in f18 (by omega) (by omega))
    refine xv (x_inv1 21 (as := [Value.int (zi 5), Value.int (zi (lev l y z))]) d_X7_refusesRobotsCell_18 rfl c_7_109 rfl (Nat.le_of_ble_eq_true rfl) (Nat.le_of_ble_eq_true rfl) hX (Nat.le_of_ble_eq_true rfl) (Nat.le_of_ble_eq_true rfl) rfl e18) ?_
    show Xv E q_m_X7_refusesRobotsCell 21 [Value.ref x, Value.int (zi y), Value.int (zi z), Value.int (zi (lev l y z))] [Value.int (zi 1)] h18 Q
    refine v_if_eq 28 24 d_X7_refusesRobotsCell_21 rfl rfl (by omega) (by omega) (fun k21 => ?_) (fun k21 => ?_)
    · omega
    · refine xv (x_iconst 25 d_X7_refusesRobotsCell_24 rfl) ?_
      refine xv (x_goto 29 d_X7_refusesRobotsCell_25 rfl) ?_
      refine xv_r (x_ireturn d_X7_refusesRobotsCell_29 rfl rfl) ?_
      have er : rfRC l y z = (5, lev l y z) := by unfold rfRC; repeat (first | rw [if_pos (by omega)] | rw [if_neg (by omega)])
      refine hQ _ _ ?_
      rw [er]
      exact ⟨by rw [bI_t (show ¬ ((5, lev l y z) : Int × Int).1 = 0 from fun e_ => absurd (show (5 : Int) = 0 from e_) (by decide))], w18, W_18, F18⟩
theorem S_X7_refusesAdd (hX : CAo h x hs fa kr kd_) (hW : WH h (x + 1) l p) (hR : RgC l) {y z : Int} (y0 : -2147483648 ≤ y) (y1 : y < 2147483648) (z0 : -2147483648 ≤ z) (z1 : z < 2147483648) : ∃ r_ h', q_cl E q_m_X7_refusesAdd [Value.ref x, Value.int (zi y), Value.int (zi z)] h = some (r_, h') ∧ (r_ = .inl (some (.int (zi (bI (¬ (rfAdd l y z).1 = 0))))) ∧ CAo h' x hs fa (krn (rfAdd l y z) kr) (kdn (rfAdd l y z) kd_) ∧ WH h' (x + 1) l p ∧ Fr x 1 h h') := by
  suffices K : ∀ Q : q_R → q_H → Prop, (∀ r_ h', (r_ = .inl (some (.int (zi (bI (¬ (rfAdd l y z).1 = 0))))) ∧ CAo h' x hs fa (krn (rfAdd l y z) kr) (kdn (rfAdd l y z) kd_) ∧ WH h' (x + 1) l p ∧ Fr x 1 h h') → Q r_ h') → Xv E q_m_X7_refusesAdd 0 [Value.ref x, Value.int (zi y), Value.int (zi z)] [] h Q from K _ fun _ _ p => p
  intro Q hQ
  obtain ⟨g0, g1, g2, g3, g4, gc, g5, g6, g7, gk, gl, gr, go⟩ := id hR
  refine xv (x_aload_n 1 d_X7_refusesAdd_0 rfl rfl) ?_
  refine xv (x_getfield 4 d_X7_refusesAdd_1 rfl f_7_12 (Nat.le_of_ble_eq_true rfl) (Nat.le_of_ble_eq_true rfl) (q_gf_of hX rfl)) ?_
  refine xv (x_iload_n 5 d_X7_refusesAdd_4 rfl rfl) ?_
  refine xv (x_inv1 8 (as := [Value.int (zi y)]) d_X7_refusesAdd_5 rfl c_7_105 rfl (Nat.le_of_ble_eq_true rfl) (Nat.le_of_ble_eq_true rfl) (wh_o hW) (Nat.le_of_ble_eq_true rfl) (Nat.le_of_ble_eq_true rfl) rfl (S_X6_isCell hW hR (by omega) (by omega))) ?_
  show Xv E q_m_X7_refusesAdd 8 [Value.ref x, Value.int (zi y), Value.int (zi z)] [Value.int (zi (bI (isC l y)))] h Q
  refine v_if_ne 18 11 d_X7_refusesAdd_8 rfl rfl (by have := bI_r (isC l y); omega) (by have := bI_r (isC l y); omega) (fun k8 => ?_) (fun k8 => ?_)
  · replace k8 := bI_n0.mp k8
    refine xv (x_iload_n 19 d_X7_refusesAdd_18 rfl rfl) ?_
    refine v_if_lt 28 22 d_X7_refusesAdd_19 rfl rfl (by omega) (by omega) (fun k19 => ?_) (fun k19 => ?_)
    · refine xv (x_aload_n 29 d_X7_refusesAdd_28 rfl rfl) ?_
      refine xv (x_iconst 30 d_X7_refusesAdd_29 rfl) ?_
      refine xv (x_iconst 31 d_X7_refusesAdd_30 rfl) ?_
      obtain ⟨r31, h31, e31, z31, w31, f31⟩ := S_X7_refuse (E := E) (y := 2) (z := 0) hX
      subst z31
      have W_31 := wh_fr hW f31 (by omega)
      have F31 : Fr x 1 h h31 := fr_tr fr_rf (fr_in f31 (by omega) (by omega))
      refine xv (x_inv1 34 (as := [Value.int (zi 2), Value.int (zi 0)]) d_X7_refusesAdd_31 rfl c_7_109 rfl (Nat.le_of_ble_eq_true rfl) (Nat.le_of_ble_eq_true rfl) hX (Nat.le_of_ble_eq_true rfl) (Nat.le_of_ble_eq_true rfl) rfl e31) ?_
      show Xv E q_m_X7_refusesAdd 34 [Value.ref x, Value.int (zi y), Value.int (zi z)] [Value.int (zi 1)] h31 Q
      refine xv_r (x_ireturn d_X7_refusesAdd_34 rfl rfl) ?_
      have er : rfAdd l y z = (2, 0) := by unfold rfAdd; repeat (first | rw [if_pos (by omega)] | rw [if_neg (by omega)])
      refine hQ _ _ ?_
      rw [er]
      exact ⟨by rw [bI_t (show ¬ ((2, 0) : Int × Int).1 = 0 from fun e_ => absurd (show (2 : Int) = 0 from e_) (by decide))], w31, W_31, F31⟩
    · refine xv (x_iload_n 23 d_X7_refusesAdd_22 rfl rfl) ?_
      refine xv (x_bipush 25 d_X7_refusesAdd_23 rfl rfl) ?_
      refine v_icmp_le 35 28 d_X7_refusesAdd_25 rfl rfl (by omega) (by omega) (by omega) (by omega) (fun k25 => ?_) (fun k25 => ?_)
      · refine xv (x_aload_n 36 d_X7_refusesAdd_35 rfl rfl) ?_
        refine xv (x_getfield 39 d_X7_refusesAdd_36 rfl f_7_12 (Nat.le_of_ble_eq_true rfl) (Nat.le_of_ble_eq_true rfl) (q_gf_of hX rfl)) ?_
        refine xv (x_getfield 42 d_X7_refusesAdd_39 rfl f_7_112 (Nat.le_of_ble_eq_true rfl) (Nat.le_of_ble_eq_true rfl) (q_gf_of (wh_o hW) rfl)) ?_
        refine xv (x_bipush 44 d_X7_refusesAdd_42 rfl rfl) ?_
        refine v_icmp_lt 54 47 d_X7_refusesAdd_44 rfl rfl (by omega) (by omega) (by omega) (by omega) (fun k44 => ?_) (fun k44 => ?_)
        · refine xv (x_aload_n 55 d_X7_refusesAdd_54 rfl rfl) ?_
          refine xv (x_getfield 58 d_X7_refusesAdd_55 rfl f_7_12 (Nat.le_of_ble_eq_true rfl) (Nat.le_of_ble_eq_true rfl) (q_gf_of hX rfl)) ?_
          refine xv (x_iload_n 59 d_X7_refusesAdd_58 rfl rfl) ?_
          refine xv (x_inv1 62 (as := [Value.int (zi y)]) d_X7_refusesAdd_59 rfl c_7_115 rfl (Nat.le_of_ble_eq_true rfl) (Nat.le_of_ble_eq_true rfl) (wh_o hW) (Nat.le_of_ble_eq_true rfl) (Nat.le_of_ble_eq_true rfl) rfl (S_X6_canEnter hW hR (by omega) (by omega))) ?_
          show Xv E q_m_X7_refusesAdd 62 [Value.ref x, Value.int (zi y), Value.int (zi z)] [Value.int (zi (bI (isC l y ∧ ent l y)))] h Q
          refine v_if_ne 72 65 d_X7_refusesAdd_62 rfl rfl (by have := bI_r (isC l y ∧ ent l y); omega) (by have := bI_r (isC l y ∧ ent l y); omega) (fun k62 => ?_) (fun k62 => ?_)
          · replace k62 := bI_n0.mp k62
            refine xv (x_aload_n 73 d_X7_refusesAdd_72 rfl rfl) ?_
            refine xv (x_iload_n 74 d_X7_refusesAdd_73 rfl rfl) ?_
            refine xv (x_iconst 75 d_X7_refusesAdd_74 rfl) ?_
            obtain ⟨r75, h75, e75, z75, w75, u75, f75⟩ := S_X7_refusesRobotsCell (E := E) (y := y) (z := (-1)) hX hW hR (by omega) (by omega) (by omega) (by omega)
            subst z75
            have F75 : Fr x 1 h h75 := fr_tr fr_rf (fr_in f75 (by omega) (by omega))
            refine xv (x_inv1 78 (as := [Value.int (zi y), Value.int (zi (-1))]) d_X7_refusesAdd_75 rfl c_7_118 rfl (Nat.le_of_ble_eq_true rfl) (Nat.le_of_ble_eq_true rfl) hX (Nat.le_of_ble_eq_true rfl) (Nat.le_of_ble_eq_true rfl) rfl e75) ?_
            show Xv E q_m_X7_refusesAdd 78 [Value.ref x, Value.int (zi y), Value.int (zi z)] [Value.int (zi (bI (¬ (rfRC l y (-1)).1 = 0)))] h75 Q
            refine xv_r (x_ireturn d_X7_refusesAdd_78 rfl nb_bI) ?_
            have er : rfAdd l y z = rfRC l y (-1) := by unfold rfAdd; repeat (first | rw [if_pos (by omega)] | rw [if_neg (by omega)])
            refine hQ _ _ ?_
            rw [er]
            exact ⟨rfl, w75, u75, F75⟩
          · replace k62 := bI_0.mp k62
            refine xv (x_aload_n 66 d_X7_refusesAdd_65 rfl rfl) ?_
            refine xv (x_iconst 67 d_X7_refusesAdd_66 rfl) ?_
            refine xv (x_iload_n 68 d_X7_refusesAdd_67 rfl rfl) ?_
            obtain ⟨r68, h68, e68, z68, w68, f68⟩ := S_X7_refuse (E := E) (y := 4) (z := y) hX
            subst z68
            have W_68 := wh_fr hW f68 (by omega)
            have F68 : Fr x 1 h h68 := fr_tr fr_rf (fr_in f68 (by omega) (by omega))
            refine xv (x_inv1 71 (as := [Value.int (zi 4), Value.int (zi y)]) d_X7_refusesAdd_68 rfl c_7_109 rfl (Nat.le_of_ble_eq_true rfl) (Nat.le_of_ble_eq_true rfl) hX (Nat.le_of_ble_eq_true rfl) (Nat.le_of_ble_eq_true rfl) rfl e68) ?_
            show Xv E q_m_X7_refusesAdd 71 [Value.ref x, Value.int (zi y), Value.int (zi z)] [Value.int (zi 1)] h68 Q
            refine xv_r (x_ireturn d_X7_refusesAdd_71 rfl rfl) ?_
            have er : rfAdd l y z = (4, y) := by unfold rfAdd; repeat (first | rw [if_pos (by omega)] | rw [if_neg (by omega)])
            refine hQ _ _ ?_
            rw [er]
            exact ⟨by rw [bI_t (show ¬ ((4, y) : Int × Int).1 = 0 from fun e_ => absurd (show (4 : Int) = 0 from e_) (by decide))], w68, W_68, F68⟩
        · refine xv (x_aload_n 48 d_X7_refusesAdd_47 rfl rfl) ?_
          refine xv (x_iconst 49 d_X7_refusesAdd_48 rfl) ?_
          refine xv (x_iconst 50 d_X7_refusesAdd_49 rfl) ?_
          obtain ⟨r50, h50, e50, z50, w50, f50⟩ := S_X7_refuse (E := E) (y := 3) (z := 0) hX
          subst z50
          have W_50 := wh_fr hW f50 (by omega)
          have F50 : Fr x 1 h h50 := fr_tr fr_rf (fr_in f50 (by omega) (by omega))
          refine xv (x_inv1 53 (as := [Value.int (zi 3), Value.int (zi 0)]) d_X7_refusesAdd_50 rfl c_7_109 rfl (Nat.le_of_ble_eq_true rfl) (Nat.le_of_ble_eq_true rfl) hX (Nat.le_of_ble_eq_true rfl) (Nat.le_of_ble_eq_true rfl) rfl e50) ?_
          show Xv E q_m_X7_refusesAdd 53 [Value.ref x, Value.int (zi y), Value.int (zi z)] [Value.int (zi 1)] h50 Q
          refine xv_r (x_ireturn d_X7_refusesAdd_53 rfl rfl) ?_
          have er : rfAdd l y z = (3, 0) := by unfold rfAdd; repeat (first | rw [if_pos (by omega)] | rw [if_neg (by omega)])
          refine hQ _ _ ?_
          rw [er]
          exact ⟨by rw [bI_t (show ¬ ((3, 0) : Int × Int).1 = 0 from fun e_ => absurd (show (3 : Int) = 0 from e_) (by decide))], w50, W_50, F50⟩
      · refine xv (x_aload_n 29 d_X7_refusesAdd_28 rfl rfl) ?_
        refine xv (x_iconst 30 d_X7_refusesAdd_29 rfl) ?_
        refine xv (x_iconst 31 d_X7_refusesAdd_30 rfl) ?_
        obtain ⟨r31, h31, e31, z31, w31, f31⟩ := S_X7_refuse (E := E) (y := 2) (z := 0) hX
        subst z31
        have W_31 := wh_fr hW f31 (by omega)
        have F31 : Fr x 1 h h31 := fr_tr fr_rf (fr_in f31 (by omega) (by omega))
        refine xv (x_inv1 34 (as := [Value.int (zi 2), Value.int (zi 0)]) d_X7_refusesAdd_31 rfl c_7_109 rfl (Nat.le_of_ble_eq_true rfl) (Nat.le_of_ble_eq_true rfl) hX (Nat.le_of_ble_eq_true rfl) (Nat.le_of_ble_eq_true rfl) rfl e31) ?_
        show Xv E q_m_X7_refusesAdd 34 [Value.ref x, Value.int (zi y), Value.int (zi z)] [Value.int (zi 1)] h31 Q
        refine xv_r (x_ireturn d_X7_refusesAdd_34 rfl rfl) ?_
        have er : rfAdd l y z = (2, 0) := by unfold rfAdd; repeat (first | rw [if_pos (by omega)] | rw [if_neg (by omega)])
        refine hQ _ _ ?_
        rw [er]
        exact ⟨by rw [bI_t (show ¬ ((2, 0) : Int × Int).1 = 0 from fun e_ => absurd (show (2 : Int) = 0 from e_) (by decide))], w31, W_31, F31⟩
  · replace k8 := bI_0.mp k8
    refine xv (x_aload_n 12 d_X7_refusesAdd_11 rfl rfl) ?_
    refine xv (x_iconst 13 d_X7_refusesAdd_12 rfl) ?_
    refine xv (x_iconst 14 d_X7_refusesAdd_13 rfl) ?_
    obtain ⟨r14, h14, e14, z14, w14, f14⟩ := S_X7_refuse (E := E) (y := 1) (z := 0) hX
    subst z14
    have W_14 := wh_fr hW f14 (by omega)
    have F14 : Fr x 1 h h14 := fr_tr fr_rf (fr_in f14 (by omega) (by omega))
    refine xv (x_inv1 17 (as := [Value.int (zi 1), Value.int (zi 0)]) d_X7_refusesAdd_14 rfl c_7_109 rfl (Nat.le_of_ble_eq_true rfl) (Nat.le_of_ble_eq_true rfl) hX (Nat.le_of_ble_eq_true rfl) (Nat.le_of_ble_eq_true rfl) rfl e14) ?_
    show Xv E q_m_X7_refusesAdd 17 [Value.ref x, Value.int (zi y), Value.int (zi z)] [Value.int (zi 1)] h14 Q
    refine xv_r (x_ireturn d_X7_refusesAdd_17 rfl rfl) ?_
    have er : rfAdd l y z = (1, 0) := by unfold rfAdd; repeat (first | rw [if_pos (by omega)] | rw [if_neg (by omega)])
    refine hQ _ _ ?_
    rw [er]
    exact ⟨by rw [bI_t (show ¬ ((1, 0) : Int × Int).1 = 0 from fun e_ => absurd (show (1 : Int) = 0 from e_) (by decide))], w14, W_14, F14⟩
theorem S_X7_refusesTakeOff (hX : CAo h x hs fa kr kd_) (hW : WH h (x + 1) l p) (hR : RgC l) {y : Int} (y0 : -2147483648 ≤ y) (y1 : y < 2147483648) : ∃ r_ h', q_cl E q_m_X7_refusesTakeOff [Value.ref x, Value.int (zi y)] h = some (r_, h') ∧ (r_ = .inl (some (.int (zi (bI (¬ (rfTak l y).1 = 0))))) ∧ CAo h' x hs fa (krn (rfTak l y) kr) (kdn (rfTak l y) kd_) ∧ WH h' (x + 1) l p ∧ Fr x 1 h h') := by
  suffices K : ∀ Q : q_R → q_H → Prop, (∀ r_ h', (r_ = .inl (some (.int (zi (bI (¬ (rfTak l y).1 = 0))))) ∧ CAo h' x hs fa (krn (rfTak l y) kr) (kdn (rfTak l y) kd_) ∧ WH h' (x + 1) l p ∧ Fr x 1 h h') → Q r_ h') → Xv E q_m_X7_refusesTakeOff 0 [Value.ref x, Value.int (zi y)] [] h Q from K _ fun _ _ p => p
  intro Q hQ
  obtain ⟨g0, g1, g2, g3, g4, gc, g5, g6, g7, gk, gl, gr, go⟩ := id hR
  refine xv (x_aload_n 1 d_X7_refusesTakeOff_0 rfl rfl) ?_
  refine xv (x_getfield 4 d_X7_refusesTakeOff_1 rfl f_7_12 (Nat.le_of_ble_eq_true rfl) (Nat.le_of_ble_eq_true rfl) (q_gf_of hX rfl)) ?_
  refine xv (x_iload_n 5 d_X7_refusesTakeOff_4 rfl rfl) ?_
  refine xv (x_inv1 8 (as := [Value.int (zi y)]) d_X7_refusesTakeOff_5 rfl c_7_128 rfl (Nat.le_of_ble_eq_true rfl) (Nat.le_of_ble_eq_true rfl) (wh_o hW) (Nat.le_of_ble_eq_true rfl) (Nat.le_of_ble_eq_true rfl) rfl (S_X6_isRobot hW hR (by omega) (by omega))) ?_
  show Xv E q_m_X7_refusesTakeOff 8 [Value.ref x, Value.int (zi y)] [Value.int (zi (bI (isR l y)))] h Q
  refine v_if_ne 18 11 d_X7_refusesTakeOff_8 rfl rfl (by have := bI_r (isR l y); omega) (by have := bI_r (isR l y); omega) (fun k8 => ?_) (fun k8 => ?_)
  · replace k8 := bI_n0.mp k8
    refine xv (x_aload_n 19 d_X7_refusesTakeOff_18 rfl rfl) ?_
    refine xv (x_getfield 22 d_X7_refusesTakeOff_19 rfl f_7_12 (Nat.le_of_ble_eq_true rfl) (Nat.le_of_ble_eq_true rfl) (q_gf_of hX rfl)) ?_
    refine xv (x_getfield 25 d_X7_refusesTakeOff_22 rfl f_7_131 (Nat.le_of_ble_eq_true rfl) (Nat.le_of_ble_eq_true rfl) (q_gf_of (wh_o hW) rfl)) ?_
    refine xv (x_iload_n 26 d_X7_refusesTakeOff_25 rfl rfl) ?_
    refine xv (x_aaload 27 d_X7_refusesTakeOff_26 rfl (wh_rs hW (by omega) (by omega))) ?_
    refine xv (x_getfield 30 d_X7_refusesTakeOff_27 rfl f_7_135 (Nat.le_of_ble_eq_true rfl) (Nat.le_of_ble_eq_true rfl) (q_gf_of (wh_r hW (by omega) (by omega)).1 rfl)) ?_
    have q27 := gr y (by omega) (by omega)
    refine xv (x_iconst 31 d_X7_refusesTakeOff_30 rfl) ?_
    refine v_icmp_eq 53 34 d_X7_refusesTakeOff_31 rfl rfl (by omega) (by omega) (by omega) (by omega) (fun k31 => ?_) (fun k31 => ?_)
    · refine xv (x_iconst 54 d_X7_refusesTakeOff_53 rfl) ?_
      refine xv_r (x_ireturn d_X7_refusesTakeOff_54 rfl rfl) ?_
      have er : rfTak l y = (0, 0) := by unfold rfTak; repeat (first | rw [if_pos (by omega)] | rw [if_neg (by omega)])
      refine hQ _ _ ?_
      rw [er]
      exact ⟨by rw [bI_f (show ¬ ¬ ((0, 0) : Int × Int).1 = 0 from fun e_ => e_ rfl)], hX, hW, fr_rf⟩
    · refine xv (x_aload_n 35 d_X7_refusesTakeOff_34 rfl rfl) ?_
      refine xv (x_bipush 37 d_X7_refusesTakeOff_35 rfl rfl) ?_
      refine xv (x_aload_n 38 d_X7_refusesTakeOff_37 rfl rfl) ?_
      refine xv (x_getfield 41 d_X7_refusesTakeOff_38 rfl f_7_12 (Nat.le_of_ble_eq_true rfl) (Nat.le_of_ble_eq_true rfl) (q_gf_of hX rfl)) ?_
      refine xv (x_getfield 44 d_X7_refusesTakeOff_41 rfl f_7_131 (Nat.le_of_ble_eq_true rfl) (Nat.le_of_ble_eq_true rfl) (q_gf_of (wh_o hW) rfl)) ?_
      refine xv (x_iload_n 45 d_X7_refusesTakeOff_44 rfl rfl) ?_
      refine xv (x_aaload 46 d_X7_refusesTakeOff_45 rfl (wh_rs hW (by omega) (by omega))) ?_
      refine xv (x_getfield 49 d_X7_refusesTakeOff_46 rfl f_7_135 (Nat.le_of_ble_eq_true rfl) (Nat.le_of_ble_eq_true rfl) (q_gf_of (wh_r hW (by omega) (by omega)).1 rfl)) ?_
      have q46 := gr y (by omega) (by omega)
      obtain ⟨r49, h49, e49, z49, w49, f49⟩ := S_X7_refuse (E := E) (y := 7) (z := rb l y 2) hX
      subst z49
      have W_49 := wh_fr hW f49 (by omega)
      have F49 : Fr x 1 h h49 := fr_tr fr_rf (fr_in f49 (by omega) (by omega))
      refine xv (x_inv1 52 (as := [Value.int (zi 7), Value.int (zi (rb l y 2))]) d_X7_refusesTakeOff_49 rfl c_7_109 rfl (Nat.le_of_ble_eq_true rfl) (Nat.le_of_ble_eq_true rfl) hX (Nat.le_of_ble_eq_true rfl) (Nat.le_of_ble_eq_true rfl) rfl e49) ?_
      show Xv E q_m_X7_refusesTakeOff 52 [Value.ref x, Value.int (zi y)] [Value.int (zi 1)] h49 Q
      refine xv_r (x_ireturn d_X7_refusesTakeOff_52 rfl rfl) ?_
      have er : rfTak l y = (7, rb l y 2) := by unfold rfTak; repeat (first | rw [if_pos (by omega)] | rw [if_neg (by omega)])
      refine hQ _ _ ?_
      rw [er]
      exact ⟨by rw [bI_t (show ¬ ((7, rb l y 2) : Int × Int).1 = 0 from fun e_ => absurd (show (7 : Int) = 0 from e_) (by decide))], w49, W_49, F49⟩
  · replace k8 := bI_0.mp k8
    refine xv (x_aload_n 12 d_X7_refusesTakeOff_11 rfl rfl) ?_
    refine xv (x_iconst 13 d_X7_refusesTakeOff_12 rfl) ?_
    refine xv (x_iconst 14 d_X7_refusesTakeOff_13 rfl) ?_
    obtain ⟨r14, h14, e14, z14, w14, f14⟩ := S_X7_refuse (E := E) (y := 1) (z := 0) hX
    subst z14
    have W_14 := wh_fr hW f14 (by omega)
    have F14 : Fr x 1 h h14 := fr_tr fr_rf (fr_in f14 (by omega) (by omega))
    refine xv (x_inv1 17 (as := [Value.int (zi 1), Value.int (zi 0)]) d_X7_refusesTakeOff_14 rfl c_7_109 rfl (Nat.le_of_ble_eq_true rfl) (Nat.le_of_ble_eq_true rfl) hX (Nat.le_of_ble_eq_true rfl) (Nat.le_of_ble_eq_true rfl) rfl e14) ?_
    show Xv E q_m_X7_refusesTakeOff 17 [Value.ref x, Value.int (zi y)] [Value.int (zi 1)] h14 Q
    refine xv_r (x_ireturn d_X7_refusesTakeOff_17 rfl rfl) ?_
    have er : rfTak l y = (1, 0) := by unfold rfTak; repeat (first | rw [if_pos (by omega)] | rw [if_neg (by omega)])
    refine hQ _ _ ?_
    rw [er]
    exact ⟨by rw [bI_t (show ¬ ((1, 0) : Int × Int).1 = 0 from fun e_ => absurd (show (1 : Int) = 0 from e_) (by decide))], w14, W_14, F14⟩
theorem S_X7_refusesLine (hX : CAo h x hs fa kr kd_) (hW : WH h (x + 1) l p) (hR : RgC l) {y : Int} (y0 : -2147483648 ≤ y) (y1 : y < 2147483648) : ∃ r_ h', q_cl E q_m_X7_refusesLine [Value.ref x, Value.int (zi y)] h = some (r_, h') ∧ (r_ = .inl (some (.int (zi (bI (¬ (rfLin l y).1 = 0))))) ∧ CAo h' x hs fa (krn (rfLin l y) kr) (kdn (rfLin l y) kd_) ∧ WH h' (x + 1) l p ∧ Fr x 1 h h') := by
  suffices K : ∀ Q : q_R → q_H → Prop, (∀ r_ h', (r_ = .inl (some (.int (zi (bI (¬ (rfLin l y).1 = 0))))) ∧ CAo h' x hs fa (krn (rfLin l y) kr) (kdn (rfLin l y) kd_) ∧ WH h' (x + 1) l p ∧ Fr x 1 h h') → Q r_ h') → Xv E q_m_X7_refusesLine 0 [Value.ref x, Value.int (zi y)] [] h Q from K _ fun _ _ p => p
  intro Q hQ
  obtain ⟨g0, g1, g2, g3, g4, gc, g5, g6, g7, gk, gl, gr, go⟩ := id hR
  refine xv (x_aload_n 1 d_X7_refusesLine_0 rfl rfl) ?_
  refine xv (x_getfield 4 d_X7_refusesLine_1 rfl f_7_12 (Nat.le_of_ble_eq_true rfl) (Nat.le_of_ble_eq_true rfl) (q_gf_of hX rfl)) ?_
  refine xv (x_iload_n 5 d_X7_refusesLine_4 rfl rfl) ?_
  refine xv (x_inv1 8 (as := [Value.int (zi y)]) d_X7_refusesLine_5 rfl c_7_105 rfl (Nat.le_of_ble_eq_true rfl) (Nat.le_of_ble_eq_true rfl) (wh_o hW) (Nat.le_of_ble_eq_true rfl) (Nat.le_of_ble_eq_true rfl) rfl (S_X6_isCell hW hR (by omega) (by omega))) ?_
  show Xv E q_m_X7_refusesLine 8 [Value.ref x, Value.int (zi y)] [Value.int (zi (bI (isC l y)))] h Q
  refine v_if_eq 31 11 d_X7_refusesLine_8 rfl rfl (by have := bI_r (isC l y); omega) (by have := bI_r (isC l y); omega) (fun k8 => ?_) (fun k8 => ?_)
  · replace k8 := bI_0.mp k8
    refine xv (x_iconst 32 d_X7_refusesLine_31 rfl) ?_
    refine xv_r (x_ireturn d_X7_refusesLine_32 rfl rfl) ?_
    have er : rfLin l y = (0, 0) := by unfold rfLin; repeat (first | rw [if_pos (by omega)] | rw [if_neg (by omega)])
    refine hQ _ _ ?_
    rw [er]
    exact ⟨by rw [bI_f (show ¬ ¬ ((0, 0) : Int × Int).1 = 0 from fun e_ => e_ rfl)], hX, hW, fr_rf⟩
  · replace k8 := bI_n0.mp k8
    refine xv (x_aload_n 12 d_X7_refusesLine_11 rfl rfl) ?_
    refine xv (x_getfield 15 d_X7_refusesLine_12 rfl f_7_12 (Nat.le_of_ble_eq_true rfl) (Nat.le_of_ble_eq_true rfl) (q_gf_of hX rfl)) ?_
    refine xv (x_getfield 18 d_X7_refusesLine_15 rfl f_7_157 (Nat.le_of_ble_eq_true rfl) (Nat.le_of_ble_eq_true rfl) (q_gf_of (wh_o hW) rfl)) ?_
    refine xv (x_iload_n 19 d_X7_refusesLine_18 rfl rfl) ?_
    refine xv (x_iaload 20 d_X7_refusesLine_19 rfl (ai_g (wh_k hW) (by omega) (by omega) (by decide))) ?_
    have q19 := gk y (by omega) (by omega)
    refine v_if_eq 31 23 d_X7_refusesLine_20 rfl rfl (by omega) (by omega) (fun k20 => ?_) (fun k20 => ?_)
    · refine xv (x_iconst 32 d_X7_refusesLine_31 rfl) ?_
      refine xv_r (x_ireturn d_X7_refusesLine_32 rfl rfl) ?_
      have er : rfLin l y = (0, 0) := by unfold rfLin; repeat (first | rw [if_pos (by omega)] | rw [if_neg (by omega)])
      refine hQ _ _ ?_
      rw [er]
      exact ⟨by rw [bI_f (show ¬ ¬ ((0, 0) : Int × Int).1 = 0 from fun e_ => e_ rfl)], hX, hW, fr_rf⟩
    · refine xv (x_aload_n 24 d_X7_refusesLine_23 rfl rfl) ?_
      refine xv (x_bipush 26 d_X7_refusesLine_24 rfl rfl) ?_
      refine xv (x_iload_n 27 d_X7_refusesLine_26 rfl rfl) ?_
      obtain ⟨r27, h27, e27, z27, w27, f27⟩ := S_X7_refuse (E := E) (y := 12) (z := y) hX
      subst z27
      have W_27 := wh_fr hW f27 (by omega)
      have F27 : Fr x 1 h h27 := fr_tr fr_rf (fr_in f27 (by omega) (by omega))
      refine xv (x_inv1 30 (as := [Value.int (zi 12), Value.int (zi y)]) d_X7_refusesLine_27 rfl c_7_109 rfl (Nat.le_of_ble_eq_true rfl) (Nat.le_of_ble_eq_true rfl) hX (Nat.le_of_ble_eq_true rfl) (Nat.le_of_ble_eq_true rfl) rfl e27) ?_
      show Xv E q_m_X7_refusesLine 30 [Value.ref x, Value.int (zi y)] [Value.int (zi 1)] h27 Q
      refine xv_r (x_ireturn d_X7_refusesLine_30 rfl rfl) ?_
      have er : rfLin l y = (12, y) := by unfold rfLin; repeat (first | rw [if_pos (by omega)] | rw [if_neg (by omega)])
      refine hQ _ _ ?_
      rw [er]
      exact ⟨by rw [bI_t (show ¬ ((12, y) : Int × Int).1 = 0 from fun e_ => absurd (show (12 : Int) = 0 from e_) (by decide))], w27, W_27, F27⟩
theorem S_X7_refusesOrder (hX : CAo h x hs fa kr kd_) (hW : WH h (x + 1) l p) (hR : RgC l) {d a_ b_ c_ : Int} (d0 : -2147483648 ≤ d) (d1 : d < 2147483648) (a_0 : -2147483648 ≤ a_) (a_1 : a_ < 2147483648) (b_0 : -2147483648 ≤ b_) (b_1 : b_ < 2147483648) (c_0 : -2147483648 ≤ c_) (c_1 : c_ < 2147483648) : ∃ r_ h', q_cl E q_m_X7_refusesOrder [Value.ref x, Value.int (zi d), Value.int (zi a_), Value.int (zi b_), Value.int (zi c_)] h = some (r_, h') ∧ (r_ = .inl (some (.int (zi (bI (¬ (rfOrd l d a_ b_ c_).1 = 0))))) ∧ CAo h' x hs fa (krn (rfOrd l d a_ b_ c_) kr) (kdn (rfOrd l d a_ b_ c_) kd_) ∧ WH h' (x + 1) l p ∧ Fr x 1 h h') := by
  suffices K : ∀ Q : q_R → q_H → Prop, (∀ r_ h', (r_ = .inl (some (.int (zi (bI (¬ (rfOrd l d a_ b_ c_).1 = 0))))) ∧ CAo h' x hs fa (krn (rfOrd l d a_ b_ c_) kr) (kdn (rfOrd l d a_ b_ c_) kd_) ∧ WH h' (x + 1) l p ∧ Fr x 1 h h') → Q r_ h') → Xv E q_m_X7_refusesOrder 0 [Value.ref x, Value.int (zi d), Value.int (zi a_), Value.int (zi b_), Value.int (zi c_)] [] h Q from K _ fun _ _ p => p
  intro Q hQ
  obtain ⟨g0, g1, g2, g3, g4, gc, g5, g6, g7, gk, gl, gr, go⟩ := id hR
  refine xv (x_aload_n 1 d_X7_refusesOrder_0 rfl rfl) ?_
  refine xv (x_getfield 4 d_X7_refusesOrder_1 rfl f_7_12 (Nat.le_of_ble_eq_true rfl) (Nat.le_of_ble_eq_true rfl) (q_gf_of hX rfl)) ?_
  refine xv (x_iload_n 5 d_X7_refusesOrder_4 rfl rfl) ?_
  refine xv (x_inv1 8 (as := [Value.int (zi a_)]) d_X7_refusesOrder_5 rfl c_7_105 rfl (Nat.le_of_ble_eq_true rfl) (Nat.le_of_ble_eq_true rfl) (wh_o hW) (Nat.le_of_ble_eq_true rfl) (Nat.le_of_ble_eq_true rfl) rfl (S_X6_isCell hW hR (by omega) (by omega))) ?_
  show Xv E q_m_X7_refusesOrder 8 [Value.ref x, Value.int (zi d), Value.int (zi a_), Value.int (zi b_), Value.int (zi c_)] [Value.int (zi (bI (isC l a_)))] h Q
  refine v_if_eq 34 11 d_X7_refusesOrder_8 rfl rfl (by have := bI_r (isC l a_); omega) (by have := bI_r (isC l a_); omega) (fun k8 => ?_) (fun k8 => ?_)
  · replace k8 := bI_0.mp k8
    refine xv (x_aload_n 35 d_X7_refusesOrder_34 rfl rfl) ?_
    refine xv (x_iconst 36 d_X7_refusesOrder_35 rfl) ?_
    refine xv (x_iconst 37 d_X7_refusesOrder_36 rfl) ?_
    obtain ⟨r37, h37, e37, z37, w37, f37⟩ := S_X7_refuse (E := E) (y := 1) (z := 0) hX
    subst z37
    have W_37 := wh_fr hW f37 (by omega)
    have F37 : Fr x 1 h h37 := fr_tr fr_rf (fr_in f37 (by omega) (by omega))
    refine xv (x_inv1 40 (as := [Value.int (zi 1), Value.int (zi 0)]) d_X7_refusesOrder_37 rfl c_7_109 rfl (Nat.le_of_ble_eq_true rfl) (Nat.le_of_ble_eq_true rfl) hX (Nat.le_of_ble_eq_true rfl) (Nat.le_of_ble_eq_true rfl) rfl e37) ?_
    show Xv E q_m_X7_refusesOrder 40 [Value.ref x, Value.int (zi d), Value.int (zi a_), Value.int (zi b_), Value.int (zi c_)] [Value.int (zi 1)] h37 Q
    refine xv_r (x_ireturn d_X7_refusesOrder_40 rfl rfl) ?_
    have er : rfOrd l d a_ b_ c_ = (1, 0) := by unfold rfOrd; repeat (first | rw [if_pos (by omega)] | rw [if_neg (by omega)])
    refine hQ _ _ ?_
    rw [er]
    exact ⟨by rw [bI_t (show ¬ ((1, 0) : Int × Int).1 = 0 from fun e_ => absurd (show (1 : Int) = 0 from e_) (by decide))], w37, W_37, F37⟩
  · replace k8 := bI_n0.mp k8
    refine xv (x_aload_n 12 d_X7_refusesOrder_11 rfl rfl) ?_
    refine xv (x_getfield 15 d_X7_refusesOrder_12 rfl f_7_12 (Nat.le_of_ble_eq_true rfl) (Nat.le_of_ble_eq_true rfl) (q_gf_of hX rfl)) ?_
    refine xv (x_iload_n 16 d_X7_refusesOrder_15 rfl rfl) ?_
    refine xv (x_inv1 19 (as := [Value.int (zi b_)]) d_X7_refusesOrder_16 rfl c_7_148 rfl (Nat.le_of_ble_eq_true rfl) (Nat.le_of_ble_eq_true rfl) (wh_o hW) (Nat.le_of_ble_eq_true rfl) (Nat.le_of_ble_eq_true rfl) rfl (S_X6_isCellOrNone hW hR (by omega) (by omega))) ?_
    show Xv E q_m_X7_refusesOrder 19 [Value.ref x, Value.int (zi d), Value.int (zi a_), Value.int (zi b_), Value.int (zi c_)] [Value.int (zi (bI (b_ = -1 ∨ isC l b_)))] h Q
    refine v_if_eq 34 22 d_X7_refusesOrder_19 rfl rfl (by have := bI_r (b_ = -1 ∨ isC l b_); omega) (by have := bI_r (b_ = -1 ∨ isC l b_); omega) (fun k19 => ?_) (fun k19 => ?_)
    · replace k19 := bI_0.mp k19
      refine xv (x_aload_n 35 d_X7_refusesOrder_34 rfl rfl) ?_
      refine xv (x_iconst 36 d_X7_refusesOrder_35 rfl) ?_
      refine xv (x_iconst 37 d_X7_refusesOrder_36 rfl) ?_
      obtain ⟨r37, h37, e37, z37, w37, f37⟩ := S_X7_refuse (E := E) (y := 1) (z := 0) hX
      subst z37
      have W_37 := wh_fr hW f37 (by omega)
      have F37 : Fr x 1 h h37 := fr_tr fr_rf (fr_in f37 (by omega) (by omega))
      refine xv (x_inv1 40 (as := [Value.int (zi 1), Value.int (zi 0)]) d_X7_refusesOrder_37 rfl c_7_109 rfl (Nat.le_of_ble_eq_true rfl) (Nat.le_of_ble_eq_true rfl) hX (Nat.le_of_ble_eq_true rfl) (Nat.le_of_ble_eq_true rfl) rfl e37) ?_
      show Xv E q_m_X7_refusesOrder 40 [Value.ref x, Value.int (zi d), Value.int (zi a_), Value.int (zi b_), Value.int (zi c_)] [Value.int (zi 1)] h37 Q
      refine xv_r (x_ireturn d_X7_refusesOrder_40 rfl rfl) ?_
      have er : rfOrd l d a_ b_ c_ = (1, 0) := by unfold rfOrd; repeat (first | rw [if_pos (by omega)] | rw [if_neg (by omega)])
      refine hQ _ _ ?_
      rw [er]
      exact ⟨by rw [bI_t (show ¬ ((1, 0) : Int × Int).1 = 0 from fun e_ => absurd (show (1 : Int) = 0 from e_) (by decide))], w37, W_37, F37⟩
    · replace k19 := bI_n0.mp k19
      refine xv (x_aload_n 23 d_X7_refusesOrder_22 rfl rfl) ?_
      refine xv (x_getfield 26 d_X7_refusesOrder_23 rfl f_7_12 (Nat.le_of_ble_eq_true rfl) (Nat.le_of_ble_eq_true rfl) (q_gf_of hX rfl)) ?_
      refine xv (x_iload 28 d_X7_refusesOrder_26 rfl rfl) ?_
      refine xv (x_inv1 31 (as := [Value.int (zi c_)]) d_X7_refusesOrder_28 rfl c_7_148 rfl (Nat.le_of_ble_eq_true rfl) (Nat.le_of_ble_eq_true rfl) (wh_o hW) (Nat.le_of_ble_eq_true rfl) (Nat.le_of_ble_eq_true rfl) rfl (S_X6_isCellOrNone hW hR (by omega) (by omega))) ?_
      show Xv E q_m_X7_refusesOrder 31 [Value.ref x, Value.int (zi d), Value.int (zi a_), Value.int (zi b_), Value.int (zi c_)] [Value.int (zi (bI (c_ = -1 ∨ isC l c_)))] h Q
      refine v_if_ne 41 34 d_X7_refusesOrder_31 rfl rfl (by have := bI_r (c_ = -1 ∨ isC l c_); omega) (by have := bI_r (c_ = -1 ∨ isC l c_); omega) (fun k31 => ?_) (fun k31 => ?_)
      · replace k31 := bI_n0.mp k31
        refine xv (x_iload_n 42 d_X7_refusesOrder_41 rfl rfl) ?_
        refine v_if_lt 63 45 d_X7_refusesOrder_42 rfl rfl (by omega) (by omega) (fun k42 => ?_) (fun k42 => ?_)
        · refine xv (x_aload_n 64 d_X7_refusesOrder_63 rfl rfl) ?_
          refine xv (x_iconst 65 d_X7_refusesOrder_64 rfl) ?_
          refine xv (x_iconst 66 d_X7_refusesOrder_65 rfl) ?_
          obtain ⟨r66, h66, e66, z66, w66, f66⟩ := S_X7_refuse (E := E) (y := 2) (z := 0) hX
          subst z66
          have W_66 := wh_fr hW f66 (by omega)
          have F66 : Fr x 1 h h66 := fr_tr fr_rf (fr_in f66 (by omega) (by omega))
          refine xv (x_inv1 69 (as := [Value.int (zi 2), Value.int (zi 0)]) d_X7_refusesOrder_66 rfl c_7_109 rfl (Nat.le_of_ble_eq_true rfl) (Nat.le_of_ble_eq_true rfl) hX (Nat.le_of_ble_eq_true rfl) (Nat.le_of_ble_eq_true rfl) rfl e66) ?_
          show Xv E q_m_X7_refusesOrder 69 [Value.ref x, Value.int (zi d), Value.int (zi a_), Value.int (zi b_), Value.int (zi c_)] [Value.int (zi 1)] h66 Q
          refine xv_r (x_ireturn d_X7_refusesOrder_69 rfl rfl) ?_
          have er : rfOrd l d a_ b_ c_ = (2, 0) := by unfold rfOrd; repeat (first | rw [if_pos (by omega)] | rw [if_neg (by omega)])
          refine hQ _ _ ?_
          rw [er]
          exact ⟨by rw [bI_t (show ¬ ((2, 0) : Int × Int).1 = 0 from fun e_ => absurd (show (2 : Int) = 0 from e_) (by decide))], w66, W_66, F66⟩
        · refine xv (x_iload_n 46 d_X7_refusesOrder_45 rfl rfl) ?_
          refine xv (x_sipush 49 d_X7_refusesOrder_46 rfl rfl) ?_
          refine v_icmp_gt 63 52 d_X7_refusesOrder_49 rfl rfl (by omega) (by omega) (by omega) (by omega) (fun k49 => ?_) (fun k49 => ?_)
          · refine xv (x_aload_n 64 d_X7_refusesOrder_63 rfl rfl) ?_
            refine xv (x_iconst 65 d_X7_refusesOrder_64 rfl) ?_
            refine xv (x_iconst 66 d_X7_refusesOrder_65 rfl) ?_
            obtain ⟨r66, h66, e66, z66, w66, f66⟩ := S_X7_refuse (E := E) (y := 2) (z := 0) hX
            subst z66
            have W_66 := wh_fr hW f66 (by omega)
            have F66 : Fr x 1 h h66 := fr_tr fr_rf (fr_in f66 (by omega) (by omega))
            refine xv (x_inv1 69 (as := [Value.int (zi 2), Value.int (zi 0)]) d_X7_refusesOrder_66 rfl c_7_109 rfl (Nat.le_of_ble_eq_true rfl) (Nat.le_of_ble_eq_true rfl) hX (Nat.le_of_ble_eq_true rfl) (Nat.le_of_ble_eq_true rfl) rfl e66) ?_
            show Xv E q_m_X7_refusesOrder 69 [Value.ref x, Value.int (zi d), Value.int (zi a_), Value.int (zi b_), Value.int (zi c_)] [Value.int (zi 1)] h66 Q
            refine xv_r (x_ireturn d_X7_refusesOrder_69 rfl rfl) ?_
            have er : rfOrd l d a_ b_ c_ = (2, 0) := by unfold rfOrd; repeat (first | rw [if_pos (by omega)] | rw [if_neg (by omega)])
            refine hQ _ _ ?_
            rw [er]
            exact ⟨by rw [bI_t (show ¬ ((2, 0) : Int × Int).1 = 0 from fun e_ => absurd (show (2 : Int) = 0 from e_) (by decide))], w66, W_66, F66⟩
          · refine xv (x_iload_n 53 d_X7_refusesOrder_52 rfl rfl) ?_
            refine xv (x_iconst 54 d_X7_refusesOrder_53 rfl) ?_
            refine v_icmp_ne 70 57 d_X7_refusesOrder_54 rfl rfl (by omega) (by omega) (by omega) (by omega) (fun k54 => ?_) (fun k54 => ?_)
            · refine xv (x_aload_n 71 d_X7_refusesOrder_70 rfl rfl) ?_
              refine xv (x_getfield 74 d_X7_refusesOrder_71 rfl f_7_12 (Nat.le_of_ble_eq_true rfl) (Nat.le_of_ble_eq_true rfl) (q_gf_of hX rfl)) ?_
              refine xv (x_getfield 77 d_X7_refusesOrder_74 rfl f_7_151 (Nat.le_of_ble_eq_true rfl) (Nat.le_of_ble_eq_true rfl) (q_gf_of (wh_o hW) rfl)) ?_
              refine xv (x_bipush 79 d_X7_refusesOrder_77 rfl rfl) ?_
              refine v_icmp_lt 89 82 d_X7_refusesOrder_79 rfl rfl (by omega) (by omega) (by omega) (by omega) (fun k79 => ?_) (fun k79 => ?_)
              · refine xv (x_aload_n 90 d_X7_refusesOrder_89 rfl rfl) ?_
                refine xv (x_iload_n 91 d_X7_refusesOrder_90 rfl rfl) ?_
                obtain ⟨r91, h91, e91, z91, w91, u91, f91⟩ := S_X7_refusesLine (E := E) (y := a_) hX hW hR (by omega) (by omega)
                subst z91
                have F91 : Fr x 1 h h91 := fr_tr fr_rf (fr_in f91 (by omega) (by omega))
                refine xv (x_inv1 94 (as := [Value.int (zi a_)]) d_X7_refusesOrder_91 rfl c_7_154 rfl (Nat.le_of_ble_eq_true rfl) (Nat.le_of_ble_eq_true rfl) hX (Nat.le_of_ble_eq_true rfl) (Nat.le_of_ble_eq_true rfl) rfl e91) ?_
                show Xv E q_m_X7_refusesOrder 94 [Value.ref x, Value.int (zi d), Value.int (zi a_), Value.int (zi b_), Value.int (zi c_)] [Value.int (zi (bI (¬ (rfLin l a_).1 = 0)))] h91 Q
                refine v_if_ne 114 97 d_X7_refusesOrder_94 rfl rfl (by have := bI_r (¬ (rfLin l a_).1 = 0); omega) (by have := bI_r (¬ (rfLin l a_).1 = 0); omega) (fun k94 => ?_) (fun k94 => ?_)
                · replace k94 := bI_n0.mp k94
                  refine xv (x_iconst 115 d_X7_refusesOrder_114 rfl) ?_
                  refine xv (x_goto 119 d_X7_refusesOrder_115 rfl) ?_
                  refine xv_r (x_ireturn d_X7_refusesOrder_119 rfl rfl) ?_
                  have er : rfOrd l d a_ b_ c_ = rfLin l a_ := by
                    unfold rfOrd
                    first | rw [if_neg (by omega), if_neg (by omega), if_neg (by omega), if_pos k94] | rw [if_neg (by omega), if_neg (by omega), if_neg (by omega), if_neg (fun z => z k94), if_pos k102] | rw [if_neg (by omega), if_neg (by omega), if_neg (by omega), if_neg (fun z => z k94), if_neg (fun z => z k102)]
                  refine hQ _ _ ?_
                  rw [er]
                  exact ⟨by rw [bI_t k94], w91, u91, F91⟩
                · replace k94 := bI_0.mp k94
                  replace k94 := Classical.not_not.mp k94
                  rw [krn_0 k94, kdn_0 k94] at w91
                  refine xv (x_aload_n 98 d_X7_refusesOrder_97 rfl rfl) ?_
                  refine xv (x_iload_n 99 d_X7_refusesOrder_98 rfl rfl) ?_
                  obtain ⟨r99, h99, e99, z99, w99, u99, f99⟩ := S_X7_refusesLine (E := E) (y := b_) w91 u91 hR (by omega) (by omega)
                  subst z99
                  have F99 : Fr x 1 h h99 := fr_tr F91 (fr_in f99 (by omega) (by omega))
                  refine xv (x_inv1 102 (as := [Value.int (zi b_)]) d_X7_refusesOrder_99 rfl c_7_154 rfl (Nat.le_of_ble_eq_true rfl) (Nat.le_of_ble_eq_true rfl) w91 (Nat.le_of_ble_eq_true rfl) (Nat.le_of_ble_eq_true rfl) rfl e99) ?_
                  show Xv E q_m_X7_refusesOrder 102 [Value.ref x, Value.int (zi d), Value.int (zi a_), Value.int (zi b_), Value.int (zi c_)] [Value.int (zi (bI (¬ (rfLin l b_).1 = 0)))] h99 Q
                  refine v_if_ne 114 105 d_X7_refusesOrder_102 rfl rfl (by have := bI_r (¬ (rfLin l b_).1 = 0); omega) (by have := bI_r (¬ (rfLin l b_).1 = 0); omega) (fun k102 => ?_) (fun k102 => ?_)
                  · replace k102 := bI_n0.mp k102
                    refine xv (x_iconst 115 d_X7_refusesOrder_114 rfl) ?_
                    refine xv (x_goto 119 d_X7_refusesOrder_115 rfl) ?_
                    refine xv_r (x_ireturn d_X7_refusesOrder_119 rfl rfl) ?_
                    have er : rfOrd l d a_ b_ c_ = rfLin l b_ := by
                      unfold rfOrd
                      first | rw [if_neg (by omega), if_neg (by omega), if_neg (by omega), if_pos k94] | rw [if_neg (by omega), if_neg (by omega), if_neg (by omega), if_neg (fun z => z k94), if_pos k102] | rw [if_neg (by omega), if_neg (by omega), if_neg (by omega), if_neg (fun z => z k94), if_neg (fun z => z k102)]
                    refine hQ _ _ ?_
                    rw [er]
                    exact ⟨by rw [bI_t k102], w99, u99, F99⟩
                  · replace k102 := bI_0.mp k102
                    replace k102 := Classical.not_not.mp k102
                    rw [krn_0 k102, kdn_0 k102] at w99
                    refine xv (x_aload_n 106 d_X7_refusesOrder_105 rfl rfl) ?_
                    refine xv (x_iload 108 d_X7_refusesOrder_106 rfl rfl) ?_
                    obtain ⟨r108, h108, e108, z108, w108, u108, f108⟩ := S_X7_refusesLine (E := E) (y := c_) w99 u99 hR (by omega) (by omega)
                    subst z108
                    have F108 : Fr x 1 h h108 := fr_tr F99 (fr_in f108 (by omega) (by omega))
                    refine xv (x_inv1 111 (as := [Value.int (zi c_)]) d_X7_refusesOrder_108 rfl c_7_154 rfl (Nat.le_of_ble_eq_true rfl) (Nat.le_of_ble_eq_true rfl) w99 (Nat.le_of_ble_eq_true rfl) (Nat.le_of_ble_eq_true rfl) rfl e108) ?_
                    show Xv E q_m_X7_refusesOrder 111 [Value.ref x, Value.int (zi d), Value.int (zi a_), Value.int (zi b_), Value.int (zi c_)] [Value.int (zi (bI (¬ (rfLin l c_).1 = 0)))] h108 Q
                    refine v_if_eq 118 114 d_X7_refusesOrder_111 rfl rfl (by have := bI_r (¬ (rfLin l c_).1 = 0); omega) (by have := bI_r (¬ (rfLin l c_).1 = 0); omega) (fun k111 => ?_) (fun k111 => ?_)
                    · replace k111 := bI_0.mp k111
                      replace k111 := Classical.not_not.mp k111
                      rw [krn_0 k111, kdn_0 k111] at w108
                      refine xv (x_iconst 119 d_X7_refusesOrder_118 rfl) ?_
                      refine xv_r (x_ireturn d_X7_refusesOrder_119 rfl rfl) ?_
                      have er : rfOrd l d a_ b_ c_ = rfLin l c_ := by
                        unfold rfOrd
                        rw [if_neg (by omega), if_neg (by omega), if_neg (by omega), if_neg (fun z => z k94), if_neg (fun z => z k102)]
                      refine hQ _ _ ?_
                      rw [er, krn_0 k111, kdn_0 k111]
                      exact ⟨by rw [bI_f (fun z => z k111)], w108, u108, F108⟩
                    · replace k111 := bI_n0.mp k111
                      refine xv (x_iconst 115 d_X7_refusesOrder_114 rfl) ?_
                      refine xv (x_goto 119 d_X7_refusesOrder_115 rfl) ?_
                      refine xv_r (x_ireturn d_X7_refusesOrder_119 rfl rfl) ?_
                      have er : rfOrd l d a_ b_ c_ = rfLin l c_ := by
                        unfold rfOrd
                        first | rw [if_neg (by omega), if_neg (by omega), if_neg (by omega), if_pos k94] | rw [if_neg (by omega), if_neg (by omega), if_neg (by omega), if_neg (fun z => z k94), if_pos k102] | rw [if_neg (by omega), if_neg (by omega), if_neg (by omega), if_neg (fun z => z k94), if_neg (fun z => z k102)]
                      refine hQ _ _ ?_
                      rw [er]
                      exact ⟨by rw [bI_t k111], w108, u108, F108⟩
              · refine xv (x_aload_n 83 d_X7_refusesOrder_82 rfl rfl) ?_
                refine xv (x_iconst 84 d_X7_refusesOrder_83 rfl) ?_
                refine xv (x_iconst 85 d_X7_refusesOrder_84 rfl) ?_
                obtain ⟨r85, h85, e85, z85, w85, f85⟩ := S_X7_refuse (E := E) (y := 3) (z := 0) hX
                subst z85
                have W_85 := wh_fr hW f85 (by omega)
                have F85 : Fr x 1 h h85 := fr_tr fr_rf (fr_in f85 (by omega) (by omega))
                refine xv (x_inv1 88 (as := [Value.int (zi 3), Value.int (zi 0)]) d_X7_refusesOrder_85 rfl c_7_109 rfl (Nat.le_of_ble_eq_true rfl) (Nat.le_of_ble_eq_true rfl) hX (Nat.le_of_ble_eq_true rfl) (Nat.le_of_ble_eq_true rfl) rfl e85) ?_
                show Xv E q_m_X7_refusesOrder 88 [Value.ref x, Value.int (zi d), Value.int (zi a_), Value.int (zi b_), Value.int (zi c_)] [Value.int (zi 1)] h85 Q
                refine xv_r (x_ireturn d_X7_refusesOrder_88 rfl rfl) ?_
                have er : rfOrd l d a_ b_ c_ = (3, 0) := by unfold rfOrd; repeat (first | rw [if_pos (by omega)] | rw [if_neg (by omega)])
                refine hQ _ _ ?_
                rw [er]
                exact ⟨by rw [bI_t (show ¬ ((3, 0) : Int × Int).1 = 0 from fun e_ => absurd (show (3 : Int) = 0 from e_) (by decide))], w85, W_85, F85⟩
            · refine xv (x_iload 59 d_X7_refusesOrder_57 rfl rfl) ?_
              refine xv (x_iconst 60 d_X7_refusesOrder_59 rfl) ?_
              refine v_icmp_eq 70 63 d_X7_refusesOrder_60 rfl rfl (by omega) (by omega) (by omega) (by omega) (fun k60 => ?_) (fun k60 => ?_)
              · refine xv (x_aload_n 71 d_X7_refusesOrder_70 rfl rfl) ?_
                refine xv (x_getfield 74 d_X7_refusesOrder_71 rfl f_7_12 (Nat.le_of_ble_eq_true rfl) (Nat.le_of_ble_eq_true rfl) (q_gf_of hX rfl)) ?_
                refine xv (x_getfield 77 d_X7_refusesOrder_74 rfl f_7_151 (Nat.le_of_ble_eq_true rfl) (Nat.le_of_ble_eq_true rfl) (q_gf_of (wh_o hW) rfl)) ?_
                refine xv (x_bipush 79 d_X7_refusesOrder_77 rfl rfl) ?_
                refine v_icmp_lt 89 82 d_X7_refusesOrder_79 rfl rfl (by omega) (by omega) (by omega) (by omega) (fun k79 => ?_) (fun k79 => ?_)
                · refine xv (x_aload_n 90 d_X7_refusesOrder_89 rfl rfl) ?_
                  refine xv (x_iload_n 91 d_X7_refusesOrder_90 rfl rfl) ?_
                  obtain ⟨r91, h91, e91, z91, w91, u91, f91⟩ := S_X7_refusesLine (E := E) (y := a_) hX hW hR (by omega) (by omega)
                  subst z91
                  have F91 : Fr x 1 h h91 := fr_tr fr_rf (fr_in f91 (by omega) (by omega))
                  refine xv (x_inv1 94 (as := [Value.int (zi a_)]) d_X7_refusesOrder_91 rfl c_7_154 rfl (Nat.le_of_ble_eq_true rfl) (Nat.le_of_ble_eq_true rfl) hX (Nat.le_of_ble_eq_true rfl) (Nat.le_of_ble_eq_true rfl) rfl e91) ?_
                  show Xv E q_m_X7_refusesOrder 94 [Value.ref x, Value.int (zi d), Value.int (zi a_), Value.int (zi b_), Value.int (zi c_)] [Value.int (zi (bI (¬ (rfLin l a_).1 = 0)))] h91 Q
                  refine v_if_ne 114 97 d_X7_refusesOrder_94 rfl rfl (by have := bI_r (¬ (rfLin l a_).1 = 0); omega) (by have := bI_r (¬ (rfLin l a_).1 = 0); omega) (fun k94 => ?_) (fun k94 => ?_)
                  · replace k94 := bI_n0.mp k94
                    refine xv (x_iconst 115 d_X7_refusesOrder_114 rfl) ?_
                    refine xv (x_goto 119 d_X7_refusesOrder_115 rfl) ?_
                    refine xv_r (x_ireturn d_X7_refusesOrder_119 rfl rfl) ?_
                    have er : rfOrd l d a_ b_ c_ = rfLin l a_ := by
                      unfold rfOrd
                      first | rw [if_neg (by omega), if_neg (by omega), if_neg (by omega), if_pos k94] | rw [if_neg (by omega), if_neg (by omega), if_neg (by omega), if_neg (fun z => z k94), if_pos k102] | rw [if_neg (by omega), if_neg (by omega), if_neg (by omega), if_neg (fun z => z k94), if_neg (fun z => z k102)]
                    refine hQ _ _ ?_
                    rw [er]
                    exact ⟨by rw [bI_t k94], w91, u91, F91⟩
                  · replace k94 := bI_0.mp k94
                    replace k94 := Classical.not_not.mp k94
                    rw [krn_0 k94, kdn_0 k94] at w91
                    refine xv (x_aload_n 98 d_X7_refusesOrder_97 rfl rfl) ?_
                    refine xv (x_iload_n 99 d_X7_refusesOrder_98 rfl rfl) ?_
                    obtain ⟨r99, h99, e99, z99, w99, u99, f99⟩ := S_X7_refusesLine (E := E) (y := b_) w91 u91 hR (by omega) (by omega)
                    subst z99
                    have F99 : Fr x 1 h h99 := fr_tr F91 (fr_in f99 (by omega) (by omega))
                    refine xv (x_inv1 102 (as := [Value.int (zi b_)]) d_X7_refusesOrder_99 rfl c_7_154 rfl (Nat.le_of_ble_eq_true rfl) (Nat.le_of_ble_eq_true rfl) w91 (Nat.le_of_ble_eq_true rfl) (Nat.le_of_ble_eq_true rfl) rfl e99) ?_
                    show Xv E q_m_X7_refusesOrder 102 [Value.ref x, Value.int (zi d), Value.int (zi a_), Value.int (zi b_), Value.int (zi c_)] [Value.int (zi (bI (¬ (rfLin l b_).1 = 0)))] h99 Q
                    refine v_if_ne 114 105 d_X7_refusesOrder_102 rfl rfl (by have := bI_r (¬ (rfLin l b_).1 = 0); omega) (by have := bI_r (¬ (rfLin l b_).1 = 0); omega) (fun k102 => ?_) (fun k102 => ?_)
                    · replace k102 := bI_n0.mp k102
                      refine xv (x_iconst 115 d_X7_refusesOrder_114 rfl) ?_
                      refine xv (x_goto 119 d_X7_refusesOrder_115 rfl) ?_
                      refine xv_r (x_ireturn d_X7_refusesOrder_119 rfl rfl) ?_
                      have er : rfOrd l d a_ b_ c_ = rfLin l b_ := by
                        unfold rfOrd
                        first | rw [if_neg (by omega), if_neg (by omega), if_neg (by omega), if_pos k94] | rw [if_neg (by omega), if_neg (by omega), if_neg (by omega), if_neg (fun z => z k94), if_pos k102] | rw [if_neg (by omega), if_neg (by omega), if_neg (by omega), if_neg (fun z => z k94), if_neg (fun z => z k102)]
                      refine hQ _ _ ?_
                      rw [er]
                      exact ⟨by rw [bI_t k102], w99, u99, F99⟩
                    · replace k102 := bI_0.mp k102
                      replace k102 := Classical.not_not.mp k102
                      rw [krn_0 k102, kdn_0 k102] at w99
                      refine xv (x_aload_n 106 d_X7_refusesOrder_105 rfl rfl) ?_
                      refine xv (x_iload 108 d_X7_refusesOrder_106 rfl rfl) ?_
                      obtain ⟨r108, h108, e108, z108, w108, u108, f108⟩ := S_X7_refusesLine (E := E) (y := c_) w99 u99 hR (by omega) (by omega)
                      subst z108
                      have F108 : Fr x 1 h h108 := fr_tr F99 (fr_in f108 (by omega) (by omega))
                      refine xv (x_inv1 111 (as := [Value.int (zi c_)]) d_X7_refusesOrder_108 rfl c_7_154 rfl (Nat.le_of_ble_eq_true rfl) (Nat.le_of_ble_eq_true rfl) w99 (Nat.le_of_ble_eq_true rfl) (Nat.le_of_ble_eq_true rfl) rfl e108) ?_
                      show Xv E q_m_X7_refusesOrder 111 [Value.ref x, Value.int (zi d), Value.int (zi a_), Value.int (zi b_), Value.int (zi c_)] [Value.int (zi (bI (¬ (rfLin l c_).1 = 0)))] h108 Q
                      refine v_if_eq 118 114 d_X7_refusesOrder_111 rfl rfl (by have := bI_r (¬ (rfLin l c_).1 = 0); omega) (by have := bI_r (¬ (rfLin l c_).1 = 0); omega) (fun k111 => ?_) (fun k111 => ?_)
                      · replace k111 := bI_0.mp k111
                        replace k111 := Classical.not_not.mp k111
                        rw [krn_0 k111, kdn_0 k111] at w108
                        refine xv (x_iconst 119 d_X7_refusesOrder_118 rfl) ?_
                        refine xv_r (x_ireturn d_X7_refusesOrder_119 rfl rfl) ?_
                        have er : rfOrd l d a_ b_ c_ = rfLin l c_ := by
                          unfold rfOrd
                          rw [if_neg (by omega), if_neg (by omega), if_neg (by omega), if_neg (fun z => z k94), if_neg (fun z => z k102)]
                        refine hQ _ _ ?_
                        rw [er, krn_0 k111, kdn_0 k111]
                        exact ⟨by rw [bI_f (fun z => z k111)], w108, u108, F108⟩
                      · replace k111 := bI_n0.mp k111
                        refine xv (x_iconst 115 d_X7_refusesOrder_114 rfl) ?_
                        refine xv (x_goto 119 d_X7_refusesOrder_115 rfl) ?_
                        refine xv_r (x_ireturn d_X7_refusesOrder_119 rfl rfl) ?_
                        have er : rfOrd l d a_ b_ c_ = rfLin l c_ := by
                          unfold rfOrd
                          first | rw [if_neg (by omega), if_neg (by omega), if_neg (by omega), if_pos k94] | rw [if_neg (by omega), if_neg (by omega), if_neg (by omega), if_neg (fun z => z k94), if_pos k102] | rw [if_neg (by omega), if_neg (by omega), if_neg (by omega), if_neg (fun z => z k94), if_neg (fun z => z k102)]
                        refine hQ _ _ ?_
                        rw [er]
                        exact ⟨by rw [bI_t k111], w108, u108, F108⟩
                · refine xv (x_aload_n 83 d_X7_refusesOrder_82 rfl rfl) ?_
                  refine xv (x_iconst 84 d_X7_refusesOrder_83 rfl) ?_
                  refine xv (x_iconst 85 d_X7_refusesOrder_84 rfl) ?_
                  obtain ⟨r85, h85, e85, z85, w85, f85⟩ := S_X7_refuse (E := E) (y := 3) (z := 0) hX
                  subst z85
                  have W_85 := wh_fr hW f85 (by omega)
                  have F85 : Fr x 1 h h85 := fr_tr fr_rf (fr_in f85 (by omega) (by omega))
                  refine xv (x_inv1 88 (as := [Value.int (zi 3), Value.int (zi 0)]) d_X7_refusesOrder_85 rfl c_7_109 rfl (Nat.le_of_ble_eq_true rfl) (Nat.le_of_ble_eq_true rfl) hX (Nat.le_of_ble_eq_true rfl) (Nat.le_of_ble_eq_true rfl) rfl e85) ?_
                  show Xv E q_m_X7_refusesOrder 88 [Value.ref x, Value.int (zi d), Value.int (zi a_), Value.int (zi b_), Value.int (zi c_)] [Value.int (zi 1)] h85 Q
                  refine xv_r (x_ireturn d_X7_refusesOrder_88 rfl rfl) ?_
                  have er : rfOrd l d a_ b_ c_ = (3, 0) := by unfold rfOrd; repeat (first | rw [if_pos (by omega)] | rw [if_neg (by omega)])
                  refine hQ _ _ ?_
                  rw [er]
                  exact ⟨by rw [bI_t (show ¬ ((3, 0) : Int × Int).1 = 0 from fun e_ => absurd (show (3 : Int) = 0 from e_) (by decide))], w85, W_85, F85⟩
              · refine xv (x_aload_n 64 d_X7_refusesOrder_63 rfl rfl) ?_
                refine xv (x_iconst 65 d_X7_refusesOrder_64 rfl) ?_
                refine xv (x_iconst 66 d_X7_refusesOrder_65 rfl) ?_
                obtain ⟨r66, h66, e66, z66, w66, f66⟩ := S_X7_refuse (E := E) (y := 2) (z := 0) hX
                subst z66
                have W_66 := wh_fr hW f66 (by omega)
                have F66 : Fr x 1 h h66 := fr_tr fr_rf (fr_in f66 (by omega) (by omega))
                refine xv (x_inv1 69 (as := [Value.int (zi 2), Value.int (zi 0)]) d_X7_refusesOrder_66 rfl c_7_109 rfl (Nat.le_of_ble_eq_true rfl) (Nat.le_of_ble_eq_true rfl) hX (Nat.le_of_ble_eq_true rfl) (Nat.le_of_ble_eq_true rfl) rfl e66) ?_
                show Xv E q_m_X7_refusesOrder 69 [Value.ref x, Value.int (zi d), Value.int (zi a_), Value.int (zi b_), Value.int (zi c_)] [Value.int (zi 1)] h66 Q
                refine xv_r (x_ireturn d_X7_refusesOrder_69 rfl rfl) ?_
                have er : rfOrd l d a_ b_ c_ = (2, 0) := by unfold rfOrd; repeat (first | rw [if_pos (by omega)] | rw [if_neg (by omega)])
                refine hQ _ _ ?_
                rw [er]
                exact ⟨by rw [bI_t (show ¬ ((2, 0) : Int × Int).1 = 0 from fun e_ => absurd (show (2 : Int) = 0 from e_) (by decide))], w66, W_66, F66⟩
      · replace k31 := bI_0.mp k31
        refine xv (x_aload_n 35 d_X7_refusesOrder_34 rfl rfl) ?_
        refine xv (x_iconst 36 d_X7_refusesOrder_35 rfl) ?_
        refine xv (x_iconst 37 d_X7_refusesOrder_36 rfl) ?_
        obtain ⟨r37, h37, e37, z37, w37, f37⟩ := S_X7_refuse (E := E) (y := 1) (z := 0) hX
        subst z37
        have W_37 := wh_fr hW f37 (by omega)
        have F37 : Fr x 1 h h37 := fr_tr fr_rf (fr_in f37 (by omega) (by omega))
        refine xv (x_inv1 40 (as := [Value.int (zi 1), Value.int (zi 0)]) d_X7_refusesOrder_37 rfl c_7_109 rfl (Nat.le_of_ble_eq_true rfl) (Nat.le_of_ble_eq_true rfl) hX (Nat.le_of_ble_eq_true rfl) (Nat.le_of_ble_eq_true rfl) rfl e37) ?_
        show Xv E q_m_X7_refusesOrder 40 [Value.ref x, Value.int (zi d), Value.int (zi a_), Value.int (zi b_), Value.int (zi c_)] [Value.int (zi 1)] h37 Q
        refine xv_r (x_ireturn d_X7_refusesOrder_40 rfl rfl) ?_
        have er : rfOrd l d a_ b_ c_ = (1, 0) := by unfold rfOrd; repeat (first | rw [if_pos (by omega)] | rw [if_neg (by omega)])
        refine hQ _ _ ?_
        rw [er]
        exact ⟨by rw [bI_t (show ¬ ((1, 0) : Int × Int).1 = 0 from fun e_ => absurd (show (1 : Int) = 0 from e_) (by decide))], w37, W_37, F37⟩
theorem S_X7_refusesAssign (hX : CAo h x hs fa kr kd_) (hW : WH h (x + 1) l p) (hR : RgC l) {y z : Int} (y0 : -2147483648 ≤ y) (y1 : y < 2147483648) (z0 : -2147483648 ≤ z) (z1 : z < 2147483648) : ∃ r_ h', q_cl E q_m_X7_refusesAssign [Value.ref x, Value.int (zi y), Value.int (zi z)] h = some (r_, h') ∧ (r_ = .inl (some (.int (zi (bI (¬ (rfAsg l y z).1 = 0))))) ∧ CAo h' x hs fa (krn (rfAsg l y z) kr) (kdn (rfAsg l y z) kd_) ∧ WH h' (x + 1) l p ∧ Fr x 1 h h') := by
  suffices K : ∀ Q : q_R → q_H → Prop, (∀ r_ h', (r_ = .inl (some (.int (zi (bI (¬ (rfAsg l y z).1 = 0))))) ∧ CAo h' x hs fa (krn (rfAsg l y z) kr) (kdn (rfAsg l y z) kd_) ∧ WH h' (x + 1) l p ∧ Fr x 1 h h') → Q r_ h') → Xv E q_m_X7_refusesAssign 0 [Value.ref x, Value.int (zi y), Value.int (zi z)] [] h Q from K _ fun _ _ p => p
  intro Q hQ
  obtain ⟨g0, g1, g2, g3, g4, gc, g5, g6, g7, gk, gl, gr, go⟩ := id hR
  refine xv (x_aload_n 1 d_X7_refusesAssign_0 rfl rfl) ?_
  refine xv (x_getfield 4 d_X7_refusesAssign_1 rfl f_7_12 (Nat.le_of_ble_eq_true rfl) (Nat.le_of_ble_eq_true rfl) (q_gf_of hX rfl)) ?_
  refine xv (x_iload_n 5 d_X7_refusesAssign_4 rfl rfl) ?_
  refine xv (x_inv1 8 (as := [Value.int (zi y)]) d_X7_refusesAssign_5 rfl c_7_128 rfl (Nat.le_of_ble_eq_true rfl) (Nat.le_of_ble_eq_true rfl) (wh_o hW) (Nat.le_of_ble_eq_true rfl) (Nat.le_of_ble_eq_true rfl) rfl (S_X6_isRobot hW hR (by omega) (by omega))) ?_
  show Xv E q_m_X7_refusesAssign 8 [Value.ref x, Value.int (zi y), Value.int (zi z)] [Value.int (zi (bI (isR l y)))] h Q
  refine v_if_eq 22 11 d_X7_refusesAssign_8 rfl rfl (by have := bI_r (isR l y); omega) (by have := bI_r (isR l y); omega) (fun k8 => ?_) (fun k8 => ?_)
  · replace k8 := bI_0.mp k8
    refine xv (x_aload_n 23 d_X7_refusesAssign_22 rfl rfl) ?_
    refine xv (x_iconst 24 d_X7_refusesAssign_23 rfl) ?_
    refine xv (x_iconst 25 d_X7_refusesAssign_24 rfl) ?_
    obtain ⟨r25, h25, e25, z25, w25, f25⟩ := S_X7_refuse (E := E) (y := 1) (z := 0) hX
    subst z25
    have W_25 := wh_fr hW f25 (by omega)
    have F25 : Fr x 1 h h25 := fr_tr fr_rf (fr_in f25 (by omega) (by omega))
    refine xv (x_inv1 28 (as := [Value.int (zi 1), Value.int (zi 0)]) d_X7_refusesAssign_25 rfl c_7_109 rfl (Nat.le_of_ble_eq_true rfl) (Nat.le_of_ble_eq_true rfl) hX (Nat.le_of_ble_eq_true rfl) (Nat.le_of_ble_eq_true rfl) rfl e25) ?_
    show Xv E q_m_X7_refusesAssign 28 [Value.ref x, Value.int (zi y), Value.int (zi z)] [Value.int (zi 1)] h25 Q
    refine xv_r (x_ireturn d_X7_refusesAssign_28 rfl rfl) ?_
    have er : rfAsg l y z = (1, 0) := by unfold rfAsg; repeat (first | rw [if_pos (by omega)] | rw [if_neg (by omega)])
    refine hQ _ _ ?_
    rw [er]
    exact ⟨by rw [bI_t (show ¬ ((1, 0) : Int × Int).1 = 0 from fun e_ => absurd (show (1 : Int) = 0 from e_) (by decide))], w25, W_25, F25⟩
  · replace k8 := bI_n0.mp k8
    refine xv (x_aload_n 12 d_X7_refusesAssign_11 rfl rfl) ?_
    refine xv (x_getfield 15 d_X7_refusesAssign_12 rfl f_7_12 (Nat.le_of_ble_eq_true rfl) (Nat.le_of_ble_eq_true rfl) (q_gf_of hX rfl)) ?_
    refine xv (x_iload_n 16 d_X7_refusesAssign_15 rfl rfl) ?_
    refine xv (x_inv1 19 (as := [Value.int (zi z)]) d_X7_refusesAssign_16 rfl c_7_173 rfl (Nat.le_of_ble_eq_true rfl) (Nat.le_of_ble_eq_true rfl) (wh_o hW) (Nat.le_of_ble_eq_true rfl) (Nat.le_of_ble_eq_true rfl) rfl (S_X6_isOrder hW hR (by omega) (by omega))) ?_
    show Xv E q_m_X7_refusesAssign 19 [Value.ref x, Value.int (zi y), Value.int (zi z)] [Value.int (zi (bI (isO l z)))] h Q
    refine v_if_ne 29 22 d_X7_refusesAssign_19 rfl rfl (by have := bI_r (isO l z); omega) (by have := bI_r (isO l z); omega) (fun k19 => ?_) (fun k19 => ?_)
    · replace k19 := bI_n0.mp k19
      refine xv (x_aload_n 30 d_X7_refusesAssign_29 rfl rfl) ?_
      refine xv (x_getfield 33 d_X7_refusesAssign_30 rfl f_7_12 (Nat.le_of_ble_eq_true rfl) (Nat.le_of_ble_eq_true rfl) (q_gf_of hX rfl)) ?_
      refine xv (x_getfield 36 d_X7_refusesAssign_33 rfl f_7_131 (Nat.le_of_ble_eq_true rfl) (Nat.le_of_ble_eq_true rfl) (q_gf_of (wh_o hW) rfl)) ?_
      refine xv (x_iload_n 37 d_X7_refusesAssign_36 rfl rfl) ?_
      refine xv (x_aaload 38 d_X7_refusesAssign_37 rfl (wh_rs hW (by omega) (by omega))) ?_
      refine xv (x_getfield 41 d_X7_refusesAssign_38 rfl f_7_135 (Nat.le_of_ble_eq_true rfl) (Nat.le_of_ble_eq_true rfl) (q_gf_of (wh_r hW (by omega) (by omega)).1 rfl)) ?_
      have q38 := gr y (by omega) (by omega)
      refine xv (x_iconst 42 d_X7_refusesAssign_41 rfl) ?_
      refine v_icmp_eq 64 45 d_X7_refusesAssign_42 rfl rfl (by omega) (by omega) (by omega) (by omega) (fun k42 => ?_) (fun k42 => ?_)
      · refine xv (x_aload_n 65 d_X7_refusesAssign_64 rfl rfl) ?_
        refine xv (x_getfield 68 d_X7_refusesAssign_65 rfl f_7_12 (Nat.le_of_ble_eq_true rfl) (Nat.le_of_ble_eq_true rfl) (q_gf_of hX rfl)) ?_
        refine xv (x_iload_n 69 d_X7_refusesAssign_68 rfl rfl) ?_
        refine xv (x_inv1 72 (as := [Value.int (zi z)]) d_X7_refusesAssign_69 rfl c_7_176 rfl (Nat.le_of_ble_eq_true rfl) (Nat.le_of_ble_eq_true rfl) (wh_o hW) (Nat.le_of_ble_eq_true rfl) (Nat.le_of_ble_eq_true rfl) rfl (S_X6_stateOf hW hR (by omega) (by omega))) ?_
        have q69 := @stc_r l z
        show Xv E q_m_X7_refusesAssign 72 [Value.ref x, Value.int (zi y), Value.int (zi z)] [Value.int (zi (stc l z))] h Q
        refine v_if_eq 90 75 d_X7_refusesAssign_72 rfl rfl (by omega) (by omega) (fun k72 => ?_) (fun k72 => ?_)
        · refine xv (x_iconst 91 d_X7_refusesAssign_90 rfl) ?_
          refine xv_r (x_ireturn d_X7_refusesAssign_91 rfl rfl) ?_
          have er : rfAsg l y z = (0, 0) := by unfold rfAsg; repeat (first | rw [if_pos (by omega)] | rw [if_neg (by omega)])
          refine hQ _ _ ?_
          rw [er]
          exact ⟨by rw [bI_f (show ¬ ¬ ((0, 0) : Int × Int).1 = 0 from fun e_ => e_ rfl)], hX, hW, fr_rf⟩
        · refine xv (x_aload_n 76 d_X7_refusesAssign_75 rfl rfl) ?_
          refine xv (x_bipush 78 d_X7_refusesAssign_76 rfl rfl) ?_
          refine xv (x_aload_n 79 d_X7_refusesAssign_78 rfl rfl) ?_
          refine xv (x_getfield 82 d_X7_refusesAssign_79 rfl f_7_12 (Nat.le_of_ble_eq_true rfl) (Nat.le_of_ble_eq_true rfl) (q_gf_of hX rfl)) ?_
          refine xv (x_iload_n 83 d_X7_refusesAssign_82 rfl rfl) ?_
          refine xv (x_inv1 86 (as := [Value.int (zi z)]) d_X7_refusesAssign_83 rfl c_7_176 rfl (Nat.le_of_ble_eq_true rfl) (Nat.le_of_ble_eq_true rfl) (wh_o hW) (Nat.le_of_ble_eq_true rfl) (Nat.le_of_ble_eq_true rfl) rfl (S_X6_stateOf hW hR (by omega) (by omega))) ?_
          have q83 := @stc_r l z
          show Xv E q_m_X7_refusesAssign 86 [Value.ref x, Value.int (zi y), Value.int (zi z)] [Value.int (zi (stc l z)), Value.int (zi 8), Value.ref x] h Q
          obtain ⟨r86, h86, e86, z86, w86, f86⟩ := S_X7_refuse (E := E) (y := 8) (z := stc l z) hX
          subst z86
          have W_86 := wh_fr hW f86 (by omega)
          have F86 : Fr x 1 h h86 := fr_tr fr_rf (fr_in f86 (by omega) (by omega))
          refine xv (x_inv1 89 (as := [Value.int (zi 8), Value.int (zi (stc l z))]) d_X7_refusesAssign_86 rfl c_7_109 rfl (Nat.le_of_ble_eq_true rfl) (Nat.le_of_ble_eq_true rfl) hX (Nat.le_of_ble_eq_true rfl) (Nat.le_of_ble_eq_true rfl) rfl e86) ?_
          show Xv E q_m_X7_refusesAssign 89 [Value.ref x, Value.int (zi y), Value.int (zi z)] [Value.int (zi 1)] h86 Q
          refine xv_r (x_ireturn d_X7_refusesAssign_89 rfl rfl) ?_
          have er : rfAsg l y z = (8, stc l z) := by unfold rfAsg; repeat (first | rw [if_pos (by omega)] | rw [if_neg (by omega)])
          refine hQ _ _ ?_
          rw [er]
          exact ⟨by rw [bI_t (show ¬ ((8, stc l z) : Int × Int).1 = 0 from fun e_ => absurd (show (8 : Int) = 0 from e_) (by decide))], w86, W_86, F86⟩
      · refine xv (x_aload_n 46 d_X7_refusesAssign_45 rfl rfl) ?_
        refine xv (x_bipush 48 d_X7_refusesAssign_46 rfl rfl) ?_
        refine xv (x_aload_n 49 d_X7_refusesAssign_48 rfl rfl) ?_
        refine xv (x_getfield 52 d_X7_refusesAssign_49 rfl f_7_12 (Nat.le_of_ble_eq_true rfl) (Nat.le_of_ble_eq_true rfl) (q_gf_of hX rfl)) ?_
        refine xv (x_getfield 55 d_X7_refusesAssign_52 rfl f_7_131 (Nat.le_of_ble_eq_true rfl) (Nat.le_of_ble_eq_true rfl) (q_gf_of (wh_o hW) rfl)) ?_
        refine xv (x_iload_n 56 d_X7_refusesAssign_55 rfl rfl) ?_
        refine xv (x_aaload 57 d_X7_refusesAssign_56 rfl (wh_rs hW (by omega) (by omega))) ?_
        refine xv (x_getfield 60 d_X7_refusesAssign_57 rfl f_7_135 (Nat.le_of_ble_eq_true rfl) (Nat.le_of_ble_eq_true rfl) (q_gf_of (wh_r hW (by omega) (by omega)).1 rfl)) ?_
        have q57 := gr y (by omega) (by omega)
        obtain ⟨r60, h60, e60, z60, w60, f60⟩ := S_X7_refuse (E := E) (y := 7) (z := rb l y 2) hX
        subst z60
        have W_60 := wh_fr hW f60 (by omega)
        have F60 : Fr x 1 h h60 := fr_tr fr_rf (fr_in f60 (by omega) (by omega))
        refine xv (x_inv1 63 (as := [Value.int (zi 7), Value.int (zi (rb l y 2))]) d_X7_refusesAssign_60 rfl c_7_109 rfl (Nat.le_of_ble_eq_true rfl) (Nat.le_of_ble_eq_true rfl) hX (Nat.le_of_ble_eq_true rfl) (Nat.le_of_ble_eq_true rfl) rfl e60) ?_
        show Xv E q_m_X7_refusesAssign 63 [Value.ref x, Value.int (zi y), Value.int (zi z)] [Value.int (zi 1)] h60 Q
        refine xv_r (x_ireturn d_X7_refusesAssign_63 rfl rfl) ?_
        have er : rfAsg l y z = (7, rb l y 2) := by unfold rfAsg; repeat (first | rw [if_pos (by omega)] | rw [if_neg (by omega)])
        refine hQ _ _ ?_
        rw [er]
        exact ⟨by rw [bI_t (show ¬ ((7, rb l y 2) : Int × Int).1 = 0 from fun e_ => absurd (show (7 : Int) = 0 from e_) (by decide))], w60, W_60, F60⟩
    · replace k19 := bI_0.mp k19
      refine xv (x_aload_n 23 d_X7_refusesAssign_22 rfl rfl) ?_
      refine xv (x_iconst 24 d_X7_refusesAssign_23 rfl) ?_
      refine xv (x_iconst 25 d_X7_refusesAssign_24 rfl) ?_
      obtain ⟨r25, h25, e25, z25, w25, f25⟩ := S_X7_refuse (E := E) (y := 1) (z := 0) hX
      subst z25
      have W_25 := wh_fr hW f25 (by omega)
      have F25 : Fr x 1 h h25 := fr_tr fr_rf (fr_in f25 (by omega) (by omega))
      refine xv (x_inv1 28 (as := [Value.int (zi 1), Value.int (zi 0)]) d_X7_refusesAssign_25 rfl c_7_109 rfl (Nat.le_of_ble_eq_true rfl) (Nat.le_of_ble_eq_true rfl) hX (Nat.le_of_ble_eq_true rfl) (Nat.le_of_ble_eq_true rfl) rfl e25) ?_
      show Xv E q_m_X7_refusesAssign 28 [Value.ref x, Value.int (zi y), Value.int (zi z)] [Value.int (zi 1)] h25 Q
      refine xv_r (x_ireturn d_X7_refusesAssign_28 rfl rfl) ?_
      have er : rfAsg l y z = (1, 0) := by unfold rfAsg; repeat (first | rw [if_pos (by omega)] | rw [if_neg (by omega)])
      refine hQ _ _ ?_
      rw [er]
      exact ⟨by rw [bI_t (show ¬ ((1, 0) : Int × Int).1 = 0 from fun e_ => absurd (show (1 : Int) = 0 from e_) (by decide))], w25, W_25, F25⟩
theorem S_X7_refusesRelease (hX : CAo h x hs fa kr kd_) (hW : WH h (x + 1) l p) (hR : RgC l) {y : Int} (y0 : -2147483648 ≤ y) (y1 : y < 2147483648) : ∃ r_ h', q_cl E q_m_X7_refusesRelease [Value.ref x, Value.int (zi y)] h = some (r_, h') ∧ (r_ = .inl (some (.int (zi (bI (¬ (rfRel l y).1 = 0))))) ∧ CAo h' x hs fa (krn (rfRel l y) kr) (kdn (rfRel l y) kd_) ∧ WH h' (x + 1) l p ∧ Fr x 1 h h') := by
  suffices K : ∀ Q : q_R → q_H → Prop, (∀ r_ h', (r_ = .inl (some (.int (zi (bI (¬ (rfRel l y).1 = 0))))) ∧ CAo h' x hs fa (krn (rfRel l y) kr) (kdn (rfRel l y) kd_) ∧ WH h' (x + 1) l p ∧ Fr x 1 h h') → Q r_ h') → Xv E q_m_X7_refusesRelease 0 [Value.ref x, Value.int (zi y)] [] h Q from K _ fun _ _ p => p
  intro Q hQ
  obtain ⟨g0, g1, g2, g3, g4, gc, g5, g6, g7, gk, gl, gr, go⟩ := id hR
  refine xv (x_aload_n 1 d_X7_refusesRelease_0 rfl rfl) ?_
  refine xv (x_getfield 4 d_X7_refusesRelease_1 rfl f_7_12 (Nat.le_of_ble_eq_true rfl) (Nat.le_of_ble_eq_true rfl) (q_gf_of hX rfl)) ?_
  refine xv (x_iload_n 5 d_X7_refusesRelease_4 rfl rfl) ?_
  refine xv (x_inv1 8 (as := [Value.int (zi y)]) d_X7_refusesRelease_5 rfl c_7_128 rfl (Nat.le_of_ble_eq_true rfl) (Nat.le_of_ble_eq_true rfl) (wh_o hW) (Nat.le_of_ble_eq_true rfl) (Nat.le_of_ble_eq_true rfl) rfl (S_X6_isRobot hW hR (by omega) (by omega))) ?_
  show Xv E q_m_X7_refusesRelease 8 [Value.ref x, Value.int (zi y)] [Value.int (zi (bI (isR l y)))] h Q
  refine v_if_ne 18 11 d_X7_refusesRelease_8 rfl rfl (by have := bI_r (isR l y); omega) (by have := bI_r (isR l y); omega) (fun k8 => ?_) (fun k8 => ?_)
  · replace k8 := bI_n0.mp k8
    refine xv (x_aload_n 19 d_X7_refusesRelease_18 rfl rfl) ?_
    refine xv (x_getfield 22 d_X7_refusesRelease_19 rfl f_7_12 (Nat.le_of_ble_eq_true rfl) (Nat.le_of_ble_eq_true rfl) (q_gf_of hX rfl)) ?_
    refine xv (x_getfield 25 d_X7_refusesRelease_22 rfl f_7_131 (Nat.le_of_ble_eq_true rfl) (Nat.le_of_ble_eq_true rfl) (q_gf_of (wh_o hW) rfl)) ?_
    refine xv (x_iload_n 26 d_X7_refusesRelease_25 rfl rfl) ?_
    refine xv (x_aaload 27 d_X7_refusesRelease_26 rfl (wh_rs hW (by omega) (by omega))) ?_
    refine xv (x_getfield 30 d_X7_refusesRelease_27 rfl f_7_135 (Nat.le_of_ble_eq_true rfl) (Nat.le_of_ble_eq_true rfl) (q_gf_of (wh_r hW (by omega) (by omega)).1 rfl)) ?_
    have q27 := gr y (by omega) (by omega)
    refine xv (x_iconst 31 d_X7_refusesRelease_30 rfl) ?_
    refine v_icmp_ne 42 34 d_X7_refusesRelease_31 rfl rfl (by omega) (by omega) (by omega) (by omega) (fun k31 => ?_) (fun k31 => ?_)
    · refine xv (x_iconst 43 d_X7_refusesRelease_42 rfl) ?_
      refine xv_r (x_ireturn d_X7_refusesRelease_43 rfl rfl) ?_
      have er : rfRel l y = (0, 0) := by unfold rfRel; repeat (first | rw [if_pos (by omega)] | rw [if_neg (by omega)])
      refine hQ _ _ ?_
      rw [er]
      exact ⟨by rw [bI_f (show ¬ ¬ ((0, 0) : Int × Int).1 = 0 from fun e_ => e_ rfl)], hX, hW, fr_rf⟩
    · refine xv (x_aload_n 35 d_X7_refusesRelease_34 rfl rfl) ?_
      refine xv (x_bipush 37 d_X7_refusesRelease_35 rfl rfl) ?_
      refine xv (x_iconst 38 d_X7_refusesRelease_37 rfl) ?_
      obtain ⟨r38, h38, e38, z38, w38, f38⟩ := S_X7_refuse (E := E) (y := 7) (z := (-1)) hX
      subst z38
      have W_38 := wh_fr hW f38 (by omega)
      have F38 : Fr x 1 h h38 := fr_tr fr_rf (fr_in f38 (by omega) (by omega))
      refine xv (x_inv1 41 (as := [Value.int (zi 7), Value.int (zi (-1))]) d_X7_refusesRelease_38 rfl c_7_109 rfl (Nat.le_of_ble_eq_true rfl) (Nat.le_of_ble_eq_true rfl) hX (Nat.le_of_ble_eq_true rfl) (Nat.le_of_ble_eq_true rfl) rfl e38) ?_
      show Xv E q_m_X7_refusesRelease 41 [Value.ref x, Value.int (zi y)] [Value.int (zi 1)] h38 Q
      refine xv_r (x_ireturn d_X7_refusesRelease_41 rfl rfl) ?_
      have er : rfRel l y = (7, (-1)) := by unfold rfRel; repeat (first | rw [if_pos (by omega)] | rw [if_neg (by omega)])
      refine hQ _ _ ?_
      rw [er]
      exact ⟨by rw [bI_t (show ¬ ((7, (-1)) : Int × Int).1 = 0 from fun e_ => absurd (show (7 : Int) = 0 from e_) (by decide))], w38, W_38, F38⟩
  · replace k8 := bI_0.mp k8
    refine xv (x_aload_n 12 d_X7_refusesRelease_11 rfl rfl) ?_
    refine xv (x_iconst 13 d_X7_refusesRelease_12 rfl) ?_
    refine xv (x_iconst 14 d_X7_refusesRelease_13 rfl) ?_
    obtain ⟨r14, h14, e14, z14, w14, f14⟩ := S_X7_refuse (E := E) (y := 1) (z := 0) hX
    subst z14
    have W_14 := wh_fr hW f14 (by omega)
    have F14 : Fr x 1 h h14 := fr_tr fr_rf (fr_in f14 (by omega) (by omega))
    refine xv (x_inv1 17 (as := [Value.int (zi 1), Value.int (zi 0)]) d_X7_refusesRelease_14 rfl c_7_109 rfl (Nat.le_of_ble_eq_true rfl) (Nat.le_of_ble_eq_true rfl) hX (Nat.le_of_ble_eq_true rfl) (Nat.le_of_ble_eq_true rfl) rfl e14) ?_
    show Xv E q_m_X7_refusesRelease 17 [Value.ref x, Value.int (zi y)] [Value.int (zi 1)] h14 Q
    refine xv_r (x_ireturn d_X7_refusesRelease_17 rfl rfl) ?_
    have er : rfRel l y = (1, 0) := by unfold rfRel; repeat (first | rw [if_pos (by omega)] | rw [if_neg (by omega)])
    refine hQ _ _ ?_
    rw [er]
    exact ⟨by rw [bI_t (show ¬ ((1, 0) : Int × Int).1 = 0 from fun e_ => absurd (show (1 : Int) = 0 from e_) (by decide))], w14, W_14, F14⟩
theorem S_X7_refusesClose (hX : CAo h x hs fa kr kd_) (hW : WH h (x + 1) l p) (hR : RgC l) {y : Int} (y0 : -2147483648 ≤ y) (y1 : y < 2147483648) : ∃ r_ h', q_cl E q_m_X7_refusesClose [Value.ref x, Value.int (zi y)] h = some (r_, h') ∧ (r_ = .inl (some (.int (zi (bI (¬ (rfClo l y).1 = 0))))) ∧ CAo h' x hs fa (krn (rfClo l y) kr) (kdn (rfClo l y) kd_) ∧ WH h' (x + 1) l p ∧ Fr x 1 h h') := by
  suffices K : ∀ Q : q_R → q_H → Prop, (∀ r_ h', (r_ = .inl (some (.int (zi (bI (¬ (rfClo l y).1 = 0))))) ∧ CAo h' x hs fa (krn (rfClo l y) kr) (kdn (rfClo l y) kd_) ∧ WH h' (x + 1) l p ∧ Fr x 1 h h') → Q r_ h') → Xv E q_m_X7_refusesClose 0 [Value.ref x, Value.int (zi y)] [] h Q from K _ fun _ _ p => p
  intro Q hQ
  obtain ⟨g0, g1, g2, g3, g4, gc, g5, g6, g7, gk, gl, gr, go⟩ := id hR
  refine xv (x_aload_n 1 d_X7_refusesClose_0 rfl rfl) ?_
  refine xv (x_getfield 4 d_X7_refusesClose_1 rfl f_7_12 (Nat.le_of_ble_eq_true rfl) (Nat.le_of_ble_eq_true rfl) (q_gf_of hX rfl)) ?_
  refine xv (x_iload_n 5 d_X7_refusesClose_4 rfl rfl) ?_
  refine xv (x_inv1 8 (as := [Value.int (zi y)]) d_X7_refusesClose_5 rfl c_7_105 rfl (Nat.le_of_ble_eq_true rfl) (Nat.le_of_ble_eq_true rfl) (wh_o hW) (Nat.le_of_ble_eq_true rfl) (Nat.le_of_ble_eq_true rfl) rfl (S_X6_isCell hW hR (by omega) (by omega))) ?_
  show Xv E q_m_X7_refusesClose 8 [Value.ref x, Value.int (zi y)] [Value.int (zi (bI (isC l y)))] h Q
  refine v_if_ne 18 11 d_X7_refusesClose_8 rfl rfl (by have := bI_r (isC l y); omega) (by have := bI_r (isC l y); omega) (fun k8 => ?_) (fun k8 => ?_)
  · replace k8 := bI_n0.mp k8
    refine xv (x_aload_n 19 d_X7_refusesClose_18 rfl rfl) ?_
    refine xv (x_getfield 22 d_X7_refusesClose_19 rfl f_7_12 (Nat.le_of_ble_eq_true rfl) (Nat.le_of_ble_eq_true rfl) (q_gf_of hX rfl)) ?_
    refine xv (x_getfield 25 d_X7_refusesClose_22 rfl f_7_189 (Nat.le_of_ble_eq_true rfl) (Nat.le_of_ble_eq_true rfl) (q_gf_of (wh_o hW) rfl)) ?_
    refine xv (x_iload_n 26 d_X7_refusesClose_25 rfl rfl) ?_
    refine xv (x_baload 27 d_X7_refusesClose_26 rfl (ai_b (wh_c hW) (by omega) (by omega) (by decide))) ?_
    have q26 := gl y (by omega) (by omega)
    refine v_if_eq 38 30 d_X7_refusesClose_27 rfl rfl (by omega) (by omega) (fun k27 => ?_) (fun k27 => ?_)
    · refine xv (x_aload_n 39 d_X7_refusesClose_38 rfl rfl) ?_
      refine xv (x_getfield 42 d_X7_refusesClose_39 rfl f_7_12 (Nat.le_of_ble_eq_true rfl) (Nat.le_of_ble_eq_true rfl) (q_gf_of hX rfl)) ?_
      refine xv (x_getfield 45 d_X7_refusesClose_42 rfl f_7_157 (Nat.le_of_ble_eq_true rfl) (Nat.le_of_ble_eq_true rfl) (q_gf_of (wh_o hW) rfl)) ?_
      refine xv (x_iload_n 46 d_X7_refusesClose_45 rfl rfl) ?_
      refine xv (x_iaload 47 d_X7_refusesClose_46 rfl (ai_g (wh_k hW) (by omega) (by omega) (by decide))) ?_
      have q46 := gk y (by omega) (by omega)
      refine xv (x_iconst 48 d_X7_refusesClose_47 rfl) ?_
      refine v_icmp_ne 58 51 d_X7_refusesClose_48 rfl rfl (by omega) (by omega) (by omega) (by omega) (fun k48 => ?_) (fun k48 => ?_)
      · refine xv (x_aload_n 59 d_X7_refusesClose_58 rfl rfl) ?_
        refine xv (x_iload_n 60 d_X7_refusesClose_59 rfl rfl) ?_
        refine xv (x_iconst 61 d_X7_refusesClose_60 rfl) ?_
        obtain ⟨r61, h61, e61, z61, w61, u61, f61⟩ := S_X7_refusesRobotsCell (E := E) (y := y) (z := (-1)) hX hW hR (by omega) (by omega) (by omega) (by omega)
        subst z61
        have F61 : Fr x 1 h h61 := fr_tr fr_rf (fr_in f61 (by omega) (by omega))
        refine xv (x_inv1 64 (as := [Value.int (zi y), Value.int (zi (-1))]) d_X7_refusesClose_61 rfl c_7_118 rfl (Nat.le_of_ble_eq_true rfl) (Nat.le_of_ble_eq_true rfl) hX (Nat.le_of_ble_eq_true rfl) (Nat.le_of_ble_eq_true rfl) rfl e61) ?_
        show Xv E q_m_X7_refusesClose 64 [Value.ref x, Value.int (zi y)] [Value.int (zi (bI (¬ (rfRC l y (-1)).1 = 0)))] h61 Q
        refine xv_r (x_ireturn d_X7_refusesClose_64 rfl nb_bI) ?_
        have er : rfClo l y = rfRC l y (-1) := by unfold rfClo; repeat (first | rw [if_pos (by omega)] | rw [if_neg (by omega)])
        refine hQ _ _ ?_
        rw [er]
        exact ⟨rfl, w61, u61, F61⟩
      · refine xv (x_aload_n 52 d_X7_refusesClose_51 rfl rfl) ?_
        refine xv (x_iconst 53 d_X7_refusesClose_52 rfl) ?_
        refine xv (x_iload_n 54 d_X7_refusesClose_53 rfl rfl) ?_
        obtain ⟨r54, h54, e54, z54, w54, f54⟩ := S_X7_refuse (E := E) (y := 4) (z := y) hX
        subst z54
        have W_54 := wh_fr hW f54 (by omega)
        have F54 : Fr x 1 h h54 := fr_tr fr_rf (fr_in f54 (by omega) (by omega))
        refine xv (x_inv1 57 (as := [Value.int (zi 4), Value.int (zi y)]) d_X7_refusesClose_54 rfl c_7_109 rfl (Nat.le_of_ble_eq_true rfl) (Nat.le_of_ble_eq_true rfl) hX (Nat.le_of_ble_eq_true rfl) (Nat.le_of_ble_eq_true rfl) rfl e54) ?_
        show Xv E q_m_X7_refusesClose 57 [Value.ref x, Value.int (zi y)] [Value.int (zi 1)] h54 Q
        refine xv_r (x_ireturn d_X7_refusesClose_57 rfl rfl) ?_
        have er : rfClo l y = (4, y) := by unfold rfClo; repeat (first | rw [if_pos (by omega)] | rw [if_neg (by omega)])
        refine hQ _ _ ?_
        rw [er]
        exact ⟨by rw [bI_t (show ¬ ((4, y) : Int × Int).1 = 0 from fun e_ => absurd (show (4 : Int) = 0 from e_) (by decide))], w54, W_54, F54⟩
    · refine xv (x_aload_n 31 d_X7_refusesClose_30 rfl rfl) ?_
      refine xv (x_bipush 33 d_X7_refusesClose_31 rfl rfl) ?_
      refine xv (x_iconst 34 d_X7_refusesClose_33 rfl) ?_
      obtain ⟨r34, h34, e34, z34, w34, f34⟩ := S_X7_refuse (E := E) (y := 13) (z := 0) hX
      subst z34
      have W_34 := wh_fr hW f34 (by omega)
      have F34 : Fr x 1 h h34 := fr_tr fr_rf (fr_in f34 (by omega) (by omega))
      refine xv (x_inv1 37 (as := [Value.int (zi 13), Value.int (zi 0)]) d_X7_refusesClose_34 rfl c_7_109 rfl (Nat.le_of_ble_eq_true rfl) (Nat.le_of_ble_eq_true rfl) hX (Nat.le_of_ble_eq_true rfl) (Nat.le_of_ble_eq_true rfl) rfl e34) ?_
      show Xv E q_m_X7_refusesClose 37 [Value.ref x, Value.int (zi y)] [Value.int (zi 1)] h34 Q
      refine xv_r (x_ireturn d_X7_refusesClose_37 rfl rfl) ?_
      have er : rfClo l y = (13, 0) := by unfold rfClo; repeat (first | rw [if_pos (by omega)] | rw [if_neg (by omega)])
      refine hQ _ _ ?_
      rw [er]
      exact ⟨by rw [bI_t (show ¬ ((13, 0) : Int × Int).1 = 0 from fun e_ => absurd (show (13 : Int) = 0 from e_) (by decide))], w34, W_34, F34⟩
  · replace k8 := bI_0.mp k8
    refine xv (x_aload_n 12 d_X7_refusesClose_11 rfl rfl) ?_
    refine xv (x_iconst 13 d_X7_refusesClose_12 rfl) ?_
    refine xv (x_iconst 14 d_X7_refusesClose_13 rfl) ?_
    obtain ⟨r14, h14, e14, z14, w14, f14⟩ := S_X7_refuse (E := E) (y := 1) (z := 0) hX
    subst z14
    have W_14 := wh_fr hW f14 (by omega)
    have F14 : Fr x 1 h h14 := fr_tr fr_rf (fr_in f14 (by omega) (by omega))
    refine xv (x_inv1 17 (as := [Value.int (zi 1), Value.int (zi 0)]) d_X7_refusesClose_14 rfl c_7_109 rfl (Nat.le_of_ble_eq_true rfl) (Nat.le_of_ble_eq_true rfl) hX (Nat.le_of_ble_eq_true rfl) (Nat.le_of_ble_eq_true rfl) rfl e14) ?_
    show Xv E q_m_X7_refusesClose 17 [Value.ref x, Value.int (zi y)] [Value.int (zi 1)] h14 Q
    refine xv_r (x_ireturn d_X7_refusesClose_17 rfl rfl) ?_
    have er : rfClo l y = (1, 0) := by unfold rfClo; repeat (first | rw [if_pos (by omega)] | rw [if_neg (by omega)])
    refine hQ _ _ ?_
    rw [er]
    exact ⟨by rw [bI_t (show ¬ ((1, 0) : Int × Int).1 = 0 from fun e_ => absurd (show (1 : Int) = 0 from e_) (by decide))], w14, W_14, F14⟩
theorem S_X7_refusesOpen (hX : CAo h x hs fa kr kd_) (hW : WH h (x + 1) l p) (hR : RgC l) {y : Int} (y0 : -2147483648 ≤ y) (y1 : y < 2147483648) : ∃ r_ h', q_cl E q_m_X7_refusesOpen [Value.ref x, Value.int (zi y)] h = some (r_, h') ∧ (r_ = .inl (some (.int (zi (bI (¬ (rfOpn l y).1 = 0))))) ∧ CAo h' x hs fa (krn (rfOpn l y) kr) (kdn (rfOpn l y) kd_) ∧ WH h' (x + 1) l p ∧ Fr x 1 h h') := by
  suffices K : ∀ Q : q_R → q_H → Prop, (∀ r_ h', (r_ = .inl (some (.int (zi (bI (¬ (rfOpn l y).1 = 0))))) ∧ CAo h' x hs fa (krn (rfOpn l y) kr) (kdn (rfOpn l y) kd_) ∧ WH h' (x + 1) l p ∧ Fr x 1 h h') → Q r_ h') → Xv E q_m_X7_refusesOpen 0 [Value.ref x, Value.int (zi y)] [] h Q from K _ fun _ _ p => p
  intro Q hQ
  obtain ⟨g0, g1, g2, g3, g4, gc, g5, g6, g7, gk, gl, gr, go⟩ := id hR
  refine xv (x_aload_n 1 d_X7_refusesOpen_0 rfl rfl) ?_
  refine xv (x_getfield 4 d_X7_refusesOpen_1 rfl f_7_12 (Nat.le_of_ble_eq_true rfl) (Nat.le_of_ble_eq_true rfl) (q_gf_of hX rfl)) ?_
  refine xv (x_iload_n 5 d_X7_refusesOpen_4 rfl rfl) ?_
  refine xv (x_inv1 8 (as := [Value.int (zi y)]) d_X7_refusesOpen_5 rfl c_7_105 rfl (Nat.le_of_ble_eq_true rfl) (Nat.le_of_ble_eq_true rfl) (wh_o hW) (Nat.le_of_ble_eq_true rfl) (Nat.le_of_ble_eq_true rfl) rfl (S_X6_isCell hW hR (by omega) (by omega))) ?_
  show Xv E q_m_X7_refusesOpen 8 [Value.ref x, Value.int (zi y)] [Value.int (zi (bI (isC l y)))] h Q
  refine v_if_ne 18 11 d_X7_refusesOpen_8 rfl rfl (by have := bI_r (isC l y); omega) (by have := bI_r (isC l y); omega) (fun k8 => ?_) (fun k8 => ?_)
  · replace k8 := bI_n0.mp k8
    refine xv (x_aload_n 19 d_X7_refusesOpen_18 rfl rfl) ?_
    refine xv (x_getfield 22 d_X7_refusesOpen_19 rfl f_7_12 (Nat.le_of_ble_eq_true rfl) (Nat.le_of_ble_eq_true rfl) (q_gf_of hX rfl)) ?_
    refine xv (x_getfield 25 d_X7_refusesOpen_22 rfl f_7_189 (Nat.le_of_ble_eq_true rfl) (Nat.le_of_ble_eq_true rfl) (q_gf_of (wh_o hW) rfl)) ?_
    refine xv (x_iload_n 26 d_X7_refusesOpen_25 rfl rfl) ?_
    refine xv (x_baload 27 d_X7_refusesOpen_26 rfl (ai_b (wh_c hW) (by omega) (by omega) (by decide))) ?_
    have q26 := gl y (by omega) (by omega)
    refine v_if_ne 38 30 d_X7_refusesOpen_27 rfl rfl (by omega) (by omega) (fun k27 => ?_) (fun k27 => ?_)
    · refine xv (x_iconst 39 d_X7_refusesOpen_38 rfl) ?_
      refine xv_r (x_ireturn d_X7_refusesOpen_39 rfl rfl) ?_
      have er : rfOpn l y = (0, 0) := by unfold rfOpn; repeat (first | rw [if_pos (by omega)] | rw [if_neg (by omega)])
      refine hQ _ _ ?_
      rw [er]
      exact ⟨by rw [bI_f (show ¬ ¬ ((0, 0) : Int × Int).1 = 0 from fun e_ => e_ rfl)], hX, hW, fr_rf⟩
    · refine xv (x_aload_n 31 d_X7_refusesOpen_30 rfl rfl) ?_
      refine xv (x_bipush 33 d_X7_refusesOpen_31 rfl rfl) ?_
      refine xv (x_iconst 34 d_X7_refusesOpen_33 rfl) ?_
      obtain ⟨r34, h34, e34, z34, w34, f34⟩ := S_X7_refuse (E := E) (y := 13) (z := 0) hX
      subst z34
      have W_34 := wh_fr hW f34 (by omega)
      have F34 : Fr x 1 h h34 := fr_tr fr_rf (fr_in f34 (by omega) (by omega))
      refine xv (x_inv1 37 (as := [Value.int (zi 13), Value.int (zi 0)]) d_X7_refusesOpen_34 rfl c_7_109 rfl (Nat.le_of_ble_eq_true rfl) (Nat.le_of_ble_eq_true rfl) hX (Nat.le_of_ble_eq_true rfl) (Nat.le_of_ble_eq_true rfl) rfl e34) ?_
      show Xv E q_m_X7_refusesOpen 37 [Value.ref x, Value.int (zi y)] [Value.int (zi 1)] h34 Q
      refine xv_r (x_ireturn d_X7_refusesOpen_37 rfl rfl) ?_
      have er : rfOpn l y = (13, 0) := by unfold rfOpn; repeat (first | rw [if_pos (by omega)] | rw [if_neg (by omega)])
      refine hQ _ _ ?_
      rw [er]
      exact ⟨by rw [bI_t (show ¬ ((13, 0) : Int × Int).1 = 0 from fun e_ => absurd (show (13 : Int) = 0 from e_) (by decide))], w34, W_34, F34⟩
  · replace k8 := bI_0.mp k8
    refine xv (x_aload_n 12 d_X7_refusesOpen_11 rfl rfl) ?_
    refine xv (x_iconst 13 d_X7_refusesOpen_12 rfl) ?_
    refine xv (x_iconst 14 d_X7_refusesOpen_13 rfl) ?_
    obtain ⟨r14, h14, e14, z14, w14, f14⟩ := S_X7_refuse (E := E) (y := 1) (z := 0) hX
    subst z14
    have W_14 := wh_fr hW f14 (by omega)
    have F14 : Fr x 1 h h14 := fr_tr fr_rf (fr_in f14 (by omega) (by omega))
    refine xv (x_inv1 17 (as := [Value.int (zi 1), Value.int (zi 0)]) d_X7_refusesOpen_14 rfl c_7_109 rfl (Nat.le_of_ble_eq_true rfl) (Nat.le_of_ble_eq_true rfl) hX (Nat.le_of_ble_eq_true rfl) (Nat.le_of_ble_eq_true rfl) rfl e14) ?_
    show Xv E q_m_X7_refusesOpen 17 [Value.ref x, Value.int (zi y)] [Value.int (zi 1)] h14 Q
    refine xv_r (x_ireturn d_X7_refusesOpen_17 rfl rfl) ?_
    have er : rfOpn l y = (1, 0) := by unfold rfOpn; repeat (first | rw [if_pos (by omega)] | rw [if_neg (by omega)])
    refine hQ _ _ ?_
    rw [er]
    exact ⟨by rw [bI_t (show ¬ ((1, 0) : Int × Int).1 = 0 from fun e_ => absurd (show (1 : Int) = 0 from e_) (by decide))], w14, W_14, F14⟩
theorem S_X7_refusesGoal (hX : CAo h x hs fa kr kd_) (hW : WH h (x + 1) l p) (hR : RgC l) {y z : Int} (y0 : -2147483648 ≤ y) (y1 : y < 2147483648) (z0 : -2147483648 ≤ z) (z1 : z < 2147483648) : ∃ r_ h', q_cl E q_m_X7_refusesGoal [Value.ref x, Value.int (zi y), Value.int (zi z)] h = some (r_, h') ∧ (r_ = .inl (some (.int (zi (bI (¬ (rfGoa l y z).1 = 0))))) ∧ CAo h' x hs fa (krn (rfGoa l y z) kr) (kdn (rfGoa l y z) kd_) ∧ WH h' (x + 1) l p ∧ Fr x 1 h h') := by
  suffices K : ∀ Q : q_R → q_H → Prop, (∀ r_ h', (r_ = .inl (some (.int (zi (bI (¬ (rfGoa l y z).1 = 0))))) ∧ CAo h' x hs fa (krn (rfGoa l y z) kr) (kdn (rfGoa l y z) kd_) ∧ WH h' (x + 1) l p ∧ Fr x 1 h h') → Q r_ h') → Xv E q_m_X7_refusesGoal 0 [Value.ref x, Value.int (zi y), Value.int (zi z)] [] h Q from K _ fun _ _ p => p
  intro Q hQ
  obtain ⟨g0, g1, g2, g3, g4, gc, g5, g6, g7, gk, gl, gr, go⟩ := id hR
  refine xv (x_aload_n 1 d_X7_refusesGoal_0 rfl rfl) ?_
  refine xv (x_getfield 4 d_X7_refusesGoal_1 rfl f_7_12 (Nat.le_of_ble_eq_true rfl) (Nat.le_of_ble_eq_true rfl) (q_gf_of hX rfl)) ?_
  refine xv (x_iload_n 5 d_X7_refusesGoal_4 rfl rfl) ?_
  refine xv (x_inv1 8 (as := [Value.int (zi y)]) d_X7_refusesGoal_5 rfl c_7_128 rfl (Nat.le_of_ble_eq_true rfl) (Nat.le_of_ble_eq_true rfl) (wh_o hW) (Nat.le_of_ble_eq_true rfl) (Nat.le_of_ble_eq_true rfl) rfl (S_X6_isRobot hW hR (by omega) (by omega))) ?_
  show Xv E q_m_X7_refusesGoal 8 [Value.ref x, Value.int (zi y), Value.int (zi z)] [Value.int (zi (bI (isR l y)))] h Q
  refine v_if_eq 22 11 d_X7_refusesGoal_8 rfl rfl (by have := bI_r (isR l y); omega) (by have := bI_r (isR l y); omega) (fun k8 => ?_) (fun k8 => ?_)
  · replace k8 := bI_0.mp k8
    refine xv (x_aload_n 23 d_X7_refusesGoal_22 rfl rfl) ?_
    refine xv (x_iconst 24 d_X7_refusesGoal_23 rfl) ?_
    refine xv (x_iconst 25 d_X7_refusesGoal_24 rfl) ?_
    obtain ⟨r25, h25, e25, z25, w25, f25⟩ := S_X7_refuse (E := E) (y := 1) (z := 0) hX
    subst z25
    have W_25 := wh_fr hW f25 (by omega)
    have F25 : Fr x 1 h h25 := fr_tr fr_rf (fr_in f25 (by omega) (by omega))
    refine xv (x_inv1 28 (as := [Value.int (zi 1), Value.int (zi 0)]) d_X7_refusesGoal_25 rfl c_7_109 rfl (Nat.le_of_ble_eq_true rfl) (Nat.le_of_ble_eq_true rfl) hX (Nat.le_of_ble_eq_true rfl) (Nat.le_of_ble_eq_true rfl) rfl e25) ?_
    show Xv E q_m_X7_refusesGoal 28 [Value.ref x, Value.int (zi y), Value.int (zi z)] [Value.int (zi 1)] h25 Q
    refine xv_r (x_ireturn d_X7_refusesGoal_28 rfl rfl) ?_
    have er : rfGoa l y z = (1, 0) := by unfold rfGoa; repeat (first | rw [if_pos (by omega)] | rw [if_neg (by omega)])
    refine hQ _ _ ?_
    rw [er]
    exact ⟨by rw [bI_t (show ¬ ((1, 0) : Int × Int).1 = 0 from fun e_ => absurd (show (1 : Int) = 0 from e_) (by decide))], w25, W_25, F25⟩
  · replace k8 := bI_n0.mp k8
    refine xv (x_aload_n 12 d_X7_refusesGoal_11 rfl rfl) ?_
    refine xv (x_getfield 15 d_X7_refusesGoal_12 rfl f_7_12 (Nat.le_of_ble_eq_true rfl) (Nat.le_of_ble_eq_true rfl) (q_gf_of hX rfl)) ?_
    refine xv (x_iload_n 16 d_X7_refusesGoal_15 rfl rfl) ?_
    refine xv (x_inv1 19 (as := [Value.int (zi z)]) d_X7_refusesGoal_16 rfl c_7_105 rfl (Nat.le_of_ble_eq_true rfl) (Nat.le_of_ble_eq_true rfl) (wh_o hW) (Nat.le_of_ble_eq_true rfl) (Nat.le_of_ble_eq_true rfl) rfl (S_X6_isCell hW hR (by omega) (by omega))) ?_
    show Xv E q_m_X7_refusesGoal 19 [Value.ref x, Value.int (zi y), Value.int (zi z)] [Value.int (zi (bI (isC l z)))] h Q
    refine v_if_ne 29 22 d_X7_refusesGoal_19 rfl rfl (by have := bI_r (isC l z); omega) (by have := bI_r (isC l z); omega) (fun k19 => ?_) (fun k19 => ?_)
    · replace k19 := bI_n0.mp k19
      refine xv (x_aload_n 30 d_X7_refusesGoal_29 rfl rfl) ?_
      refine xv (x_getfield 33 d_X7_refusesGoal_30 rfl f_7_12 (Nat.le_of_ble_eq_true rfl) (Nat.le_of_ble_eq_true rfl) (q_gf_of hX rfl)) ?_
      refine xv (x_getfield 36 d_X7_refusesGoal_33 rfl f_7_131 (Nat.le_of_ble_eq_true rfl) (Nat.le_of_ble_eq_true rfl) (q_gf_of (wh_o hW) rfl)) ?_
      refine xv (x_iload_n 37 d_X7_refusesGoal_36 rfl rfl) ?_
      refine xv (x_aaload 38 d_X7_refusesGoal_37 rfl (wh_rs hW (by omega) (by omega))) ?_
      refine xv (x_getfield 41 d_X7_refusesGoal_38 rfl f_7_230 (Nat.le_of_ble_eq_true rfl) (Nat.le_of_ble_eq_true rfl) (q_gf_of (wh_r hW (by omega) (by omega)).1 rfl)) ?_
      have q38 := gr y (by omega) (by omega)
      refine v_if_le 63 44 d_X7_refusesGoal_41 rfl rfl (by omega) (by omega) (fun k41 => ?_) (fun k41 => ?_)
      · refine xv (x_aload_n 64 d_X7_refusesGoal_63 rfl rfl) ?_
        refine xv (x_getfield 67 d_X7_refusesGoal_64 rfl f_7_12 (Nat.le_of_ble_eq_true rfl) (Nat.le_of_ble_eq_true rfl) (q_gf_of hX rfl)) ?_
        refine xv (x_getfield 70 d_X7_refusesGoal_67 rfl f_7_131 (Nat.le_of_ble_eq_true rfl) (Nat.le_of_ble_eq_true rfl) (q_gf_of (wh_o hW) rfl)) ?_
        refine xv (x_iload_n 71 d_X7_refusesGoal_70 rfl rfl) ?_
        refine xv (x_aaload 72 d_X7_refusesGoal_71 rfl (wh_rs hW (by omega) (by omega))) ?_
        refine xv (x_getfield 75 d_X7_refusesGoal_72 rfl f_7_233 (Nat.le_of_ble_eq_true rfl) (Nat.le_of_ble_eq_true rfl) (q_gf_of (wh_r hW (by omega) (by omega)).1 rfl)) ?_
        have q72 := gr y (by omega) (by omega)
        refine xv (x_iload_n 76 d_X7_refusesGoal_75 rfl rfl) ?_
        refine v_icmp_ne 87 79 d_X7_refusesGoal_76 rfl rfl (by omega) (by omega) (by omega) (by omega) (fun k76 => ?_) (fun k76 => ?_)
        · refine xv (x_aload_n 88 d_X7_refusesGoal_87 rfl rfl) ?_
          refine xv (x_getfield 91 d_X7_refusesGoal_88 rfl f_7_12 (Nat.le_of_ble_eq_true rfl) (Nat.le_of_ble_eq_true rfl) (q_gf_of hX rfl)) ?_
          refine xv (x_iload_n 92 d_X7_refusesGoal_91 rfl rfl) ?_
          refine xv (x_inv1 95 (as := [Value.int (zi z)]) d_X7_refusesGoal_92 rfl c_7_115 rfl (Nat.le_of_ble_eq_true rfl) (Nat.le_of_ble_eq_true rfl) (wh_o hW) (Nat.le_of_ble_eq_true rfl) (Nat.le_of_ble_eq_true rfl) rfl (S_X6_canEnter hW hR (by omega) (by omega))) ?_
          show Xv E q_m_X7_refusesGoal 95 [Value.ref x, Value.int (zi y), Value.int (zi z)] [Value.int (zi (bI (isC l z ∧ ent l z)))] h Q
          refine v_if_ne 105 98 d_X7_refusesGoal_95 rfl rfl (by have := bI_r (isC l z ∧ ent l z); omega) (by have := bI_r (isC l z ∧ ent l z); omega) (fun k95 => ?_) (fun k95 => ?_)
          · replace k95 := bI_n0.mp k95
            refine xv (x_iconst 106 d_X7_refusesGoal_105 rfl) ?_
            refine xv_r (x_ireturn d_X7_refusesGoal_106 rfl rfl) ?_
            have er : rfGoa l y z = (0, 0) := by unfold rfGoa; repeat (first | rw [if_pos (by omega)] | rw [if_neg (by omega)])
            refine hQ _ _ ?_
            rw [er]
            exact ⟨by rw [bI_f (show ¬ ¬ ((0, 0) : Int × Int).1 = 0 from fun e_ => e_ rfl)], hX, hW, fr_rf⟩
          · replace k95 := bI_0.mp k95
            refine xv (x_aload_n 99 d_X7_refusesGoal_98 rfl rfl) ?_
            refine xv (x_iconst 100 d_X7_refusesGoal_99 rfl) ?_
            refine xv (x_iload_n 101 d_X7_refusesGoal_100 rfl rfl) ?_
            obtain ⟨r101, h101, e101, z101, w101, f101⟩ := S_X7_refuse (E := E) (y := 4) (z := z) hX
            subst z101
            have W_101 := wh_fr hW f101 (by omega)
            have F101 : Fr x 1 h h101 := fr_tr fr_rf (fr_in f101 (by omega) (by omega))
            refine xv (x_inv1 104 (as := [Value.int (zi 4), Value.int (zi z)]) d_X7_refusesGoal_101 rfl c_7_109 rfl (Nat.le_of_ble_eq_true rfl) (Nat.le_of_ble_eq_true rfl) hX (Nat.le_of_ble_eq_true rfl) (Nat.le_of_ble_eq_true rfl) rfl e101) ?_
            show Xv E q_m_X7_refusesGoal 104 [Value.ref x, Value.int (zi y), Value.int (zi z)] [Value.int (zi 1)] h101 Q
            refine xv_r (x_ireturn d_X7_refusesGoal_104 rfl rfl) ?_
            have er : rfGoa l y z = (4, z) := by unfold rfGoa; repeat (first | rw [if_pos (by omega)] | rw [if_neg (by omega)])
            refine hQ _ _ ?_
            rw [er]
            exact ⟨by rw [bI_t (show ¬ ((4, z) : Int × Int).1 = 0 from fun e_ => absurd (show (4 : Int) = 0 from e_) (by decide))], w101, W_101, F101⟩
        · refine xv (x_aload_n 80 d_X7_refusesGoal_79 rfl rfl) ?_
          refine xv (x_bipush 82 d_X7_refusesGoal_80 rfl rfl) ?_
          refine xv (x_iconst 83 d_X7_refusesGoal_82 rfl) ?_
          obtain ⟨r83, h83, e83, z83, w83, f83⟩ := S_X7_refuse (E := E) (y := 9) (z := 0) hX
          subst z83
          have W_83 := wh_fr hW f83 (by omega)
          have F83 : Fr x 1 h h83 := fr_tr fr_rf (fr_in f83 (by omega) (by omega))
          refine xv (x_inv1 86 (as := [Value.int (zi 9), Value.int (zi 0)]) d_X7_refusesGoal_83 rfl c_7_109 rfl (Nat.le_of_ble_eq_true rfl) (Nat.le_of_ble_eq_true rfl) hX (Nat.le_of_ble_eq_true rfl) (Nat.le_of_ble_eq_true rfl) rfl e83) ?_
          show Xv E q_m_X7_refusesGoal 86 [Value.ref x, Value.int (zi y), Value.int (zi z)] [Value.int (zi 1)] h83 Q
          refine xv_r (x_ireturn d_X7_refusesGoal_86 rfl rfl) ?_
          have er : rfGoa l y z = (9, 0) := by unfold rfGoa; repeat (first | rw [if_pos (by omega)] | rw [if_neg (by omega)])
          refine hQ _ _ ?_
          rw [er]
          exact ⟨by rw [bI_t (show ¬ ((9, 0) : Int × Int).1 = 0 from fun e_ => absurd (show (9 : Int) = 0 from e_) (by decide))], w83, W_83, F83⟩
      · refine xv (x_aload_n 45 d_X7_refusesGoal_44 rfl rfl) ?_
        refine xv (x_bipush 47 d_X7_refusesGoal_45 rfl rfl) ?_
        refine xv (x_aload_n 48 d_X7_refusesGoal_47 rfl rfl) ?_
        refine xv (x_getfield 51 d_X7_refusesGoal_48 rfl f_7_12 (Nat.le_of_ble_eq_true rfl) (Nat.le_of_ble_eq_true rfl) (q_gf_of hX rfl)) ?_
        refine xv (x_getfield 54 d_X7_refusesGoal_51 rfl f_7_131 (Nat.le_of_ble_eq_true rfl) (Nat.le_of_ble_eq_true rfl) (q_gf_of (wh_o hW) rfl)) ?_
        refine xv (x_iload_n 55 d_X7_refusesGoal_54 rfl rfl) ?_
        refine xv (x_aaload 56 d_X7_refusesGoal_55 rfl (wh_rs hW (by omega) (by omega))) ?_
        refine xv (x_getfield 59 d_X7_refusesGoal_56 rfl f_7_230 (Nat.le_of_ble_eq_true rfl) (Nat.le_of_ble_eq_true rfl) (q_gf_of (wh_r hW (by omega) (by omega)).1 rfl)) ?_
        have q56 := gr y (by omega) (by omega)
        obtain ⟨r59, h59, e59, z59, w59, f59⟩ := S_X7_refuse (E := E) (y := 6) (z := rb l y 3) hX
        subst z59
        have W_59 := wh_fr hW f59 (by omega)
        have F59 : Fr x 1 h h59 := fr_tr fr_rf (fr_in f59 (by omega) (by omega))
        refine xv (x_inv1 62 (as := [Value.int (zi 6), Value.int (zi (rb l y 3))]) d_X7_refusesGoal_59 rfl c_7_109 rfl (Nat.le_of_ble_eq_true rfl) (Nat.le_of_ble_eq_true rfl) hX (Nat.le_of_ble_eq_true rfl) (Nat.le_of_ble_eq_true rfl) rfl e59) ?_
        show Xv E q_m_X7_refusesGoal 62 [Value.ref x, Value.int (zi y), Value.int (zi z)] [Value.int (zi 1)] h59 Q
        refine xv_r (x_ireturn d_X7_refusesGoal_62 rfl rfl) ?_
        have er : rfGoa l y z = (6, rb l y 3) := by unfold rfGoa; repeat (first | rw [if_pos (by omega)] | rw [if_neg (by omega)])
        refine hQ _ _ ?_
        rw [er]
        exact ⟨by rw [bI_t (show ¬ ((6, rb l y 3) : Int × Int).1 = 0 from fun e_ => absurd (show (6 : Int) = 0 from e_) (by decide))], w59, W_59, F59⟩
    · replace k19 := bI_0.mp k19
      refine xv (x_aload_n 23 d_X7_refusesGoal_22 rfl rfl) ?_
      refine xv (x_iconst 24 d_X7_refusesGoal_23 rfl) ?_
      refine xv (x_iconst 25 d_X7_refusesGoal_24 rfl) ?_
      obtain ⟨r25, h25, e25, z25, w25, f25⟩ := S_X7_refuse (E := E) (y := 1) (z := 0) hX
      subst z25
      have W_25 := wh_fr hW f25 (by omega)
      have F25 : Fr x 1 h h25 := fr_tr fr_rf (fr_in f25 (by omega) (by omega))
      refine xv (x_inv1 28 (as := [Value.int (zi 1), Value.int (zi 0)]) d_X7_refusesGoal_25 rfl c_7_109 rfl (Nat.le_of_ble_eq_true rfl) (Nat.le_of_ble_eq_true rfl) hX (Nat.le_of_ble_eq_true rfl) (Nat.le_of_ble_eq_true rfl) rfl e25) ?_
      show Xv E q_m_X7_refusesGoal 28 [Value.ref x, Value.int (zi y), Value.int (zi z)] [Value.int (zi 1)] h25 Q
      refine xv_r (x_ireturn d_X7_refusesGoal_28 rfl rfl) ?_
      have er : rfGoa l y z = (1, 0) := by unfold rfGoa; repeat (first | rw [if_pos (by omega)] | rw [if_neg (by omega)])
      refine hQ _ _ ?_
      rw [er]
      exact ⟨by rw [bI_t (show ¬ ((1, 0) : Int × Int).1 = 0 from fun e_ => absurd (show (1 : Int) = 0 from e_) (by decide))], w25, W_25, F25⟩
theorem S_X7_refusesCancel (hX : CAo h x hs fa kr kd_) (hW : WH h (x + 1) l p) (hR : RgC l) {y : Int} (y0 : -2147483648 ≤ y) (y1 : y < 2147483648) : ∃ r_ h', q_cl E q_m_X7_refusesCancel [Value.ref x, Value.int (zi y)] h = some (r_, h') ∧ (r_ = .inl (some (.int (zi (bI (¬ (rfCan l y).1 = 0))))) ∧ CAo h' x hs fa (krn (rfCan l y) kr) (kdn (rfCan l y) kd_) ∧ WH h' (x + 1) l p ∧ Fr x 1 h h') := by
  suffices K : ∀ Q : q_R → q_H → Prop, (∀ r_ h', (r_ = .inl (some (.int (zi (bI (¬ (rfCan l y).1 = 0))))) ∧ CAo h' x hs fa (krn (rfCan l y) kr) (kdn (rfCan l y) kd_) ∧ WH h' (x + 1) l p ∧ Fr x 1 h h') → Q r_ h') → Xv E q_m_X7_refusesCancel 0 [Value.ref x, Value.int (zi y)] [] h Q from K _ fun _ _ p => p
  intro Q hQ
  obtain ⟨g0, g1, g2, g3, g4, gc, g5, g6, g7, gk, gl, gr, go⟩ := id hR
  refine xv (x_aload_n 1 d_X7_refusesCancel_0 rfl rfl) ?_
  refine xv (x_getfield 4 d_X7_refusesCancel_1 rfl f_7_12 (Nat.le_of_ble_eq_true rfl) (Nat.le_of_ble_eq_true rfl) (q_gf_of hX rfl)) ?_
  refine xv (x_iload_n 5 d_X7_refusesCancel_4 rfl rfl) ?_
  refine xv (x_inv1 8 (as := [Value.int (zi y)]) d_X7_refusesCancel_5 rfl c_7_128 rfl (Nat.le_of_ble_eq_true rfl) (Nat.le_of_ble_eq_true rfl) (wh_o hW) (Nat.le_of_ble_eq_true rfl) (Nat.le_of_ble_eq_true rfl) rfl (S_X6_isRobot hW hR (by omega) (by omega))) ?_
  show Xv E q_m_X7_refusesCancel 8 [Value.ref x, Value.int (zi y)] [Value.int (zi (bI (isR l y)))] h Q
  refine v_if_ne 18 11 d_X7_refusesCancel_8 rfl rfl (by have := bI_r (isR l y); omega) (by have := bI_r (isR l y); omega) (fun k8 => ?_) (fun k8 => ?_)
  · replace k8 := bI_n0.mp k8
    refine xv (x_aload_n 19 d_X7_refusesCancel_18 rfl rfl) ?_
    refine xv (x_getfield 22 d_X7_refusesCancel_19 rfl f_7_12 (Nat.le_of_ble_eq_true rfl) (Nat.le_of_ble_eq_true rfl) (q_gf_of hX rfl)) ?_
    refine xv (x_getfield 25 d_X7_refusesCancel_22 rfl f_7_131 (Nat.le_of_ble_eq_true rfl) (Nat.le_of_ble_eq_true rfl) (q_gf_of (wh_o hW) rfl)) ?_
    refine xv (x_iload_n 26 d_X7_refusesCancel_25 rfl rfl) ?_
    refine xv (x_aaload 27 d_X7_refusesCancel_26 rfl (wh_rs hW (by omega) (by omega))) ?_
    refine xv (x_getfield 30 d_X7_refusesCancel_27 rfl f_7_230 (Nat.le_of_ble_eq_true rfl) (Nat.le_of_ble_eq_true rfl) (q_gf_of (wh_r hW (by omega) (by omega)).1 rfl)) ?_
    have q27 := gr y (by omega) (by omega)
    refine v_if_ne 41 33 d_X7_refusesCancel_30 rfl rfl (by omega) (by omega) (fun k30 => ?_) (fun k30 => ?_)
    · refine xv (x_aload_n 42 d_X7_refusesCancel_41 rfl rfl) ?_
      refine xv (x_aload_n 43 d_X7_refusesCancel_42 rfl rfl) ?_
      refine xv (x_getfield 46 d_X7_refusesCancel_43 rfl f_7_12 (Nat.le_of_ble_eq_true rfl) (Nat.le_of_ble_eq_true rfl) (q_gf_of hX rfl)) ?_
      refine xv (x_getfield 49 d_X7_refusesCancel_46 rfl f_7_131 (Nat.le_of_ble_eq_true rfl) (Nat.le_of_ble_eq_true rfl) (q_gf_of (wh_o hW) rfl)) ?_
      refine xv (x_iload_n 50 d_X7_refusesCancel_49 rfl rfl) ?_
      refine xv (x_aaload 51 d_X7_refusesCancel_50 rfl (wh_rs hW (by omega) (by omega))) ?_
      refine xv (x_getfield 54 d_X7_refusesCancel_51 rfl f_7_233 (Nat.le_of_ble_eq_true rfl) (Nat.le_of_ble_eq_true rfl) (q_gf_of (wh_r hW (by omega) (by omega)).1 rfl)) ?_
      have q51 := gr y (by omega) (by omega)
      refine xv (x_iload_n 55 d_X7_refusesCancel_54 rfl rfl) ?_
      obtain ⟨r55, h55, e55, z55, w55, u55, f55⟩ := S_X7_refusesRobotsCell (E := E) (y := rb l y 0) (z := y) hX hW hR (by omega) (by omega) (by omega) (by omega)
      subst z55
      have F55 : Fr x 1 h h55 := fr_tr fr_rf (fr_in f55 (by omega) (by omega))
      refine xv (x_inv1 58 (as := [Value.int (zi (rb l y 0)), Value.int (zi y)]) d_X7_refusesCancel_55 rfl c_7_118 rfl (Nat.le_of_ble_eq_true rfl) (Nat.le_of_ble_eq_true rfl) hX (Nat.le_of_ble_eq_true rfl) (Nat.le_of_ble_eq_true rfl) rfl e55) ?_
      show Xv E q_m_X7_refusesCancel 58 [Value.ref x, Value.int (zi y)] [Value.int (zi (bI (¬ (rfRC l (rb l y 0) y).1 = 0)))] h55 Q
      refine xv_r (x_ireturn d_X7_refusesCancel_58 rfl nb_bI) ?_
      have er : rfCan l y = rfRC l (rb l y 0) y := by unfold rfCan; repeat (first | rw [if_pos (by omega)] | rw [if_neg (by omega)])
      refine hQ _ _ ?_
      rw [er]
      exact ⟨rfl, w55, u55, F55⟩
    · refine xv (x_aload_n 34 d_X7_refusesCancel_33 rfl rfl) ?_
      refine xv (x_bipush 36 d_X7_refusesCancel_34 rfl rfl) ?_
      refine xv (x_iconst 37 d_X7_refusesCancel_36 rfl) ?_
      obtain ⟨r37, h37, e37, z37, w37, f37⟩ := S_X7_refuse (E := E) (y := 14) (z := 0) hX
      subst z37
      have W_37 := wh_fr hW f37 (by omega)
      have F37 : Fr x 1 h h37 := fr_tr fr_rf (fr_in f37 (by omega) (by omega))
      refine xv (x_inv1 40 (as := [Value.int (zi 14), Value.int (zi 0)]) d_X7_refusesCancel_37 rfl c_7_109 rfl (Nat.le_of_ble_eq_true rfl) (Nat.le_of_ble_eq_true rfl) hX (Nat.le_of_ble_eq_true rfl) (Nat.le_of_ble_eq_true rfl) rfl e37) ?_
      show Xv E q_m_X7_refusesCancel 40 [Value.ref x, Value.int (zi y)] [Value.int (zi 1)] h37 Q
      refine xv_r (x_ireturn d_X7_refusesCancel_40 rfl rfl) ?_
      have er : rfCan l y = (14, 0) := by unfold rfCan; repeat (first | rw [if_pos (by omega)] | rw [if_neg (by omega)])
      refine hQ _ _ ?_
      rw [er]
      exact ⟨by rw [bI_t (show ¬ ((14, 0) : Int × Int).1 = 0 from fun e_ => absurd (show (14 : Int) = 0 from e_) (by decide))], w37, W_37, F37⟩
  · replace k8 := bI_0.mp k8
    refine xv (x_aload_n 12 d_X7_refusesCancel_11 rfl rfl) ?_
    refine xv (x_iconst 13 d_X7_refusesCancel_12 rfl) ?_
    refine xv (x_iconst 14 d_X7_refusesCancel_13 rfl) ?_
    obtain ⟨r14, h14, e14, z14, w14, f14⟩ := S_X7_refuse (E := E) (y := 1) (z := 0) hX
    subst z14
    have W_14 := wh_fr hW f14 (by omega)
    have F14 : Fr x 1 h h14 := fr_tr fr_rf (fr_in f14 (by omega) (by omega))
    refine xv (x_inv1 17 (as := [Value.int (zi 1), Value.int (zi 0)]) d_X7_refusesCancel_14 rfl c_7_109 rfl (Nat.le_of_ble_eq_true rfl) (Nat.le_of_ble_eq_true rfl) hX (Nat.le_of_ble_eq_true rfl) (Nat.le_of_ble_eq_true rfl) rfl e14) ?_
    show Xv E q_m_X7_refusesCancel 17 [Value.ref x, Value.int (zi y)] [Value.int (zi 1)] h14 Q
    refine xv_r (x_ireturn d_X7_refusesCancel_17 rfl rfl) ?_
    have er : rfCan l y = (1, 0) := by unfold rfCan; repeat (first | rw [if_pos (by omega)] | rw [if_neg (by omega)])
    refine hQ _ _ ?_
    rw [er]
    exact ⟨by rw [bI_t (show ¬ ((1, 0) : Int × Int).1 = 0 from fun e_ => absurd (show (1 : Int) = 0 from e_) (by decide))], w14, W_14, F14⟩
theorem S_X7_refusesPass (hX : CAo h x hs fa kr kd_) (hW : WH h (x + 1) l p) (hR : RgC l) {y : Int} (y0 : -2147483648 ≤ y) (y1 : y < 2147483648) : ∃ r_ h', q_cl E q_m_X7_refusesPass [Value.ref x, Value.int (zi y)] h = some (r_, h') ∧ (r_ = .inl (some (.int (zi (bI (¬ (rfPas y).1 = 0))))) ∧ CAo h' x hs fa (krn (rfPas y) kr) (kdn (rfPas y) kd_) ∧ WH h' (x + 1) l p ∧ Fr x 1 h h') := by
  suffices K : ∀ Q : q_R → q_H → Prop, (∀ r_ h', (r_ = .inl (some (.int (zi (bI (¬ (rfPas y).1 = 0))))) ∧ CAo h' x hs fa (krn (rfPas y) kr) (kdn (rfPas y) kd_) ∧ WH h' (x + 1) l p ∧ Fr x 1 h h') → Q r_ h') → Xv E q_m_X7_refusesPass 0 [Value.ref x, Value.int (zi y)] [] h Q from K _ fun _ _ p => p
  intro Q hQ
  obtain ⟨g0, g1, g2, g3, g4, gc, g5, g6, g7, gk, gl, gr, go⟩ := id hR
  refine xv (x_iload_n 1 d_X7_refusesPass_0 rfl rfl) ?_
  refine xv (x_iconst 2 d_X7_refusesPass_1 rfl) ?_
  refine v_icmp_lt 11 5 d_X7_refusesPass_2 rfl rfl (by omega) (by omega) (by omega) (by omega) (fun k2 => ?_) (fun k2 => ?_)
  · refine xv (x_aload_n 12 d_X7_refusesPass_11 rfl rfl) ?_
    refine xv (x_iconst 13 d_X7_refusesPass_12 rfl) ?_
    refine xv (x_iconst 14 d_X7_refusesPass_13 rfl) ?_
    obtain ⟨r14, h14, e14, z14, w14, f14⟩ := S_X7_refuse (E := E) (y := 2) (z := 0) hX
    subst z14
    have W_14 := wh_fr hW f14 (by omega)
    have F14 : Fr x 1 h h14 := fr_tr fr_rf (fr_in f14 (by omega) (by omega))
    refine xv (x_inv1 17 (as := [Value.int (zi 2), Value.int (zi 0)]) d_X7_refusesPass_14 rfl c_7_109 rfl (Nat.le_of_ble_eq_true rfl) (Nat.le_of_ble_eq_true rfl) hX (Nat.le_of_ble_eq_true rfl) (Nat.le_of_ble_eq_true rfl) rfl e14) ?_
    show Xv E q_m_X7_refusesPass 17 [Value.ref x, Value.int (zi y)] [Value.int (zi 1)] h14 Q
    refine xv_r (x_ireturn d_X7_refusesPass_17 rfl rfl) ?_
    have er : rfPas y = (2, 0) := by unfold rfPas; repeat (first | rw [if_pos (by omega)] | rw [if_neg (by omega)])
    refine hQ _ _ ?_
    rw [er]
    exact ⟨by rw [bI_t (show ¬ ((2, 0) : Int × Int).1 = 0 from fun e_ => absurd (show (2 : Int) = 0 from e_) (by decide))], w14, W_14, F14⟩
  · refine xv (x_iload_n 6 d_X7_refusesPass_5 rfl rfl) ?_
    refine xv (x_bipush 8 d_X7_refusesPass_6 rfl rfl) ?_
    refine v_icmp_le 18 11 d_X7_refusesPass_8 rfl rfl (by omega) (by omega) (by omega) (by omega) (fun k8 => ?_) (fun k8 => ?_)
    · refine xv (x_iconst 19 d_X7_refusesPass_18 rfl) ?_
      refine xv_r (x_ireturn d_X7_refusesPass_19 rfl rfl) ?_
      have er : rfPas y = (0, 0) := by unfold rfPas; repeat (first | rw [if_pos (by omega)] | rw [if_neg (by omega)])
      refine hQ _ _ ?_
      rw [er]
      exact ⟨by rw [bI_f (show ¬ ¬ ((0, 0) : Int × Int).1 = 0 from fun e_ => e_ rfl)], hX, hW, fr_rf⟩
    · refine xv (x_aload_n 12 d_X7_refusesPass_11 rfl rfl) ?_
      refine xv (x_iconst 13 d_X7_refusesPass_12 rfl) ?_
      refine xv (x_iconst 14 d_X7_refusesPass_13 rfl) ?_
      obtain ⟨r14, h14, e14, z14, w14, f14⟩ := S_X7_refuse (E := E) (y := 2) (z := 0) hX
      subst z14
      have W_14 := wh_fr hW f14 (by omega)
      have F14 : Fr x 1 h h14 := fr_tr fr_rf (fr_in f14 (by omega) (by omega))
      refine xv (x_inv1 17 (as := [Value.int (zi 2), Value.int (zi 0)]) d_X7_refusesPass_14 rfl c_7_109 rfl (Nat.le_of_ble_eq_true rfl) (Nat.le_of_ble_eq_true rfl) hX (Nat.le_of_ble_eq_true rfl) (Nat.le_of_ble_eq_true rfl) rfl e14) ?_
      show Xv E q_m_X7_refusesPass 17 [Value.ref x, Value.int (zi y)] [Value.int (zi 1)] h14 Q
      refine xv_r (x_ireturn d_X7_refusesPass_17 rfl rfl) ?_
      have er : rfPas y = (2, 0) := by unfold rfPas; repeat (first | rw [if_pos (by omega)] | rw [if_neg (by omega)])
      refine hQ _ _ ?_
      rw [er]
      exact ⟨by rw [bI_t (show ¬ ((2, 0) : Int × Int).1 = 0 from fun e_ => absurd (show (2 : Int) = 0 from e_) (by decide))], w14, W_14, F14⟩
def qL_ (k : Int) : Int := [1, 1, 1].getD k.toNat 0
def qM_ (k : Int) : Int := [20, 3, 30].getD k.toNat 0
theorem qL_r (k : Int) : (0 ≤ qL_ k ∧ qL_ k ≤ 1) ∧ (0 ≤ k → k < 3 → qL_ k = 1) := by
  have e : (0 ≤ k → k < 3 → qL_ k = 1) := fun a b => by
    rcases (by omega : k = 0 ∨ k = 1 ∨ k = 2) with q | q | q <;> subst q <;> rfl
  refine ⟨?_, e⟩
  unfold qL_
  match k.toNat with
  | 0 => decide
  | 1 => decide
  | 2 => decide
  | _ + 3 => exact (by decide : (0 : Int) ≤ 0 ∧ (0 : Int) ≤ 1)
theorem qM_r (k : Int) : (0 ≤ qM_ k ∧ qM_ k ≤ 30) ∧ (0 ≤ k → k < 3 → qM_ k = mst2 k) := by
  have e : (0 ≤ k → k < 3 → qM_ k = mst2 k) := fun a b => by
    rcases (by omega : k = 0 ∨ k = 1 ∨ k = 2) with q | q | q <;> subst q <;> rfl
  refine ⟨?_, e⟩
  unfold qM_
  match k.toNat with
  | 0 => decide
  | 1 => decide
  | 2 => decide
  | _ + 3 => exact (by decide : (0 : Int) ≤ 0 ∧ (0 : Int) ≤ 30)
theorem S_X7_refusesSet (hE : q_EN E N) (hLo : Lo h N) (hX : CAo h x hs fa kr kd_) (hW : WH h (x + 1) l p) (hR : RgC l) {y z : Int} (y0 : -2147483648 ≤ y) (y1 : y < 2147483648) (z0 : -2147483648 ≤ z) (z1 : z < 2147483648) : ∃ r_ h', q_cl E q_m_X7_refusesSet [Value.ref x, Value.int (zi y), Value.int (zi z)] h = some (r_, h') ∧ (r_ = .inl (some (.int (zi (bI (¬ (rfSet y z).1 = 0))))) ∧ CAo h' x hs fa (krn (rfSet y z) kr) (kdn (rfSet y z) kd_) ∧ WH h' (x + 1) l p ∧ Fr x 1 h h') := by
  suffices K : ∀ Q : q_R → q_H → Prop, (∀ r_ h', (r_ = .inl (some (.int (zi (bI (¬ (rfSet y z).1 = 0))))) ∧ CAo h' x hs fa (krn (rfSet y z) kr) (kdn (rfSet y z) kd_) ∧ WH h' (x + 1) l p ∧ Fr x 1 h h') → Q r_ h') → Xv E q_m_X7_refusesSet 0 [Value.ref x, Value.int (zi y), Value.int (zi z)] [] h Q from K _ fun _ _ p => p
  intro Q hQ
  obtain ⟨g0, g1, g2, g3, g4, gc, g5, g6, g7, gk, gl, gr, go⟩ := id hR
  obtain ⟨a1_, u1_, s1_, t1_⟩ := hE.2.1
  obtain ⟨a2_, u2_, s2_, t2_⟩ := hE.2.2.1
  refine xv (x_iload_n 1 d_X7_refusesSet_0 rfl rfl) ?_
  refine v_if_lt 9 4 d_X7_refusesSet_1 rfl rfl (by omega) (by omega) (fun k1 => ?_) (fun k1 => ?_)
  · refine xv (x_aload_n 10 d_X7_refusesSet_9 rfl rfl) ?_
    refine xv (x_iconst 11 d_X7_refusesSet_10 rfl) ?_
    refine xv (x_iconst 12 d_X7_refusesSet_11 rfl) ?_
    obtain ⟨r12, h12, e12, z12, w12, f12⟩ := S_X7_refuse (E := E) (y := 2) (z := 0) hX
    subst z12
    have W_12 := wh_fr hW f12 (by omega)
    have F12 : Fr x 1 h h12 := fr_tr fr_rf (fr_in f12 (by omega) (by omega))
    refine xv (x_inv1 15 (as := [Value.int (zi 2), Value.int (zi 0)]) d_X7_refusesSet_12 rfl c_7_109 rfl (Nat.le_of_ble_eq_true rfl) (Nat.le_of_ble_eq_true rfl) hX (Nat.le_of_ble_eq_true rfl) (Nat.le_of_ble_eq_true rfl) rfl e12) ?_
    show Xv E q_m_X7_refusesSet 15 [Value.ref x, Value.int (zi y), Value.int (zi z)] [Value.int (zi 1)] h12 Q
    refine xv_r (x_ireturn d_X7_refusesSet_15 rfl rfl) ?_
    have er : rfSet y z = (2, 0) := by unfold rfSet; repeat (first | rw [if_pos (by omega)] | rw [if_neg (by omega)])
    refine hQ _ _ ?_
    rw [er]
    exact ⟨by rw [bI_t (show ¬ ((2, 0) : Int × Int).1 = 0 from fun e_ => absurd (show (2 : Int) = 0 from e_) (by decide))], w12, W_12, F12⟩
  · refine xv (x_iload_n 5 d_X7_refusesSet_4 rfl rfl) ?_
    refine xv (x_iconst 6 d_X7_refusesSet_5 rfl) ?_
    refine v_icmp_lt 16 9 d_X7_refusesSet_6 rfl rfl (by omega) (by omega) (by omega) (by omega) (fun k6 => ?_) (fun k6 => ?_)
    · refine xv (x_iload_n 17 d_X7_refusesSet_16 rfl rfl) ?_
      refine xv (x_getstatic 20 d_X7_refusesSet_17 rfl rfl (Nat.le_of_ble_eq_true rfl) s1_) ?_
      refine xv (x_iload_n 21 d_X7_refusesSet_20 rfl rfl) ?_
      refine xv (x_iaload 22 d_X7_refusesSet_21 rfl ((q_gIro (hLo _ u1_) t1_ (by omega) (by omega) (by decide)).trans (rfl : _ = some (Value.int (zi (qL_ y)))))) ?_
      have q_L := qL_r y
      refine v_icmp_lt 34 25 d_X7_refusesSet_22 rfl rfl (by omega) (by omega) (by omega) (by omega) (fun k22 => ?_) (fun k22 => ?_)
      · refine xv (x_aload_n 35 d_X7_refusesSet_34 rfl rfl) ?_
        refine xv (x_iconst 36 d_X7_refusesSet_35 rfl) ?_
        refine xv (x_iconst 37 d_X7_refusesSet_36 rfl) ?_
        obtain ⟨r37, h37, e37, z37, w37, f37⟩ := S_X7_refuse (E := E) (y := 2) (z := 0) hX
        subst z37
        have W_37 := wh_fr hW f37 (by omega)
        have F37 : Fr x 1 h h37 := fr_tr fr_rf (fr_in f37 (by omega) (by omega))
        refine xv (x_inv1 40 (as := [Value.int (zi 2), Value.int (zi 0)]) d_X7_refusesSet_37 rfl c_7_109 rfl (Nat.le_of_ble_eq_true rfl) (Nat.le_of_ble_eq_true rfl) hX (Nat.le_of_ble_eq_true rfl) (Nat.le_of_ble_eq_true rfl) rfl e37) ?_
        show Xv E q_m_X7_refusesSet 40 [Value.ref x, Value.int (zi y), Value.int (zi z)] [Value.int (zi 1)] h37 Q
        refine xv_r (x_ireturn d_X7_refusesSet_40 rfl rfl) ?_
        have er : rfSet y z = (2, 0) := by unfold rfSet; repeat (first | rw [if_pos (by omega)] | rw [if_neg (by omega)])
        refine hQ _ _ ?_
        rw [er]
        exact ⟨by rw [bI_t (show ¬ ((2, 0) : Int × Int).1 = 0 from fun e_ => absurd (show (2 : Int) = 0 from e_) (by decide))], w37, W_37, F37⟩
      · refine xv (x_iload_n 26 d_X7_refusesSet_25 rfl rfl) ?_
        refine xv (x_getstatic 29 d_X7_refusesSet_26 rfl rfl (Nat.le_of_ble_eq_true rfl) s2_) ?_
        refine xv (x_iload_n 30 d_X7_refusesSet_29 rfl rfl) ?_
        refine xv (x_iaload 31 d_X7_refusesSet_30 rfl ((q_gIro (hLo _ u2_) t2_ (by omega) (by omega) (by decide)).trans (rfl : _ = some (Value.int (zi (qM_ y)))))) ?_
        have q_M := qM_r y
        refine v_icmp_le 41 34 d_X7_refusesSet_31 rfl rfl (by omega) (by omega) (by omega) (by omega) (fun k31 => ?_) (fun k31 => ?_)
        · refine xv (x_iconst 42 d_X7_refusesSet_41 rfl) ?_
          refine xv_r (x_ireturn d_X7_refusesSet_42 rfl rfl) ?_
          have er : rfSet y z = (0, 0) := by unfold rfSet; repeat (first | rw [if_pos (by omega)] | rw [if_neg (by omega)])
          refine hQ _ _ ?_
          rw [er]
          exact ⟨by rw [bI_f (show ¬ ¬ ((0, 0) : Int × Int).1 = 0 from fun e_ => e_ rfl)], hX, hW, fr_rf⟩
        · refine xv (x_aload_n 35 d_X7_refusesSet_34 rfl rfl) ?_
          refine xv (x_iconst 36 d_X7_refusesSet_35 rfl) ?_
          refine xv (x_iconst 37 d_X7_refusesSet_36 rfl) ?_
          obtain ⟨r37, h37, e37, z37, w37, f37⟩ := S_X7_refuse (E := E) (y := 2) (z := 0) hX
          subst z37
          have W_37 := wh_fr hW f37 (by omega)
          have F37 : Fr x 1 h h37 := fr_tr fr_rf (fr_in f37 (by omega) (by omega))
          refine xv (x_inv1 40 (as := [Value.int (zi 2), Value.int (zi 0)]) d_X7_refusesSet_37 rfl c_7_109 rfl (Nat.le_of_ble_eq_true rfl) (Nat.le_of_ble_eq_true rfl) hX (Nat.le_of_ble_eq_true rfl) (Nat.le_of_ble_eq_true rfl) rfl e37) ?_
          show Xv E q_m_X7_refusesSet 40 [Value.ref x, Value.int (zi y), Value.int (zi z)] [Value.int (zi 1)] h37 Q
          refine xv_r (x_ireturn d_X7_refusesSet_40 rfl rfl) ?_
          have er : rfSet y z = (2, 0) := by unfold rfSet; repeat (first | rw [if_pos (by omega)] | rw [if_neg (by omega)])
          refine hQ _ _ ?_
          rw [er]
          exact ⟨by rw [bI_t (show ¬ ((2, 0) : Int × Int).1 = 0 from fun e_ => absurd (show (2 : Int) = 0 from e_) (by decide))], w37, W_37, F37⟩
    · refine xv (x_aload_n 10 d_X7_refusesSet_9 rfl rfl) ?_
      refine xv (x_iconst 11 d_X7_refusesSet_10 rfl) ?_
      refine xv (x_iconst 12 d_X7_refusesSet_11 rfl) ?_
      obtain ⟨r12, h12, e12, z12, w12, f12⟩ := S_X7_refuse (E := E) (y := 2) (z := 0) hX
      subst z12
      have W_12 := wh_fr hW f12 (by omega)
      have F12 : Fr x 1 h h12 := fr_tr fr_rf (fr_in f12 (by omega) (by omega))
      refine xv (x_inv1 15 (as := [Value.int (zi 2), Value.int (zi 0)]) d_X7_refusesSet_12 rfl c_7_109 rfl (Nat.le_of_ble_eq_true rfl) (Nat.le_of_ble_eq_true rfl) hX (Nat.le_of_ble_eq_true rfl) (Nat.le_of_ble_eq_true rfl) rfl e12) ?_
      show Xv E q_m_X7_refusesSet 15 [Value.ref x, Value.int (zi y), Value.int (zi z)] [Value.int (zi 1)] h12 Q
      refine xv_r (x_ireturn d_X7_refusesSet_15 rfl rfl) ?_
      have er : rfSet y z = (2, 0) := by unfold rfSet; repeat (first | rw [if_pos (by omega)] | rw [if_neg (by omega)])
      refine hQ _ _ ?_
      rw [er]
      exact ⟨by rw [bI_t (show ¬ ((2, 0) : Int × Int).1 = 0 from fun e_ => absurd (show (2 : Int) = 0 from e_) (by decide))], w12, W_12, F12⟩
end CU
