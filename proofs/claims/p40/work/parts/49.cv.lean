/-! the class itself: what changes it (printed by program) -/
def SNx (h : q_H) (x : Nat) (ls : Int → Int) : Prop := ∃ p, WH h (x + 39) ls p
def TXx (h : q_H) (x : Nat) (n : Int) (c : Int → Int) : Prop := ∃ R C, LTo h (x + 383) n R C ∧ AI h (x + 384) 3 60 c
def DSx (h : q_H) (x : Nat) : Prop := ∃ q f tr tc to T NE WI, (DSo h (x + 385) (x + 1) tr tc to ∧ AI h (x + 386) 0 48 q ∧ AI h (x + 387) 0 48 f) ∧ (TB h (x + 385) T ∧ AL h (x + 437) 48 NE ∧ AL h (x + 438) 48 WI) ∧ CV tr tc to T
def PLx (h : q_H) (x : Nat) : Prop := ∃ ro g gt TK PQ PO PP, (PLo h (x + 439) (x + 1) ro g gt ∧ AL h (x + 442) 31 TK) ∧ AI h (x + 440) 0 1488 PQ ∧ AI h (x + 441) 0 1488 PO ∧ AI h (x + 443) 0 30 PP
/-- the class's object at x, 444 places -/
def CA (h : q_H) (x : Nat) (l ls : Int → Int) (nx ct : Int) (kl : Int → Int → Int) (n : Int) (c : Int → Int) (hs fa kr kd_ : Int) : Prop :=
  CAo h x hs fa kr kd_ ∧ (∃ p, WH h (x + 1) l p) ∧ SNx h x ls ∧ HI h (x + 77) nx ct kl ∧ TXx h x n c ∧ DSx h x ∧ PLx h x
/-- the heap behind a throw -/
abbrev thr_ (h : q_H) : q_H := (h.1, h.2.1.map (· + 1), h.2.2.1 + 1, h.2.2.2 + 6)
/-- the state before kept -/
def HP (l : Int → Int) (nx ct : Int) (kl : Int → Int → Int) (nx' ct' : Int) (kl' : Int → Int → Int) : Prop := nx' = (if nx + 1 < 8 then nx + 1 else 0) ∧ ct' = min 8 (ct + 1) ∧ ∃ l', Lc l' l ∧ kl' = fun i => if i = nx then l' else kl i
def xUO : String := "java/lang/UnsupportedOperationException"
section CV1
variable {E : q_E} {h h' : q_H} {x w v a b t N k d : Nat} {l lo ls f g c q : Int → Int} {p p2 pk : Int → Nat} {hs fa kr kd_ nx ct n : Int} {kl : Int → Int → Int}
theorem sn_fr {b m : Nat} (H : SNx h x ls) (F : Fr b m h h') (k : x + 77 ≤ b ∨ b + m ≤ x + 39) : SNx h' x ls := by
  obtain ⟨p, e⟩ := H
  exact ⟨p, wh_fr e F (by omega)⟩
theorem tx_fr {b m : Nat} (H : TXx h x n c) (F : Fr b m h h') (k : x + 385 ≤ b ∨ b + m ≤ x + 383) : TXx h' x n c := by
  obtain ⟨R, C, e1, e2⟩ := H
  exact ⟨R, C, (F.2 _ (by omega)).trans e1, ai_fr e2 F (by omega)⟩
theorem ds_fr {b m : Nat} (H : DSx h x) (F : Fr b m h h') (k : x + 439 ≤ b ∨ b + m ≤ x + 385) : DSx h' x := by
  obtain ⟨q, f, tr, tc, to, T, NE, WI, ⟨e1, e2, e3⟩, ⟨e4, e5, e6⟩, e7⟩ := H
  exact ⟨q, f, tr, tc, to, T, NE, WI, ⟨(F.2 _ (by omega)).trans e1, ai_fr e2 F (by omega), ai_fr e3 F (by omega)⟩, ⟨tb_fr e4 F (by omega), al_fr e5 F (by omega), al_fr e6 F (by omega)⟩, e7⟩
theorem plx_fr {b m : Nat} (H : PLx h x) (F : Fr b m h h') (k : x + 444 ≤ b ∨ b + m ≤ x + 439) : PLx h' x := by
  obtain ⟨ro, g, gt, TK, PQ, PO, PP, ⟨e1, e2⟩, e3, e4, e5⟩ := H
  exact ⟨ro, g, gt, TK, PQ, PO, PP, ⟨(F.2 _ (by omega)).trans e1, al_fr e2 F (by omega)⟩, ai_fr e3 F (by omega), ai_fr e4 F (by omega), ai_fr e5 F (by omega)⟩
/-- how a change ends: done, or refused -/
def Mut (h : q_H) (x : Nat) (l ls : Int → Int) (nx ct : Int) (kl : Int → Int → Int) (n : Int) (c : Int → Int) (hs fa kr kd_ : Int) (rf : Int × Int) (v : Int) (l' : Int → Int) (r : q_R) (h' : q_H) : Prop :=
  (rf.1 = 0 ∧ r = .inl (some (.int (zi v))) ∧ ∃ nx' ct' kl', HP l nx ct kl nx' ct' kl' ∧ CA h' x l' ls nx' ct' kl' n c hs fa kr kd_ ∧ Fr x 444 h h') ∨
  (¬ rf.1 = 0 ∧ r = .inr xUO ∧ ∃ h0, CA h0 x l ls nx ct kl n c hs fa rf.1 rf.2 ∧ Fr x 444 h h0 ∧ h' = thr_ h0)
theorem rfAdd_0 {y z : Int} (h : (rfAdd l y z).1 = 0) : (isC l y ∧ ent l y) ∧ (0 ≤ z ∧ z ≤ 99) ∧ l 3 < 6 ∧ lev l y (-1) = -1 := by
  unfold rfAdd at h
  by_cases h1 : ¬ isC l y
  · rw [if_pos h1] at h; exact absurd h (by decide)
  · rw [if_neg h1] at h
    by_cases h2 : z < 0 ∨ 99 < z
    · rw [if_pos h2] at h; exact absurd h (by decide)
    · rw [if_neg h2] at h
      by_cases h3 : 6 ≤ l 3
      · rw [if_pos h3] at h; exact absurd h (by decide)
      · rw [if_neg h3] at h
        by_cases h4 : ¬ ent l y
        · rw [if_pos h4] at h; exact absurd (show (4 : Int) = 0 from h) (by decide)
        · rw [if_neg h4] at h
          unfold rfRC at h
          by_cases h5 : lev l y (-1) = -1
          · exact ⟨⟨Classical.not_not.mp h1, Classical.not_not.mp h4⟩, by omega, by omega, h5⟩
          · rw [if_neg h5] at h; exact absurd (show (5 : Int) = 0 from h) (by decide)
theorem rfTak_0 {y : Int} (h : (rfTak l y).1 = 0) : isR l y ∧ rb l y 2 = -1 := by
  unfold rfTak at h
  by_cases h1 : ¬ isR l y
  · rw [if_pos h1] at h; exact absurd h (by decide)
  · rw [if_neg h1] at h
    by_cases h2 : ¬ rb l y 2 = -1
    · rw [if_pos h2] at h; exact absurd (show (7 : Int) = 0 from h) (by decide)
    · exact ⟨Classical.not_not.mp h1, Classical.not_not.mp h2⟩
theorem rfLin_0 {c : Int} (h : (rfLin l c).1 = 0) : isC l c → l (8 + c) = 0 := by
  intro hc
  unfold rfLin at h
  by_cases h1 : l (8 + c) = 0
  · exact h1
  · rw [if_pos ⟨hc, h1⟩] at h; exact absurd (show (12 : Int) = 0 from h) (by decide)
theorem rfOrd_0 {d a b c : Int} (h : (rfOrd l d a b c).1 = 0) : (isC l a ∧ (b = -1 ∨ isC l b) ∧ (c = -1 ∨ isC l c)) ∧ (0 ≤ d ∧ d ≤ 999 ∧ (b = -1 → c = -1)) ∧ l 4 < 10 ∧ (rfLin l a).1 = 0 ∧ (rfLin l b).1 = 0 ∧ (rfLin l c).1 = 0 := by
  unfold rfOrd at h
  by_cases h1 : ¬ isC l a ∨ ¬ (b = -1 ∨ isC l b) ∨ ¬ (c = -1 ∨ isC l c)
  · rw [if_pos h1] at h; exact absurd h (by decide)
  · rw [if_neg h1] at h
    by_cases h2 : d < 0 ∨ 999 < d ∨ (b = -1 ∧ ¬ c = -1)
    · rw [if_pos h2] at h; exact absurd h (by decide)
    · rw [if_neg h2] at h
      by_cases h3 : 10 ≤ l 4
      · rw [if_pos h3] at h; exact absurd h (by decide)
      · rw [if_neg h3] at h
        by_cases h4 : ¬ (rfLin l a).1 = 0
        · rw [if_pos h4] at h; exact absurd h h4
        · rw [if_neg h4] at h
          by_cases h5 : ¬ (rfLin l b).1 = 0
          · rw [if_pos h5] at h; exact absurd h h5
          · rw [if_neg h5] at h
            exact ⟨by omega, by omega, by omega, Classical.not_not.mp h4, Classical.not_not.mp h5, h⟩
theorem rfAsg_0 {r o : Int} (h : (rfAsg l r o).1 = 0) : (isR l r ∧ isO l o) ∧ rb l r 2 = -1 ∧ stc l o = 0 := by
  unfold rfAsg at h
  by_cases h1 : ¬ isR l r ∨ ¬ isO l o
  · rw [if_pos h1] at h; exact absurd h (by decide)
  · rw [if_neg h1] at h
    by_cases h2 : ¬ rb l r 2 = -1
    · rw [if_pos h2] at h; exact absurd (show (7 : Int) = 0 from h) (by decide)
    · rw [if_neg h2] at h
      by_cases h3 : ¬ stc l o = 0
      · rw [if_pos h3] at h; exact absurd (show (8 : Int) = 0 from h) (by decide)
      · exact ⟨by omega, Classical.not_not.mp h2, Classical.not_not.mp h3⟩
theorem rfRel_0 {r : Int} (h : (rfRel l r).1 = 0) : isR l r ∧ ¬ rb l r 2 = -1 := by
  unfold rfRel at h
  by_cases h1 : ¬ isR l r
  · rw [if_pos h1] at h; exact absurd h (by decide)
  · rw [if_neg h1] at h
    by_cases h2 : rb l r 2 = -1
    · rw [if_pos h2] at h; exact absurd h (by decide)
    · exact ⟨Classical.not_not.mp h1, h2⟩
theorem rfClo_0 {c : Int} (h : (rfClo l c).1 = 0) : isC l c ∧ l (56 + c) = 0 ∧ ¬ l (8 + c) = 1 ∧ lev l c (-1) = -1 := by
  unfold rfClo at h
  by_cases h1 : ¬ isC l c
  · rw [if_pos h1] at h; exact absurd h (by decide)
  · rw [if_neg h1] at h
    by_cases h2 : ¬ l (56 + c) = 0
    · rw [if_pos h2] at h; exact absurd h (by decide)
    · rw [if_neg h2] at h
      by_cases h3 : l (8 + c) = 1
      · rw [if_pos h3] at h; exact absurd (show (4 : Int) = 0 from h) (by decide)
      · rw [if_neg h3] at h
        unfold rfRC at h
        by_cases h5 : lev l c (-1) = -1
        · exact ⟨Classical.not_not.mp h1, Classical.not_not.mp h2, h3, h5⟩
        · rw [if_neg h5] at h; exact absurd (show (5 : Int) = 0 from h) (by decide)
theorem rfOpn_0 {c : Int} (h : (rfOpn l c).1 = 0) : isC l c ∧ ¬ l (56 + c) = 0 := by
  unfold rfOpn at h
  by_cases h1 : ¬ isC l c
  · rw [if_pos h1] at h; exact absurd h (by decide)
  · rw [if_neg h1] at h
    by_cases h2 : l (56 + c) = 0
    · rw [if_pos h2] at h; exact absurd h (by decide)
    · exact ⟨Classical.not_not.mp h1, h2⟩
theorem rfSet_0 {w v : Int} (h : (rfSet w v).1 = 0) : (0 ≤ w ∧ w < 3) ∧ 1 ≤ v ∧ v ≤ mst2 w := by
  unfold rfSet at h
  by_cases h1 : w < 0 ∨ 3 ≤ w
  · rw [if_pos h1] at h; exact absurd h (by decide)
  · rw [if_neg h1] at h
    by_cases h2 : v < 1 ∨ mst2 w < v
    · rw [if_pos h2] at h; exact absurd h (by decide)
    · omega
theorem rfGoa_0 {r g : Int} (h : (rfGoa l r g).1 = 0) : (isR l r ∧ isC l g) ∧ ¬ 0 < rb l r 3 ∧ ¬ rb l r 0 = g ∧ ent l g := by
  unfold rfGoa at h
  by_cases h1 : ¬ isR l r ∨ ¬ isC l g
  · rw [if_pos h1] at h; exact absurd h (by decide)
  · rw [if_neg h1] at h
    by_cases h2 : 0 < rb l r 3
    · rw [if_pos h2] at h; exact absurd (show (6 : Int) = 0 from h) (by decide)
    · rw [if_neg h2] at h
      by_cases h3 : rb l r 0 = g
      · rw [if_pos h3] at h; exact absurd h (by decide)
      · rw [if_neg h3] at h
        by_cases h4 : ¬ ent l g
        · rw [if_pos h4] at h; exact absurd (show (4 : Int) = 0 from h) (by decide)
        · exact ⟨by omega, h2, h3, Classical.not_not.mp h4⟩
theorem rfCan_0 {r : Int} (h : (rfCan l r).1 = 0) : isR l r ∧ ¬ rb l r 3 = 0 ∧ lev l (rb l r 0) r = -1 := by
  unfold rfCan at h
  by_cases h1 : ¬ isR l r
  · rw [if_pos h1] at h; exact absurd h (by decide)
  · rw [if_neg h1] at h
    by_cases h2 : rb l r 3 = 0
    · rw [if_pos h2] at h; exact absurd h (by decide)
    · rw [if_neg h2] at h
      unfold rfRC at h
      by_cases h5 : lev l (rb l r 0) r = -1
      · exact ⟨Classical.not_not.mp h1, h2, h5⟩
      · rw [if_neg h5] at h; exact absurd (show (5 : Int) = 0 from h) (by decide)
theorem rfPas_0 {t : Int} (h : (rfPas t).1 = 0) : 1 ≤ t ∧ t ≤ 99 := by
  unfold rfPas at h
  by_cases h1 : t < 1 ∨ 99 < t
  · rw [if_pos h1] at h; exact absurd h (by decide)
  · omega
theorem of_u {n k v o : Int} (h : Of n (ob l o)) (hk : k < 320) (ho : 0 ≤ o) : Of n (ob (u1 l k v) o) := by
  have e (i : Int) (hi : 0 ≤ i) : ob (u1 l k v) o i = ob l o i := u1_ne (i := 320 + 8 * o + i) (by omega)
  unfold Of
  rw [e 0 (by omega), e 1 (by omega), e 2 (by omega), e 4 (by omega)]
  obtain ⟨q0, q1, q2, q4, q5, q6⟩ := h
  exact ⟨q0, q1, q2, q4, fun t a b => by rw [e _ (by omega)]; exact q5 t a b, fun t a b => by rw [e _ (by omega)]; exact q6 t a b⟩
theorem S_X7_add (hC : CA h x l ls nx ct kl n c hs fa kr kd_) (hR : RgC l) (hn : 0 ≤ nx ∧ nx < 8) (hc : 0 ≤ ct ∧ ct ≤ 8) {y z : Int} (y0 : -2147483648 ≤ y) (y1 : y < 2147483648) (z0 : -2147483648 ≤ z) (z1 : z < 2147483648) : ∃ r_ h', q_cl E q_m_X7_add [Value.ref x, Value.int (zi y), Value.int (zi z)] h = some (r_, h') ∧ (Mut h x l ls nx ct kl n c hs fa kr kd_ (rfAdd l y z) (l 3) (u1 (rset l (l 3) (bgn (rb l (l 3)) y z)) 3 (l 3 + 1)) r_ h') := by
  suffices K : ∀ Q : q_R → q_H → Prop, (∀ r_ h', (Mut h x l ls nx ct kl n c hs fa kr kd_ (rfAdd l y z) (l 3) (u1 (rset l (l 3) (bgn (rb l (l 3)) y z)) 3 (l 3 + 1)) r_ h') → Q r_ h') → Xv E q_m_X7_add 0 [Value.ref x, Value.int (zi y), Value.int (zi z)] [] h Q from K _ fun _ _ p => p
  intro Q hQ
  obtain ⟨g0, g1, g2, g3, g4, gc, g5, g6, g7, gk, gl, gr, go⟩ := id hR
  obtain ⟨hX, ⟨p, hW⟩, hSN, hHI, hTX, hDS, hPL⟩ := id hC
  refine xv (x_aload_n 1 d_X7_add_0 rfl rfl) ?_
  refine xv (x_iload_n 2 d_X7_add_1 rfl rfl) ?_
  refine xv (x_iload_n 3 d_X7_add_2 rfl rfl) ?_
  obtain ⟨r3, h3, e3, z3, w3, u3, f3⟩ := S_X7_refusesAdd (E := E) (y := y) (z := z) hX hW hR (by omega) (by omega) (by omega) (by omega)
  subst z3
  have SN_3 := sn_fr hSN f3 (by omega)
  have HI_3 := hi_fr hHI f3 (by omega)
  have TX_3 := tx_fr hTX f3 (by omega)
  have DS_3 := ds_fr hDS f3 (by omega)
  have PLX_3 := plx_fr hPL f3 (by omega)
  have F3 : Fr x 444 h h3 := fr_tr fr_rf (fr_in f3 (by omega) (by omega))
  refine xv (x_inv1 6 (as := [Value.int (zi y), Value.int (zi z)]) d_X7_add_3 rfl c_7_94 rfl (Nat.le_of_ble_eq_true rfl) (Nat.le_of_ble_eq_true rfl) hX (Nat.le_of_ble_eq_true rfl) (Nat.le_of_ble_eq_true rfl) rfl e3) ?_
  show Xv E q_m_X7_add 6 [Value.ref x, Value.int (zi y), Value.int (zi z)] [Value.int (zi (bI (¬ (rfAdd l y z).1 = 0)))] h3 Q
  refine v_if_eq 17 9 d_X7_add_6 rfl rfl (by have := bI_r (¬ (rfAdd l y z).1 = 0); omega) (by have := bI_r (¬ (rfAdd l y z).1 = 0); omega) (fun k6 => ?_) (fun k6 => ?_)
  · replace k6 := bI_0.mp k6
    have kK := k6
    refine xv (x_aload_n 18 d_X7_add_17 rfl rfl) ?_
    refine xv (x_getfield 21 d_X7_add_18 rfl f_7_22 (Nat.le_of_ble_eq_true rfl) (Nat.le_of_ble_eq_true rfl) (q_gf_of w3 rfl)) ?_
    refine xv (x_aload_n 22 d_X7_add_21 rfl rfl) ?_
    refine xv (x_getfield 25 d_X7_add_22 rfl f_7_12 (Nat.le_of_ble_eq_true rfl) (Nat.le_of_ble_eq_true rfl) (q_gf_of w3 rfl)) ?_
    obtain ⟨r25, h25, e25, z25, l25, i25, g25, f25⟩ := S_X1_keep (E := E) hR HI_3 u3 hn hc (by omega)
    subst z25
    have X_25 := (f25.2 _ (by omega)).trans w3
    have W_25 := wh_fr u3 f25 (by omega)
    have SN_25 := sn_fr SN_3 f25 (by omega)
    have TX_25 := tx_fr TX_3 f25 (by omega)
    have DS_25 := ds_fr DS_3 f25 (by omega)
    have PLX_25 := plx_fr PLX_3 f25 (by omega)
    have F25 : Fr x 444 h h25 := fr_tr F3 (fr_in f25 (by omega) (by omega))
    refine xv (x_inv0 28 (as := [Value.ref (x + 1)]) d_X7_add_25 rfl c_7_84 rfl (Nat.le_of_ble_eq_true rfl) (Nat.le_of_ble_eq_true rfl) HI_3.1 (Nat.le_of_ble_eq_true rfl) (Nat.le_of_ble_eq_true rfl) rfl e25) ?_
    show Xv E q_m_X7_add 28 [Value.ref x, Value.int (zi y), Value.int (zi z)] [] h25 Q
    refine xv (x_aload_n 29 d_X7_add_28 rfl rfl) ?_
    refine xv (x_getfield 32 d_X7_add_29 rfl f_7_12 (Nat.le_of_ble_eq_true rfl) (Nat.le_of_ble_eq_true rfl) (q_gf_of X_25 rfl)) ?_
    refine xv (x_iload_n 33 d_X7_add_32 rfl rfl) ?_
    refine xv (x_iload_n 34 d_X7_add_33 rfl rfl) ?_
    have hl_ := (rfAdd_0 (Classical.not_not.mp kK)).2.2.1
    obtain ⟨r34, h34, e34, z34, w34, f34⟩ := S_X6_putRobot (E := E) (x := y) (y := z) W_25 hR hl_
    subst z34
    have X_34 := (f34.2 _ (by omega)).trans X_25
    have SN_34 := sn_fr SN_25 f34 (by omega)
    have HI_34 := hi_fr g25 f34 (by omega)
    have TX_34 := tx_fr TX_25 f34 (by omega)
    have DS_34 := ds_fr DS_25 f34 (by omega)
    have PLX_34 := plx_fr PLX_25 f34 (by omega)
    have F34 : Fr x 444 h h34 := fr_tr F25 (fr_in f34 (by omega) (by omega))
    refine xv (x_inv1 37 (as := [Value.int (zi y), Value.int (zi z)]) d_X7_add_34 rfl c_7_101 rfl (Nat.le_of_ble_eq_true rfl) (Nat.le_of_ble_eq_true rfl) (wh_o W_25) (Nat.le_of_ble_eq_true rfl) (Nat.le_of_ble_eq_true rfl) rfl e34) ?_
    show Xv E q_m_X7_add 37 [Value.ref x, Value.int (zi y), Value.int (zi z)] [Value.int (zi (l 3))] h34 Q
    refine xv_r (x_ireturn d_X7_add_37 rfl rfl) ?_
    have k0_ := Classical.not_not.mp k6
    rw [krn_0 k0_, kdn_0 k0_] at X_34
    exact hQ _ _ (.inl ⟨k0_, rfl, _, _, _, ⟨rfl, rfl, l25, i25, rfl⟩, ⟨X_34, ⟨_, w34⟩, SN_34, HI_34, TX_34, DS_34, PLX_34⟩, F34⟩)
  · replace k6 := bI_n0.mp k6
    refine xv_r (x_throw d_X7_add_9 rfl rfl (Nat.le_of_ble_eq_true rfl) (Nat.le_of_ble_eq_true rfl) rfl rfl (Nat.le_of_ble_eq_true rfl)) ?_
    rw [krn, if_neg k6, kdn, if_neg k6] at w3
    exact hQ _ _ (.inr ⟨k6, rfl, _, ⟨w3, ⟨_, u3⟩, SN_3, HI_3, TX_3, DS_3, PLX_3⟩, F3, rfl⟩)
theorem S_X7_takeOff (hC : CA h x l ls nx ct kl n c hs fa kr kd_) (hR : RgC l) (hn : 0 ≤ nx ∧ nx < 8) (hc : 0 ≤ ct ∧ ct ≤ 8) {y : Int} (y0 : -2147483648 ≤ y) (y1 : y < 2147483648) : ∃ r_ h', q_cl E q_m_X7_takeOff [Value.ref x, Value.int (zi y)] h = some (r_, h') ∧ (Mut h x l ls nx ct kl n c hs fa kr kd_ (rfTak l y) (l 3 - 1) (dro l y) r_ h') := by
  suffices K : ∀ Q : q_R → q_H → Prop, (∀ r_ h', (Mut h x l ls nx ct kl n c hs fa kr kd_ (rfTak l y) (l 3 - 1) (dro l y) r_ h') → Q r_ h') → Xv E q_m_X7_takeOff 0 [Value.ref x, Value.int (zi y)] [] h Q from K _ fun _ _ p => p
  intro Q hQ
  obtain ⟨g0, g1, g2, g3, g4, gc, g5, g6, g7, gk, gl, gr, go⟩ := id hR
  obtain ⟨hX, ⟨p, hW⟩, hSN, hHI, hTX, hDS, hPL⟩ := id hC
  refine xv (x_aload_n 1 d_X7_takeOff_0 rfl rfl) ?_
  refine xv (x_iload_n 2 d_X7_takeOff_1 rfl rfl) ?_
  obtain ⟨r2, h2, e2, z2, w2, u2, f2⟩ := S_X7_refusesTakeOff (E := E) (y := y) hX hW hR (by omega) (by omega)
  subst z2
  have SN_2 := sn_fr hSN f2 (by omega)
  have HI_2 := hi_fr hHI f2 (by omega)
  have TX_2 := tx_fr hTX f2 (by omega)
  have DS_2 := ds_fr hDS f2 (by omega)
  have PLX_2 := plx_fr hPL f2 (by omega)
  have F2 : Fr x 444 h h2 := fr_tr fr_rf (fr_in f2 (by omega) (by omega))
  refine xv (x_inv1 5 (as := [Value.int (zi y)]) d_X7_takeOff_2 rfl c_7_121 rfl (Nat.le_of_ble_eq_true rfl) (Nat.le_of_ble_eq_true rfl) hX (Nat.le_of_ble_eq_true rfl) (Nat.le_of_ble_eq_true rfl) rfl e2) ?_
  show Xv E q_m_X7_takeOff 5 [Value.ref x, Value.int (zi y)] [Value.int (zi (bI (¬ (rfTak l y).1 = 0)))] h2 Q
  refine v_if_eq 16 8 d_X7_takeOff_5 rfl rfl (by have := bI_r (¬ (rfTak l y).1 = 0); omega) (by have := bI_r (¬ (rfTak l y).1 = 0); omega) (fun k5 => ?_) (fun k5 => ?_)
  · replace k5 := bI_0.mp k5
    have kK := k5
    have hy := rfTak_0 (Classical.not_not.mp kK)
    refine xv (x_aload_n 17 d_X7_takeOff_16 rfl rfl) ?_
    refine xv (x_getfield 20 d_X7_takeOff_17 rfl f_7_22 (Nat.le_of_ble_eq_true rfl) (Nat.le_of_ble_eq_true rfl) (q_gf_of w2 rfl)) ?_
    refine xv (x_aload_n 21 d_X7_takeOff_20 rfl rfl) ?_
    refine xv (x_getfield 24 d_X7_takeOff_21 rfl f_7_12 (Nat.le_of_ble_eq_true rfl) (Nat.le_of_ble_eq_true rfl) (q_gf_of w2 rfl)) ?_
    obtain ⟨r24, h24, e24, z24, l24, i24, g24, f24⟩ := S_X1_keep (E := E) hR HI_2 u2 hn hc (by omega)
    subst z24
    have X_24 := (f24.2 _ (by omega)).trans w2
    have W_24 := wh_fr u2 f24 (by omega)
    have SN_24 := sn_fr SN_2 f24 (by omega)
    have TX_24 := tx_fr TX_2 f24 (by omega)
    have DS_24 := ds_fr DS_2 f24 (by omega)
    have PLX_24 := plx_fr PLX_2 f24 (by omega)
    have F24 : Fr x 444 h h24 := fr_tr F2 (fr_in f24 (by omega) (by omega))
    refine xv (x_inv0 27 (as := [Value.ref (x + 1)]) d_X7_takeOff_24 rfl c_7_84 rfl (Nat.le_of_ble_eq_true rfl) (Nat.le_of_ble_eq_true rfl) HI_2.1 (Nat.le_of_ble_eq_true rfl) (Nat.le_of_ble_eq_true rfl) rfl e24) ?_
    show Xv E q_m_X7_takeOff 27 [Value.ref x, Value.int (zi y)] [] h24 Q
    refine xv (x_aload_n 28 d_X7_takeOff_27 rfl rfl) ?_
    refine xv (x_getfield 31 d_X7_takeOff_28 rfl f_7_12 (Nat.le_of_ble_eq_true rfl) (Nat.le_of_ble_eq_true rfl) (q_gf_of X_24 rfl)) ?_
    refine xv (x_iload_n 32 d_X7_takeOff_31 rfl rfl) ?_
    obtain ⟨r32, h32, e32, z32, p32, w32, f32⟩ := S_X6_dropRobot (E := E) (r := y) W_24 hR (by omega)
    subst z32
    have X_32 := (f32.2 _ (by omega)).trans X_24
    have SN_32 := sn_fr SN_24 f32 (by omega)
    have HI_32 := hi_fr g24 f32 (by omega)
    have TX_32 := tx_fr TX_24 f32 (by omega)
    have DS_32 := ds_fr DS_24 f32 (by omega)
    have PLX_32 := plx_fr PLX_24 f32 (by omega)
    have F32 : Fr x 444 h h32 := fr_tr F24 (fr_in f32 (by omega) (by omega))
    refine xv (x_inv0 35 (as := [Value.int (zi y)]) d_X7_takeOff_32 rfl c_7_124 rfl (Nat.le_of_ble_eq_true rfl) (Nat.le_of_ble_eq_true rfl) (wh_o W_24) (Nat.le_of_ble_eq_true rfl) (Nat.le_of_ble_eq_true rfl) rfl e32) ?_
    show Xv E q_m_X7_takeOff 35 [Value.ref x, Value.int (zi y)] [] h32 Q
    refine xv (x_aload_n 36 d_X7_takeOff_35 rfl rfl) ?_
    refine xv (x_getfield 39 d_X7_takeOff_36 rfl f_7_12 (Nat.le_of_ble_eq_true rfl) (Nat.le_of_ble_eq_true rfl) (q_gf_of X_32 rfl)) ?_
    refine xv (x_getfield 42 d_X7_takeOff_39 rfl f_7_112 (Nat.le_of_ble_eq_true rfl) (Nat.le_of_ble_eq_true rfl) (q_gf_of (wh_o w32) rfl)) ?_
    refine xv_r (x_ireturn d_X7_takeOff_42 rfl rfl) ?_
    have k0_ := Classical.not_not.mp k5
    rw [krn_0 k0_, kdn_0 k0_] at X_32
    have ev : (dro l y) 3 = l 3 - 1 := rfl
    have el : dro l y = dro l y := rfl
    exact hQ _ _ (.inl ⟨k0_, by rw [ev], _, _, _, ⟨rfl, rfl, l24, i24, rfl⟩, ⟨X_32, ⟨_, el ▸ w32⟩, SN_32, HI_32, TX_32, DS_32, PLX_32⟩, F32⟩)
  · replace k5 := bI_n0.mp k5
    refine xv_r (x_throw d_X7_takeOff_8 rfl rfl (Nat.le_of_ble_eq_true rfl) (Nat.le_of_ble_eq_true rfl) rfl rfl (Nat.le_of_ble_eq_true rfl)) ?_
    rw [krn, if_neg k5, kdn, if_neg k5] at w2
    exact hQ _ _ (.inr ⟨k5, rfl, _, ⟨w2, ⟨_, u2⟩, SN_2, HI_2, TX_2, DS_2, PLX_2⟩, F2, rfl⟩)
theorem S_X7_order (hC : CA h x l ls nx ct kl n c hs fa kr kd_) (hR : RgC l) (hn : 0 ≤ nx ∧ nx < 8) (hc : 0 ≤ ct ∧ ct ≤ 8) {d a_ b_ c_ : Int} (d0 : -2147483648 ≤ d) (d1 : d < 2147483648) (a_0 : -2147483648 ≤ a_) (a_1 : a_ < 2147483648) (b_0 : -2147483648 ≤ b_) (b_1 : b_ < 2147483648) (c_0 : -2147483648 ≤ c_) (c_1 : c_ < 2147483648) : ∃ r_ h', q_cl E q_m_X7_order [Value.ref x, Value.int (zi d), Value.int (zi a_), Value.int (zi b_), Value.int (zi c_)] h = some (r_, h') ∧ (Mut h x l ls nx ct kl n c hs fa kr kd_ (rfOrd l d a_ b_ c_) (l 4) (u1 (oset l (l 4) (obg (ob l (l 4)) d a_ b_ c_)) 4 (l 4 + 1)) r_ h') := by
  suffices K : ∀ Q : q_R → q_H → Prop, (∀ r_ h', (Mut h x l ls nx ct kl n c hs fa kr kd_ (rfOrd l d a_ b_ c_) (l 4) (u1 (oset l (l 4) (obg (ob l (l 4)) d a_ b_ c_)) 4 (l 4 + 1)) r_ h') → Q r_ h') → Xv E q_m_X7_order 0 [Value.ref x, Value.int (zi d), Value.int (zi a_), Value.int (zi b_), Value.int (zi c_)] [] h Q from K _ fun _ _ p => p
  intro Q hQ
  obtain ⟨g0, g1, g2, g3, g4, gc, g5, g6, g7, gk, gl, gr, go⟩ := id hR
  obtain ⟨hX, ⟨p, hW⟩, hSN, hHI, hTX, hDS, hPL⟩ := id hC
  refine xv (x_aload_n 1 d_X7_order_0 rfl rfl) ?_
  refine xv (x_iload_n 2 d_X7_order_1 rfl rfl) ?_
  refine xv (x_iload_n 3 d_X7_order_2 rfl rfl) ?_
  refine xv (x_iload_n 4 d_X7_order_3 rfl rfl) ?_
  refine xv (x_iload 6 d_X7_order_4 rfl rfl) ?_
  obtain ⟨r6, h6, e6, z6, w6, u6, f6⟩ := S_X7_refusesOrder (E := E) (d := d) (a_ := a_) (b_ := b_) (c_ := c_) hX hW hR (by omega) (by omega) (by omega) (by omega) (by omega) (by omega) (by omega) (by omega)
  subst z6
  have SN_6 := sn_fr hSN f6 (by omega)
  have HI_6 := hi_fr hHI f6 (by omega)
  have TX_6 := tx_fr hTX f6 (by omega)
  have DS_6 := ds_fr hDS f6 (by omega)
  have PLX_6 := plx_fr hPL f6 (by omega)
  have F6 : Fr x 444 h h6 := fr_tr fr_rf (fr_in f6 (by omega) (by omega))
  refine xv (x_inv1 9 (as := [Value.int (zi d), Value.int (zi a_), Value.int (zi b_), Value.int (zi c_)]) d_X7_order_6 rfl c_7_140 rfl (Nat.le_of_ble_eq_true rfl) (Nat.le_of_ble_eq_true rfl) hX (Nat.le_of_ble_eq_true rfl) (Nat.le_of_ble_eq_true rfl) rfl e6) ?_
  show Xv E q_m_X7_order 9 [Value.ref x, Value.int (zi d), Value.int (zi a_), Value.int (zi b_), Value.int (zi c_)] [Value.int (zi (bI (¬ (rfOrd l d a_ b_ c_).1 = 0)))] h6 Q
  refine v_if_eq 20 12 d_X7_order_9 rfl rfl (by have := bI_r (¬ (rfOrd l d a_ b_ c_).1 = 0); omega) (by have := bI_r (¬ (rfOrd l d a_ b_ c_).1 = 0); omega) (fun k9 => ?_) (fun k9 => ?_)
  · replace k9 := bI_0.mp k9
    have kK := k9
    refine xv (x_aload_n 21 d_X7_order_20 rfl rfl) ?_
    refine xv (x_getfield 24 d_X7_order_21 rfl f_7_22 (Nat.le_of_ble_eq_true rfl) (Nat.le_of_ble_eq_true rfl) (q_gf_of w6 rfl)) ?_
    refine xv (x_aload_n 25 d_X7_order_24 rfl rfl) ?_
    refine xv (x_getfield 28 d_X7_order_25 rfl f_7_12 (Nat.le_of_ble_eq_true rfl) (Nat.le_of_ble_eq_true rfl) (q_gf_of w6 rfl)) ?_
    obtain ⟨r28, h28, e28, z28, l28, i28, g28, f28⟩ := S_X1_keep (E := E) hR HI_6 u6 hn hc (by omega)
    subst z28
    have X_28 := (f28.2 _ (by omega)).trans w6
    have W_28 := wh_fr u6 f28 (by omega)
    have SN_28 := sn_fr SN_6 f28 (by omega)
    have TX_28 := tx_fr TX_6 f28 (by omega)
    have DS_28 := ds_fr DS_6 f28 (by omega)
    have PLX_28 := plx_fr PLX_6 f28 (by omega)
    have F28 : Fr x 444 h h28 := fr_tr F6 (fr_in f28 (by omega) (by omega))
    refine xv (x_inv0 31 (as := [Value.ref (x + 1)]) d_X7_order_28 rfl c_7_84 rfl (Nat.le_of_ble_eq_true rfl) (Nat.le_of_ble_eq_true rfl) HI_6.1 (Nat.le_of_ble_eq_true rfl) (Nat.le_of_ble_eq_true rfl) rfl e28) ?_
    show Xv E q_m_X7_order 31 [Value.ref x, Value.int (zi d), Value.int (zi a_), Value.int (zi b_), Value.int (zi c_)] [] h28 Q
    refine xv (x_aload_n 32 d_X7_order_31 rfl rfl) ?_
    refine xv (x_getfield 35 d_X7_order_32 rfl f_7_12 (Nat.le_of_ble_eq_true rfl) (Nat.le_of_ble_eq_true rfl) (q_gf_of X_28 rfl)) ?_
    refine xv (x_iload_n 36 d_X7_order_35 rfl rfl) ?_
    refine xv (x_iload_n 37 d_X7_order_36 rfl rfl) ?_
    refine xv (x_iload_n 38 d_X7_order_37 rfl rfl) ?_
    refine xv (x_iload 40 d_X7_order_38 rfl rfl) ?_
    have hl_ := (rfOrd_0 (Classical.not_not.mp kK)).2.2.1
    obtain ⟨r40, h40, e40, z40, w40, f40⟩ := S_X6_putOrder (E := E) (d := d) (x := a_) (y := b_) (z := c_) W_28 hR hl_ (by omega) (by omega) (by omega) (by omega)
    subst z40
    have X_40 := (f40.2 _ (by omega)).trans X_28
    have SN_40 := sn_fr SN_28 f40 (by omega)
    have HI_40 := hi_fr g28 f40 (by omega)
    have TX_40 := tx_fr TX_28 f40 (by omega)
    have DS_40 := ds_fr DS_28 f40 (by omega)
    have PLX_40 := plx_fr PLX_28 f40 (by omega)
    have F40 : Fr x 444 h h40 := fr_tr F28 (fr_in f40 (by omega) (by omega))
    refine xv (x_inv1 43 (as := [Value.int (zi d), Value.int (zi a_), Value.int (zi b_), Value.int (zi c_)]) d_X7_order_40 rfl c_7_144 rfl (Nat.le_of_ble_eq_true rfl) (Nat.le_of_ble_eq_true rfl) (wh_o W_28) (Nat.le_of_ble_eq_true rfl) (Nat.le_of_ble_eq_true rfl) rfl e40) ?_
    show Xv E q_m_X7_order 43 [Value.ref x, Value.int (zi d), Value.int (zi a_), Value.int (zi b_), Value.int (zi c_)] [Value.int (zi (l 4))] h40 Q
    refine xv_r (x_ireturn d_X7_order_43 rfl rfl) ?_
    have k0_ := Classical.not_not.mp k9
    rw [krn_0 k0_, kdn_0 k0_] at X_40
    exact hQ _ _ (.inl ⟨k0_, rfl, _, _, _, ⟨rfl, rfl, l28, i28, rfl⟩, ⟨X_40, ⟨_, w40⟩, SN_40, HI_40, TX_40, DS_40, PLX_40⟩, F40⟩)
  · replace k9 := bI_n0.mp k9
    refine xv_r (x_throw d_X7_order_12 rfl rfl (Nat.le_of_ble_eq_true rfl) (Nat.le_of_ble_eq_true rfl) rfl rfl (Nat.le_of_ble_eq_true rfl)) ?_
    rw [krn, if_neg k9, kdn, if_neg k9] at w6
    exact hQ _ _ (.inr ⟨k9, rfl, _, ⟨w6, ⟨_, u6⟩, SN_6, HI_6, TX_6, DS_6, PLX_6⟩, F6, rfl⟩)
theorem S_X7_assign (hC : CA h x l ls nx ct kl n c hs fa kr kd_) (hR : RgC l) (hn : 0 ≤ nx ∧ nx < 8) (hc : 0 ≤ ct ∧ ct ≤ 8) {y z : Int} (y0 : -2147483648 ≤ y) (y1 : y < 2147483648) (z0 : -2147483648 ≤ z) (z1 : z < 2147483648) : ∃ r_ h', q_cl E q_m_X7_assign [Value.ref x, Value.int (zi y), Value.int (zi z)] h = some (r_, h') ∧ (Mut h x l ls nx ct kl n c hs fa kr kd_ (rfAsg l y z) (ob l z 1 - ob l z 2) (u1 l (104 + 36 * y + 2) z) r_ h') := by
  suffices K : ∀ Q : q_R → q_H → Prop, (∀ r_ h', (Mut h x l ls nx ct kl n c hs fa kr kd_ (rfAsg l y z) (ob l z 1 - ob l z 2) (u1 l (104 + 36 * y + 2) z) r_ h') → Q r_ h') → Xv E q_m_X7_assign 0 [Value.ref x, Value.int (zi y), Value.int (zi z)] [] h Q from K _ fun _ _ p => p
  intro Q hQ
  obtain ⟨g0, g1, g2, g3, g4, gc, g5, g6, g7, gk, gl, gr, go⟩ := id hR
  obtain ⟨hX, ⟨p, hW⟩, hSN, hHI, hTX, hDS, hPL⟩ := id hC
  refine xv (x_aload_n 1 d_X7_assign_0 rfl rfl) ?_
  refine xv (x_iload_n 2 d_X7_assign_1 rfl rfl) ?_
  refine xv (x_iload_n 3 d_X7_assign_2 rfl rfl) ?_
  obtain ⟨r3, h3, e3, z3, w3, u3, f3⟩ := S_X7_refusesAssign (E := E) (y := y) (z := z) hX hW hR (by omega) (by omega) (by omega) (by omega)
  subst z3
  have SN_3 := sn_fr hSN f3 (by omega)
  have HI_3 := hi_fr hHI f3 (by omega)
  have TX_3 := tx_fr hTX f3 (by omega)
  have DS_3 := ds_fr hDS f3 (by omega)
  have PLX_3 := plx_fr hPL f3 (by omega)
  have F3 : Fr x 444 h h3 := fr_tr fr_rf (fr_in f3 (by omega) (by omega))
  refine xv (x_inv1 6 (as := [Value.int (zi y), Value.int (zi z)]) d_X7_assign_3 rfl c_7_161 rfl (Nat.le_of_ble_eq_true rfl) (Nat.le_of_ble_eq_true rfl) hX (Nat.le_of_ble_eq_true rfl) (Nat.le_of_ble_eq_true rfl) rfl e3) ?_
  show Xv E q_m_X7_assign 6 [Value.ref x, Value.int (zi y), Value.int (zi z)] [Value.int (zi (bI (¬ (rfAsg l y z).1 = 0)))] h3 Q
  refine v_if_eq 17 9 d_X7_assign_6 rfl rfl (by have := bI_r (¬ (rfAsg l y z).1 = 0); omega) (by have := bI_r (¬ (rfAsg l y z).1 = 0); omega) (fun k6 => ?_) (fun k6 => ?_)
  · replace k6 := bI_0.mp k6
    have kK := k6
    have hy := rfAsg_0 (Classical.not_not.mp kK)
    have gq := gr y hy.1.1.1 hy.1.1.2
    have go2 := go z hy.1.2.1 hy.1.2.2
    have go3 : Of (cs l) (ob (u1 l (104 + 36 * y + 2) z) z) := of_u go2 (by omega) hy.1.2.1
    refine xv (x_aload_n 18 d_X7_assign_17 rfl rfl) ?_
    refine xv (x_getfield 21 d_X7_assign_18 rfl f_7_22 (Nat.le_of_ble_eq_true rfl) (Nat.le_of_ble_eq_true rfl) (q_gf_of w3 rfl)) ?_
    refine xv (x_aload_n 22 d_X7_assign_21 rfl rfl) ?_
    refine xv (x_getfield 25 d_X7_assign_22 rfl f_7_12 (Nat.le_of_ble_eq_true rfl) (Nat.le_of_ble_eq_true rfl) (q_gf_of w3 rfl)) ?_
    obtain ⟨r25, h25, e25, z25, l25, i25, g25, f25⟩ := S_X1_keep (E := E) hR HI_3 u3 hn hc (by omega)
    subst z25
    have X_25 := (f25.2 _ (by omega)).trans w3
    have W_25 := wh_fr u3 f25 (by omega)
    have SN_25 := sn_fr SN_3 f25 (by omega)
    have TX_25 := tx_fr TX_3 f25 (by omega)
    have DS_25 := ds_fr DS_3 f25 (by omega)
    have PLX_25 := plx_fr PLX_3 f25 (by omega)
    have F25 : Fr x 444 h h25 := fr_tr F3 (fr_in f25 (by omega) (by omega))
    refine xv (x_inv0 28 (as := [Value.ref (x + 1)]) d_X7_assign_25 rfl c_7_84 rfl (Nat.le_of_ble_eq_true rfl) (Nat.le_of_ble_eq_true rfl) HI_3.1 (Nat.le_of_ble_eq_true rfl) (Nat.le_of_ble_eq_true rfl) rfl e25) ?_
    show Xv E q_m_X7_assign 28 [Value.ref x, Value.int (zi y), Value.int (zi z)] [] h25 Q
    refine xv (x_aload_n 29 d_X7_assign_28 rfl rfl) ?_
    refine xv (x_getfield 32 d_X7_assign_29 rfl f_7_12 (Nat.le_of_ble_eq_true rfl) (Nat.le_of_ble_eq_true rfl) (q_gf_of X_25 rfl)) ?_
    refine xv (x_getfield 35 d_X7_assign_32 rfl f_7_131 (Nat.le_of_ble_eq_true rfl) (Nat.le_of_ble_eq_true rfl) (q_gf_of (wh_o W_25) rfl)) ?_
    refine xv (x_iload_n 36 d_X7_assign_35 rfl rfl) ?_
    refine xv (x_aaload 37 d_X7_assign_36 rfl (wh_rs W_25 (by omega) (by omega))) ?_
    refine xv (x_iload_n 38 d_X7_assign_37 rfl rfl) ?_
    obtain ⟨h38, e38, w38, f38⟩ := wh_rf2 (r := y) (v := z) W_25 (by omega) (by omega)
    have X_38 := (f38.2 _ (by omega)).trans X_25
    have SN_38 := sn_fr SN_25 f38 (by omega)
    have HI_38 := hi_fr g25 f38 (by omega)
    have TX_38 := tx_fr TX_25 f38 (by omega)
    have DS_38 := ds_fr DS_25 f38 (by omega)
    have PLX_38 := plx_fr PLX_25 f38 (by omega)
    have F38 : Fr x 444 h h38 := fr_tr F25 (fr_in f38 (by omega) (by omega))
    refine xv (x_putfield 41 d_X7_assign_38 rfl f_7_135 (Nat.le_of_ble_eq_true rfl) e38 rfl rfl (fun e => absurd e (by decide))) ?_
    show Xv E q_m_X7_assign 41 [Value.ref x, Value.int (zi y), Value.int (zi z)] [] h38 Q
    refine xv (x_aload_n 42 d_X7_assign_41 rfl rfl) ?_
    refine xv (x_getfield 45 d_X7_assign_42 rfl f_7_12 (Nat.le_of_ble_eq_true rfl) (Nat.le_of_ble_eq_true rfl) (q_gf_of X_38 rfl)) ?_
    refine xv (x_getfield 48 d_X7_assign_45 rfl f_7_164 (Nat.le_of_ble_eq_true rfl) (Nat.le_of_ble_eq_true rfl) (q_gf_of (wh_o w38) rfl)) ?_
    refine xv (x_iload_n 49 d_X7_assign_48 rfl rfl) ?_
    refine xv (x_aaload 50 d_X7_assign_49 rfl (wh_os w38 (by omega) (by omega))) ?_
    refine xv (x_inv1 53 (as := []) d_X7_assign_50 rfl c_7_168 rfl (Nat.le_of_ble_eq_true rfl) (Nat.le_of_ble_eq_true rfl) (wh_ob w38 (by omega) (by omega)).1 (Nat.le_of_ble_eq_true rfl) (Nat.le_of_ble_eq_true rfl) rfl (S_X3_linesLeft (wh_ob (o := z) w38 (by omega) (by omega)) go3)) ?_
    have q50 := go3
    show Xv E q_m_X7_assign 53 [Value.ref x, Value.int (zi y), Value.int (zi z)] [Value.int (zi (ob (u1 l (104 + 36 * y + 2) z) z 1 - ob (u1 l (104 + 36 * y + 2) z) z 2))] h38 Q
    refine xv_r (x_ireturn d_X7_assign_53 rfl rfl) ?_
    have k0_ := Classical.not_not.mp k6
    rw [krn_0 k0_, kdn_0 k0_] at X_38
    have ev : ob (u1 l (104 + 36 * y + 2) z) z 1 - ob (u1 l (104 + 36 * y + 2) z) z 2 = ob l z 1 - ob l z 2 := by
      rw [show ob (u1 l (104 + 36 * y + 2) z) z 1 = ob l z 1 from u1_ne (by omega), show ob (u1 l (104 + 36 * y + 2) z) z 2 = ob l z 2 from u1_ne (by omega)]
    have el : u1 l (104 + 36 * y + 2) z = u1 l (104 + 36 * y + 2) z := rfl
    exact hQ _ _ (.inl ⟨k0_, by rw [ev], _, _, _, ⟨rfl, rfl, l25, i25, rfl⟩, ⟨X_38, ⟨_, el ▸ w38⟩, SN_38, HI_38, TX_38, DS_38, PLX_38⟩, F38⟩)
  · replace k6 := bI_n0.mp k6
    refine xv_r (x_throw d_X7_assign_9 rfl rfl (Nat.le_of_ble_eq_true rfl) (Nat.le_of_ble_eq_true rfl) rfl rfl (Nat.le_of_ble_eq_true rfl)) ?_
    rw [krn, if_neg k6, kdn, if_neg k6] at w3
    exact hQ _ _ (.inr ⟨k6, rfl, _, ⟨w3, ⟨_, u3⟩, SN_3, HI_3, TX_3, DS_3, PLX_3⟩, F3, rfl⟩)
end CV1
