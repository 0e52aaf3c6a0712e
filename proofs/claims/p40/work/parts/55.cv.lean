/-! the class itself: its readers (printed by program) -/
def xIO : String := "java/lang/IndexOutOfBoundsException"
def xNS : String := "java/util/NoSuchElementException"
def xAE : String := "java/lang/ArithmeticException"
/-- what a reader answers: thrown, or a number -/
def RDo (h : q_H) (o : Sum String Int) (r : q_R) (h' : q_H) : Prop := match o with
  | .inl e => r = .inr e ∧ h' = thr_ h
  | .inr v => r = .inl (some (.int (zi v))) ∧ h' = h
def RDx (h : q_H) (x : Nat) (l ls : Int → Int) (nx ct : Int) (kl : Int → Int → Int) (n : Int) (c : Int → Int) (hs fa kr kd_ : Int) (o : Sum String Int) (r : q_R) (h' : q_H) : Prop :=
  ∃ h0, CA h0 x l ls nx ct kl n c hs fa kr kd_ ∧ Fr x 444 h h0 ∧ RDo h0 o r h'
noncomputable def cellO (l : Int → Int) (c w : Int) : Sum String Int := if ¬ isC l c then .inl xIO else if w = 0 then .inr (l (8 + c)) else if w = 1 then .inr (bI (ent l c)) else if w = 2 then .inr (rin l c 0) else if w = 3 then .inr (nbC l c) else .inl xIA
def far0 (l : Int → Int) (a b : Int) : Sum String Int := if ¬ (isC l a ∧ isC l b) then .inl xIO else if far l a b = -1 then .inl xNS else .inr (far l a b)
noncomputable def dst0 (l : Int → Int) (a b : Int) : Sum String Int := if ¬ (isC l a ∧ isC l b) then .inl xIO else if dst l a b = -1 then .inl xNS else .inr (dst l a b)
noncomputable def rch0 (l : Int → Int) (a : Int) : Sum String Int := if ¬ isC l a then .inl xIO else .inr (rch l a)
noncomputable def frt0 (l : Int → Int) (a : Int) : Sum String Int := if ¬ isC l a then .inl xIO else .inr (frt l a)
noncomputable def robO (l : Int → Int) (r w : Int) : Sum String Int := if ¬ isR l r then .inl xIO else if w = 0 then .inr (rb l r 0) else if w = 1 then .inr (rb l r 1) else if w = 2 then .inr (rb l r 2) else if w = 3 then .inr (rb l r 3) else if w = 4 then .inr (if rb l r 3 = 0 then -1 else ahf (rb l r) (rb l r 3)) else if w = 5 then .inr (bI (isO l (rb l r 2) ∧ 0 < ob l (rb l r 2) 2)) else if w = 6 then .inr (rb l r 5) else .inl xIA
def plaO (l : Int → Int) (r t : Int) : Sum String Int := if ¬ isR l r then .inl xIO else if t < 0 then .inl xIA else .inr (ahf (rb l r) t)
noncomputable def resO (l : Int → Int) (c t : Int) : Sum String Int := if ¬ isC l c then .inl xIO else if t < 0 then .inl xIA else .inr (rin l c t)
noncomputable def arrO (l : Int → Int) (r g : Int) : Sum String Int := if ¬ (isR l r ∧ isC l g) then .inl xIO else if ¬ ent l g then .inl xNS else if rb l r 0 = g then .inr 0 else if fT l r g = -1 then .inl xNS else .inr (fT l r g)
noncomputable def ordO (l : Int → Int) (o w : Int) : Sum String Int := if ¬ isO l o then .inl xIO else if w = 0 then .inr (ob l o 0) else if w = 1 then .inr (ob l o 1) else if w = 2 then .inr (ob l o 2) else if w = 3 then .inr (stc l o) else if w = 4 then .inr (rwo l o) else if w = 5 then .inr (ob l o 4) else .inl xIA
def linO (l : Int → Int) (o i : Int) : Sum String Int := if ¬ isO l o then .inl xIO else if ¬ (0 ≤ i ∧ i < ob l o 1) then .inl xIO else .inr (ob l o (5 + i))
noncomputable def waiO (l : Int → Int) (i : Int) : Sum String Int := if i = -1 then .inr (oin l 0) else if wor l i = -1 then .inl xNS else .inr (wor l i)
def suiV (l : Int → Int) (o : Int) : Int := brf l (ob l o (5 + 0)) (l 3).toNat 0 (-1) (-1)
def suiO (l : Int → Int) (o : Int) : Sum String Int := if ¬ isO l o then .inl xIO else if suiV l o = -1 then .inl xNS else .inr (suiV l o)
def touV (l : Int → Int) (o : Int) : Int := thr l (ob l o) (ob l o 1 - 1).toNat 1 (ob l o 5) 0
def touO (l : Int → Int) (o : Int) : Sum String Int := if ¬ isO l o then .inl xIO else if touV l o = -1 then .inl xNS else .inr (touV l o)
def reaO (kr kd_ w : Int) : Sum String Int := if kr = -1 then .inl xNS else if w = 0 then .inr kr else .inr kd_
noncomputable def accO (l : Int → Int) (ct n w : Int) : Sum String Int := if w = 0 then .inr (l 0) else if w = 1 then .inr (l 1) else if w = 2 then .inr (l 3) else if w = 3 then .inr (l 4) else if w = 4 then .inr (oin l 0) else if w = 5 then .inr (oin l 1) else if w = 6 then .inr (oin l 2) else if w = 7 then .inr (ccl l) else if w = 8 then .inr (l 2) else if w = 9 then .inr (sts l 5) else if w = 10 then .inr (pks l) else if w = 11 then .inr (sts l 1) else if w = 12 then .inr ct else if w = 13 then .inr n else if w = 14 then .inr (l 5) else if w = 15 then .inr (l 6) else if w = 16 then .inr (l 7) else .inl xIA
section CV7
variable {E : q_E} {h h' : q_H} {x w v a b t N k d : Nat} {l lo ls f g c q PP : Int → Int} {p p2 pk : Int → Nat} {hs fa kr kd_ nx ct n ro go_ gt : Int} {kl : Int → Int → Int}
theorem brf_r {g : Int} : ∀ (m : Nat) (k b s : Int), 0 ≤ k → k + m ≤ 6 → -1 ≤ b ∧ b < 6 → -1 ≤ brf l g m k b s ∧ brf l g m k b s < 6
  | 0, k, b, s, _, _, h => h
  | m + 1, k, b, s, h0, h1, h => by
    unfold brf
    split
    · exact brf_r m _ _ _ (by omega) (by omega) (by omega)
    · exact brf_r m _ _ _ (by omega) (by omega) h
theorem thr_r {f : Int → Int} (hR : RgC l) : ∀ (m : Nat) (i y s : Int), isC l y → (∀ j, i ≤ j → j < i + m → isC l (f (5 + j))) → 0 ≤ s → s + 48 * (m + 1) ≤ 1000 → -1 ≤ thr l f m i y s ∧ thr l f m i y s ≤ 1000
  | 0, i, y, s, hy, hf, h0, h1 => by
    have := nst_r hR hy
    unfold thr
    split <;> omega
  | m + 1, i, y, s, hy, hf, h0, h1 => by
    have := far_r hR hy (f (5 + i))
    unfold thr
    split
    · omega
    · exact thr_r hR m (i + 1) _ _ (hf i (by omega) (by omega)) (fun j a b => hf j (by omega) (by omega)) (by omega) (by omega)
theorem S_X7_cell (hC : CA h x l ls nx ct kl n c hs fa kr kd_) (hR : RgC l) (hn : 0 ≤ nx ∧ nx < 8) (hc : 0 ≤ ct ∧ ct ≤ 8) {y z : Int} (y0 : -2147483648 ≤ y) (y1 : y < 2147483648) (z0 : -2147483648 ≤ z) (z1 : z < 2147483648) : ∃ r_ h', q_cl E q_m_X7_cell [Value.ref x, Value.int (zi y), Value.int (zi z)] h = some (r_, h') ∧ (RDx h x l ls nx ct kl n c hs fa kr kd_ (cellO l y z) r_ h') := by
  suffices K : ∀ Q : q_R → q_H → Prop, (∀ r_ h', (RDx h x l ls nx ct kl n c hs fa kr kd_ (cellO l y z) r_ h') → Q r_ h') → Xv E q_m_X7_cell 0 [Value.ref x, Value.int (zi y), Value.int (zi z)] [] h Q from K _ fun _ _ p => p
  intro Q hQ
  obtain ⟨g0, g1, g2, g3, g4, gc, g5, g6, g7, gk, gl, gr, go⟩ := id hR
  obtain ⟨hX, ⟨p, hW⟩, hSN, hHI, hTX, hDS, hPL⟩ := id hC
  refine xv (x_aload_n 1 d_X7_cell_0 rfl rfl) ?_
  refine xv (x_getfield 4 d_X7_cell_1 rfl f_7_12 (Nat.le_of_ble_eq_true rfl) (Nat.le_of_ble_eq_true rfl) (q_gf_of hX rfl)) ?_
  refine xv (x_iload_n 5 d_X7_cell_4 rfl rfl) ?_
  refine xv (x_inv1 8 (as := [Value.int (zi y)]) d_X7_cell_5 rfl c_7_105 rfl (Nat.le_of_ble_eq_true rfl) (Nat.le_of_ble_eq_true rfl) (wh_o hW) (Nat.le_of_ble_eq_true rfl) (Nat.le_of_ble_eq_true rfl) rfl (S_X6_isCell hW hR (by omega) (by omega))) ?_
  show Xv E q_m_X7_cell 8 [Value.ref x, Value.int (zi y), Value.int (zi z)] [Value.int (zi (bI (isC l y)))] h Q
  refine v_if_ne 19 11 d_X7_cell_8 rfl rfl (by have := bI_r (isC l y); omega) (by have := bI_r (isC l y); omega) (fun k8 => ?_) (fun k8 => ?_)
  · replace k8 := bI_n0.mp k8
    refine xv (x_iload_n 20 d_X7_cell_19 rfl rfl) ?_
    by_cases k20_0 : z = 0
    · refine xv (x_tsw_in 52 0 d_X7_cell_20 k20_0 (by decide) (by decide) (by decide) rfl rfl) ?_
      refine xv (x_aload_n 53 d_X7_cell_52 rfl rfl) ?_
      refine xv (x_getfield 56 d_X7_cell_53 rfl f_7_12 (Nat.le_of_ble_eq_true rfl) (Nat.le_of_ble_eq_true rfl) (q_gf_of hX rfl)) ?_
      refine xv (x_getfield 59 d_X7_cell_56 rfl f_7_157 (Nat.le_of_ble_eq_true rfl) (Nat.le_of_ble_eq_true rfl) (q_gf_of (wh_o hW) rfl)) ?_
      refine xv (x_iload_n 60 d_X7_cell_59 rfl rfl) ?_
      refine xv (x_iaload 61 d_X7_cell_60 rfl (ai_g (wh_k hW) (by omega) (by omega) (by decide))) ?_
      have q60 := gk y (by omega) (by omega)
      refine xv_r (x_ireturn d_X7_cell_61 rfl rfl) ?_
      have er : cellO l y z = .inr (l (8 + y)) := by unfold cellO; repeat (first | rw [if_pos (by omega)] | rw [if_neg (by omega)])
      refine hQ _ _ ⟨_, ⟨hX, ⟨_, hW⟩, hSN, hHI, hTX, hDS, hPL⟩, fr_rf, ?_⟩
      rw [er]
      exact ⟨rfl, rfl⟩
    by_cases k20_1 : z = 1
    · refine xv (x_tsw_in 62 1 d_X7_cell_20 k20_1 (by decide) (by decide) (by decide) rfl rfl) ?_
      refine xv (x_aload_n 63 d_X7_cell_62 rfl rfl) ?_
      refine xv (x_getfield 66 d_X7_cell_63 rfl f_7_12 (Nat.le_of_ble_eq_true rfl) (Nat.le_of_ble_eq_true rfl) (q_gf_of hX rfl)) ?_
      refine xv (x_iload_n 67 d_X7_cell_66 rfl rfl) ?_
      refine xv (x_inv1 70 (as := [Value.int (zi y)]) d_X7_cell_67 rfl c_7_115 rfl (Nat.le_of_ble_eq_true rfl) (Nat.le_of_ble_eq_true rfl) (wh_o hW) (Nat.le_of_ble_eq_true rfl) (Nat.le_of_ble_eq_true rfl) rfl (S_X6_canEnter hW hR (by omega) (by omega))) ?_
      show Xv E q_m_X7_cell 70 [Value.ref x, Value.int (zi y), Value.int (zi z)] [Value.int (zi (bI (isC l y ∧ ent l y)))] h Q
      refine v_if_eq 77 73 d_X7_cell_70 rfl rfl (by have := bI_r (isC l y ∧ ent l y); omega) (by have := bI_r (isC l y ∧ ent l y); omega) (fun k70 => ?_) (fun k70 => ?_)
      · replace k70 := bI_0.mp k70
        refine xv (x_iconst 78 d_X7_cell_77 rfl) ?_
        refine xv_r (x_ireturn d_X7_cell_78 rfl rfl) ?_
        have er : cellO l y z = .inr (bI (ent l y)) := by unfold cellO; repeat (first | rw [if_pos (by omega)] | rw [if_neg (by omega)])
        refine hQ _ _ ⟨_, ⟨hX, ⟨_, hW⟩, hSN, hHI, hTX, hDS, hPL⟩, fr_rf, ?_⟩
        rw [er]
        exact ⟨by rw [bI_f (fun z => k70 ⟨by omega, z⟩)], rfl⟩
      · replace k70 := bI_n0.mp k70
        refine xv (x_iconst 74 d_X7_cell_73 rfl) ?_
        refine xv (x_goto 78 d_X7_cell_74 rfl) ?_
        refine xv_r (x_ireturn d_X7_cell_78 rfl rfl) ?_
        have er : cellO l y z = .inr (bI (ent l y)) := by unfold cellO; repeat (first | rw [if_pos (by omega)] | rw [if_neg (by omega)])
        refine hQ _ _ ⟨_, ⟨hX, ⟨_, hW⟩, hSN, hHI, hTX, hDS, hPL⟩, fr_rf, ?_⟩
        rw [er]
        exact ⟨by rw [bI_t k70.2], rfl⟩
    by_cases k20_2 : z = 2
    · refine xv (x_tsw_in 79 2 d_X7_cell_20 k20_2 (by decide) (by decide) (by decide) rfl rfl) ?_
      refine xv (x_aload_n 80 d_X7_cell_79 rfl rfl) ?_
      refine xv (x_getfield 83 d_X7_cell_80 rfl f_7_12 (Nat.le_of_ble_eq_true rfl) (Nat.le_of_ble_eq_true rfl) (q_gf_of hX rfl)) ?_
      refine xv (x_iload_n 84 d_X7_cell_83 rfl rfl) ?_
      refine xv (x_iconst 85 d_X7_cell_84 rfl) ?_
      refine xv (x_inv1 88 (as := [Value.int (zi y), Value.int (zi 0)]) d_X7_cell_85 rfl c_7_254 rfl (Nat.le_of_ble_eq_true rfl) (Nat.le_of_ble_eq_true rfl) (wh_o hW) (Nat.le_of_ble_eq_true rfl) (Nat.le_of_ble_eq_true rfl) rfl (S_X6_robotThere hW hR (by omega) (by omega) (by omega) (by omega))) ?_
      have q85 := @rin_r l y 0
      show Xv E q_m_X7_cell 88 [Value.ref x, Value.int (zi y), Value.int (zi z)] [Value.int (zi (rin l y 0))] h Q
      refine xv_r (x_ireturn d_X7_cell_88 rfl rfl) ?_
      have er : cellO l y z = .inr (rin l y 0) := by unfold cellO; repeat (first | rw [if_pos (by omega)] | rw [if_neg (by omega)])
      refine hQ _ _ ⟨_, ⟨hX, ⟨_, hW⟩, hSN, hHI, hTX, hDS, hPL⟩, fr_rf, ?_⟩
      rw [er]
      exact ⟨rfl, rfl⟩
    by_cases k20_3 : z = 3
    · refine xv (x_tsw_in 89 3 d_X7_cell_20 k20_3 (by decide) (by decide) (by decide) rfl rfl) ?_
      refine xv (x_aload_n 90 d_X7_cell_89 rfl rfl) ?_
      refine xv (x_getfield 93 d_X7_cell_90 rfl f_7_12 (Nat.le_of_ble_eq_true rfl) (Nat.le_of_ble_eq_true rfl) (q_gf_of hX rfl)) ?_
      refine xv (x_iload_n 94 d_X7_cell_93 rfl rfl) ?_
      refine xv (x_inv1 97 (as := [Value.int (zi y)]) d_X7_cell_94 rfl c_7_257 rfl (Nat.le_of_ble_eq_true rfl) (Nat.le_of_ble_eq_true rfl) (wh_o hW) (Nat.le_of_ble_eq_true rfl) (Nat.le_of_ble_eq_true rfl) rfl (S_X6_enteredNeighbors hW hR (by omega))) ?_
      show Xv E q_m_X7_cell 97 [Value.ref x, Value.int (zi y), Value.int (zi z)] [Value.int (zi (nbC l y))] h Q
      refine xv_r (x_ireturn d_X7_cell_97 rfl rfl) ?_
      have er : cellO l y z = .inr (nbC l y) := by unfold cellO; repeat (first | rw [if_pos (by omega)] | rw [if_neg (by omega)])
      refine hQ _ _ ⟨_, ⟨hX, ⟨_, hW⟩, hSN, hHI, hTX, hDS, hPL⟩, fr_rf, ?_⟩
      rw [er]
      exact ⟨rfl, rfl⟩
    refine xv (x_tsw_out 98 d_X7_cell_20 (by omega) (by omega) (by omega) rfl) ?_
    refine xv_r (x_throw d_X7_cell_98 rfl rfl (Nat.le_of_ble_eq_true rfl) (Nat.le_of_ble_eq_true rfl) rfl rfl (Nat.le_of_ble_eq_true rfl)) ?_
    have er : cellO l y z = .inl xIA := by unfold cellO; repeat (first | rw [if_pos (by omega)] | rw [if_neg (by omega)])
    refine hQ _ _ ⟨_, ⟨hX, ⟨_, hW⟩, hSN, hHI, hTX, hDS, hPL⟩, fr_rf, ?_⟩
    rw [er]
    exact ⟨rfl, rfl⟩
  · replace k8 := bI_0.mp k8
    refine xv_r (x_throw d_X7_cell_11 rfl rfl (Nat.le_of_ble_eq_true rfl) (Nat.le_of_ble_eq_true rfl) rfl rfl (Nat.le_of_ble_eq_true rfl)) ?_
    have er : cellO l y z = .inl xIO := by unfold cellO; repeat (first | rw [if_pos (by omega)] | rw [if_neg (by omega)])
    refine hQ _ _ ⟨_, ⟨hX, ⟨_, hW⟩, hSN, hHI, hTX, hDS, hPL⟩, fr_rf, ?_⟩
    rw [er]
    exact ⟨rfl, rfl⟩
theorem S_X7_planned (hC : CA h x l ls nx ct kl n c hs fa kr kd_) (hR : RgC l) (hn : 0 ≤ nx ∧ nx < 8) (hc : 0 ≤ ct ∧ ct ≤ 8) {y z : Int} (y0 : -2147483648 ≤ y) (y1 : y < 2147483648) (z0 : -2147483648 ≤ z) (z1 : z < 2147483648) : ∃ r_ h', q_cl E q_m_X7_planned [Value.ref x, Value.int (zi y), Value.int (zi z)] h = some (r_, h') ∧ (RDx h x l ls nx ct kl n c hs fa kr kd_ (plaO l y z) r_ h') := by
  suffices K : ∀ Q : q_R → q_H → Prop, (∀ r_ h', (RDx h x l ls nx ct kl n c hs fa kr kd_ (plaO l y z) r_ h') → Q r_ h') → Xv E q_m_X7_planned 0 [Value.ref x, Value.int (zi y), Value.int (zi z)] [] h Q from K _ fun _ _ p => p
  intro Q hQ
  obtain ⟨g0, g1, g2, g3, g4, gc, g5, g6, g7, gk, gl, gr, go⟩ := id hR
  obtain ⟨hX, ⟨p, hW⟩, hSN, hHI, hTX, hDS, hPL⟩ := id hC
  refine xv (x_aload_n 1 d_X7_planned_0 rfl rfl) ?_
  refine xv (x_getfield 4 d_X7_planned_1 rfl f_7_12 (Nat.le_of_ble_eq_true rfl) (Nat.le_of_ble_eq_true rfl) (q_gf_of hX rfl)) ?_
  refine xv (x_iload_n 5 d_X7_planned_4 rfl rfl) ?_
  refine xv (x_inv1 8 (as := [Value.int (zi y)]) d_X7_planned_5 rfl c_7_128 rfl (Nat.le_of_ble_eq_true rfl) (Nat.le_of_ble_eq_true rfl) (wh_o hW) (Nat.le_of_ble_eq_true rfl) (Nat.le_of_ble_eq_true rfl) rfl (S_X6_isRobot hW hR (by omega) (by omega))) ?_
  show Xv E q_m_X7_planned 8 [Value.ref x, Value.int (zi y), Value.int (zi z)] [Value.int (zi (bI (isR l y)))] h Q
  refine v_if_ne 19 11 d_X7_planned_8 rfl rfl (by have := bI_r (isR l y); omega) (by have := bI_r (isR l y); omega) (fun k8 => ?_) (fun k8 => ?_)
  · replace k8 := bI_n0.mp k8
    refine xv (x_iload_n 20 d_X7_planned_19 rfl rfl) ?_
    refine v_if_ge 31 23 d_X7_planned_20 rfl rfl (by omega) (by omega) (fun k20 => ?_) (fun k20 => ?_)
    · refine xv (x_aload_n 32 d_X7_planned_31 rfl rfl) ?_
      refine xv (x_getfield 35 d_X7_planned_32 rfl f_7_12 (Nat.le_of_ble_eq_true rfl) (Nat.le_of_ble_eq_true rfl) (q_gf_of hX rfl)) ?_
      refine xv (x_getfield 38 d_X7_planned_35 rfl f_7_131 (Nat.le_of_ble_eq_true rfl) (Nat.le_of_ble_eq_true rfl) (q_gf_of (wh_o hW) rfl)) ?_
      refine xv (x_iload_n 39 d_X7_planned_38 rfl rfl) ?_
      refine xv (x_aaload 40 d_X7_planned_39 rfl (wh_rs hW (by omega) (by omega))) ?_
      refine xv (x_iload_n 41 d_X7_planned_40 rfl rfl) ?_
      refine xv (x_inv1 44 (as := [Value.int (zi z)]) d_X7_planned_41 rfl c_7_288 rfl (Nat.le_of_ble_eq_true rfl) (Nat.le_of_ble_eq_true rfl) (wh_r hW (by omega) (by omega)).1 (Nat.le_of_ble_eq_true rfl) (Nat.le_of_ble_eq_true rfl) rfl (S_X5_cellAhead (wh_r (r := y) hW (by omega) (by omega)) (gr y (by omega) (by omega)) (by omega) (by omega))) ?_
      have q41 := ahf_r (t := z) (gr y (by omega) (by omega)) (by omega)
      show Xv E q_m_X7_planned 44 [Value.ref x, Value.int (zi y), Value.int (zi z)] [Value.int (zi (ahf (rb l y) z))] h Q
      refine xv_r (x_ireturn d_X7_planned_44 rfl rfl) ?_
      have er : plaO l y z = .inr (ahf (rb l y) z) := by unfold plaO; repeat (first | rw [if_pos (by omega)] | rw [if_neg (by omega)])
      refine hQ _ _ ⟨_, ⟨hX, ⟨_, hW⟩, hSN, hHI, hTX, hDS, hPL⟩, fr_rf, ?_⟩
      rw [er]
      exact ⟨rfl, rfl⟩
    · refine xv_r (x_throw d_X7_planned_23 rfl rfl (Nat.le_of_ble_eq_true rfl) (Nat.le_of_ble_eq_true rfl) rfl rfl (Nat.le_of_ble_eq_true rfl)) ?_
      have er : plaO l y z = .inl xIA := by unfold plaO; repeat (first | rw [if_pos (by omega)] | rw [if_neg (by omega)])
      refine hQ _ _ ⟨_, ⟨hX, ⟨_, hW⟩, hSN, hHI, hTX, hDS, hPL⟩, fr_rf, ?_⟩
      rw [er]
      exact ⟨rfl, rfl⟩
  · replace k8 := bI_0.mp k8
    refine xv_r (x_throw d_X7_planned_11 rfl rfl (Nat.le_of_ble_eq_true rfl) (Nat.le_of_ble_eq_true rfl) rfl rfl (Nat.le_of_ble_eq_true rfl)) ?_
    have er : plaO l y z = .inl xIO := by unfold plaO; repeat (first | rw [if_pos (by omega)] | rw [if_neg (by omega)])
    refine hQ _ _ ⟨_, ⟨hX, ⟨_, hW⟩, hSN, hHI, hTX, hDS, hPL⟩, fr_rf, ?_⟩
    rw [er]
    exact ⟨rfl, rfl⟩
theorem S_X7_reserved (hC : CA h x l ls nx ct kl n c hs fa kr kd_) (hR : RgC l) (hn : 0 ≤ nx ∧ nx < 8) (hc : 0 ≤ ct ∧ ct ≤ 8) {y z : Int} (y0 : -2147483648 ≤ y) (y1 : y < 2147483648) (z0 : -2147483648 ≤ z) (z1 : z < 2147483648) : ∃ r_ h', q_cl E q_m_X7_reserved [Value.ref x, Value.int (zi y), Value.int (zi z)] h = some (r_, h') ∧ (RDx h x l ls nx ct kl n c hs fa kr kd_ (resO l y z) r_ h') := by
  suffices K : ∀ Q : q_R → q_H → Prop, (∀ r_ h', (RDx h x l ls nx ct kl n c hs fa kr kd_ (resO l y z) r_ h') → Q r_ h') → Xv E q_m_X7_reserved 0 [Value.ref x, Value.int (zi y), Value.int (zi z)] [] h Q from K _ fun _ _ p => p
  intro Q hQ
  obtain ⟨g0, g1, g2, g3, g4, gc, g5, g6, g7, gk, gl, gr, go⟩ := id hR
  obtain ⟨hX, ⟨p, hW⟩, hSN, hHI, hTX, hDS, hPL⟩ := id hC
  refine xv (x_aload_n 1 d_X7_reserved_0 rfl rfl) ?_
  refine xv (x_getfield 4 d_X7_reserved_1 rfl f_7_12 (Nat.le_of_ble_eq_true rfl) (Nat.le_of_ble_eq_true rfl) (q_gf_of hX rfl)) ?_
  refine xv (x_iload_n 5 d_X7_reserved_4 rfl rfl) ?_
  refine xv (x_inv1 8 (as := [Value.int (zi y)]) d_X7_reserved_5 rfl c_7_105 rfl (Nat.le_of_ble_eq_true rfl) (Nat.le_of_ble_eq_true rfl) (wh_o hW) (Nat.le_of_ble_eq_true rfl) (Nat.le_of_ble_eq_true rfl) rfl (S_X6_isCell hW hR (by omega) (by omega))) ?_
  show Xv E q_m_X7_reserved 8 [Value.ref x, Value.int (zi y), Value.int (zi z)] [Value.int (zi (bI (isC l y)))] h Q
  refine v_if_ne 19 11 d_X7_reserved_8 rfl rfl (by have := bI_r (isC l y); omega) (by have := bI_r (isC l y); omega) (fun k8 => ?_) (fun k8 => ?_)
  · replace k8 := bI_n0.mp k8
    refine xv (x_iload_n 20 d_X7_reserved_19 rfl rfl) ?_
    refine v_if_ge 31 23 d_X7_reserved_20 rfl rfl (by omega) (by omega) (fun k20 => ?_) (fun k20 => ?_)
    · refine xv (x_aload_n 32 d_X7_reserved_31 rfl rfl) ?_
      refine xv (x_getfield 35 d_X7_reserved_32 rfl f_7_12 (Nat.le_of_ble_eq_true rfl) (Nat.le_of_ble_eq_true rfl) (q_gf_of hX rfl)) ?_
      refine xv (x_iload_n 36 d_X7_reserved_35 rfl rfl) ?_
      refine xv (x_iload_n 37 d_X7_reserved_36 rfl rfl) ?_
      refine xv (x_inv1 40 (as := [Value.int (zi y), Value.int (zi z)]) d_X7_reserved_37 rfl c_7_254 rfl (Nat.le_of_ble_eq_true rfl) (Nat.le_of_ble_eq_true rfl) (wh_o hW) (Nat.le_of_ble_eq_true rfl) (Nat.le_of_ble_eq_true rfl) rfl (S_X6_robotThere hW hR (by omega) (by omega) (by omega) (by omega))) ?_
      have q37 := @rin_r l y z
      show Xv E q_m_X7_reserved 40 [Value.ref x, Value.int (zi y), Value.int (zi z)] [Value.int (zi (rin l y z))] h Q
      refine xv_r (x_ireturn d_X7_reserved_40 rfl rfl) ?_
      have er : resO l y z = .inr (rin l y z) := by unfold resO; repeat (first | rw [if_pos (by omega)] | rw [if_neg (by omega)])
      refine hQ _ _ ⟨_, ⟨hX, ⟨_, hW⟩, hSN, hHI, hTX, hDS, hPL⟩, fr_rf, ?_⟩
      rw [er]
      exact ⟨rfl, rfl⟩
    · refine xv_r (x_throw d_X7_reserved_23 rfl rfl (Nat.le_of_ble_eq_true rfl) (Nat.le_of_ble_eq_true rfl) rfl rfl (Nat.le_of_ble_eq_true rfl)) ?_
      have er : resO l y z = .inl xIA := by unfold resO; repeat (first | rw [if_pos (by omega)] | rw [if_neg (by omega)])
      refine hQ _ _ ⟨_, ⟨hX, ⟨_, hW⟩, hSN, hHI, hTX, hDS, hPL⟩, fr_rf, ?_⟩
      rw [er]
      exact ⟨rfl, rfl⟩
  · replace k8 := bI_0.mp k8
    refine xv_r (x_throw d_X7_reserved_11 rfl rfl (Nat.le_of_ble_eq_true rfl) (Nat.le_of_ble_eq_true rfl) rfl rfl (Nat.le_of_ble_eq_true rfl)) ?_
    have er : resO l y z = .inl xIO := by unfold resO; repeat (first | rw [if_pos (by omega)] | rw [if_neg (by omega)])
    refine hQ _ _ ⟨_, ⟨hX, ⟨_, hW⟩, hSN, hHI, hTX, hDS, hPL⟩, fr_rf, ?_⟩
    rw [er]
    exact ⟨rfl, rfl⟩
set_option maxRecDepth 100000 in
theorem S_X7_robotOf (hC : CA h x l ls nx ct kl n c hs fa kr kd_) (hR : RgC l) (hn : 0 ≤ nx ∧ nx < 8) (hc : 0 ≤ ct ∧ ct ≤ 8) {y z : Int} (y0 : -2147483648 ≤ y) (y1 : y < 2147483648) (z0 : -2147483648 ≤ z) (z1 : z < 2147483648) : ∃ r_ h', q_cl E q_m_X7_robotOf [Value.ref x, Value.int (zi y), Value.int (zi z)] h = some (r_, h') ∧ (RDx h x l ls nx ct kl n c hs fa kr kd_ (robO l y z) r_ h') := by
  suffices K : ∀ Q : q_R → q_H → Prop, (∀ r_ h', (RDx h x l ls nx ct kl n c hs fa kr kd_ (robO l y z) r_ h') → Q r_ h') → Xv E q_m_X7_robotOf 0 [Value.ref x, Value.int (zi y), Value.int (zi z), Value.null] [] h Q from K _ fun _ _ p => p
  intro Q hQ
  obtain ⟨g0, g1, g2, g3, g4, gc, g5, g6, g7, gk, gl, gr, go⟩ := id hR
  obtain ⟨hX, ⟨p, hW⟩, hSN, hHI, hTX, hDS, hPL⟩ := id hC
  refine xv (x_aload_n 1 d_X7_robotOf_0 rfl rfl) ?_
  refine xv (x_getfield 4 d_X7_robotOf_1 rfl f_7_12 (Nat.le_of_ble_eq_true rfl) (Nat.le_of_ble_eq_true rfl) (q_gf_of hX rfl)) ?_
  refine xv (x_iload_n 5 d_X7_robotOf_4 rfl rfl) ?_
  refine xv (x_inv1 8 (as := [Value.int (zi y)]) d_X7_robotOf_5 rfl c_7_128 rfl (Nat.le_of_ble_eq_true rfl) (Nat.le_of_ble_eq_true rfl) (wh_o hW) (Nat.le_of_ble_eq_true rfl) (Nat.le_of_ble_eq_true rfl) rfl (S_X6_isRobot hW hR (by omega) (by omega))) ?_
  show Xv E q_m_X7_robotOf 8 [Value.ref x, Value.int (zi y), Value.int (zi z), Value.null] [Value.int (zi (bI (isR l y)))] h Q
  refine v_if_ne 19 11 d_X7_robotOf_8 rfl rfl (by have := bI_r (isR l y); omega) (by have := bI_r (isR l y); omega) (fun k8 => ?_) (fun k8 => ?_)
  · replace k8 := bI_n0.mp k8
    have gq := gr y k8.1 k8.2
    refine xv (x_aload_n 20 d_X7_robotOf_19 rfl rfl) ?_
    refine xv (x_getfield 23 d_X7_robotOf_20 rfl f_7_12 (Nat.le_of_ble_eq_true rfl) (Nat.le_of_ble_eq_true rfl) (q_gf_of hX rfl)) ?_
    refine xv (x_getfield 26 d_X7_robotOf_23 rfl f_7_131 (Nat.le_of_ble_eq_true rfl) (Nat.le_of_ble_eq_true rfl) (q_gf_of (wh_o hW) rfl)) ?_
    refine xv (x_iload_n 27 d_X7_robotOf_26 rfl rfl) ?_
    refine xv (x_aaload 28 d_X7_robotOf_27 rfl (wh_rs hW (by omega) (by omega))) ?_
    refine xv (x_astore_n 29 d_X7_robotOf_28 rfl (Nat.le_of_ble_eq_true rfl)) ?_
    show Xv E q_m_X7_robotOf 29 [Value.ref x, Value.int (zi y), Value.int (zi z), Value.ref (p y)] [] h Q
    refine xv (x_iload_n 30 d_X7_robotOf_29 rfl rfl) ?_
    by_cases k30_0 : z = 0
    · refine xv (x_tsw_in 72 0 d_X7_robotOf_30 k30_0 (by decide) (by decide) (by decide) rfl rfl) ?_
      refine xv (x_aload_n 73 d_X7_robotOf_72 rfl rfl) ?_
      refine xv (x_getfield 76 d_X7_robotOf_73 rfl f_7_233 (Nat.le_of_ble_eq_true rfl) (Nat.le_of_ble_eq_true rfl) (q_gf_of (wh_r hW (by omega) (by omega)).1 rfl)) ?_
      have q73 := gr y (by omega) (by omega)
      refine xv_r (x_ireturn d_X7_robotOf_76 rfl rfl) ?_
      have er : robO l y z = .inr (rb l y 0) := by unfold robO; repeat (first | rw [if_pos (by omega)] | rw [if_neg (by omega)])
      refine hQ _ _ ⟨_, ⟨hX, ⟨_, hW⟩, hSN, hHI, hTX, hDS, hPL⟩, fr_rf, ?_⟩
      rw [er]
      exact ⟨rfl, rfl⟩
    by_cases k30_1 : z = 1
    · refine xv (x_tsw_in 77 1 d_X7_robotOf_30 k30_1 (by decide) (by decide) (by decide) rfl rfl) ?_
      refine xv (x_aload_n 78 d_X7_robotOf_77 rfl rfl) ?_
      refine xv (x_getfield 81 d_X7_robotOf_78 rfl f_7_239 (Nat.le_of_ble_eq_true rfl) (Nat.le_of_ble_eq_true rfl) (q_gf_of (wh_r hW (by omega) (by omega)).1 rfl)) ?_
      have q78 := gr y (by omega) (by omega)
      refine xv_r (x_ireturn d_X7_robotOf_81 rfl rfl) ?_
      have er : robO l y z = .inr (rb l y 1) := by unfold robO; repeat (first | rw [if_pos (by omega)] | rw [if_neg (by omega)])
      refine hQ _ _ ⟨_, ⟨hX, ⟨_, hW⟩, hSN, hHI, hTX, hDS, hPL⟩, fr_rf, ?_⟩
      rw [er]
      exact ⟨rfl, rfl⟩
    by_cases k30_2 : z = 2
    · refine xv (x_tsw_in 82 2 d_X7_robotOf_30 k30_2 (by decide) (by decide) (by decide) rfl rfl) ?_
      refine xv (x_aload_n 83 d_X7_robotOf_82 rfl rfl) ?_
      refine xv (x_getfield 86 d_X7_robotOf_83 rfl f_7_135 (Nat.le_of_ble_eq_true rfl) (Nat.le_of_ble_eq_true rfl) (q_gf_of (wh_r hW (by omega) (by omega)).1 rfl)) ?_
      have q83 := gr y (by omega) (by omega)
      refine xv_r (x_ireturn d_X7_robotOf_86 rfl rfl) ?_
      have er : robO l y z = .inr (rb l y 2) := by unfold robO; repeat (first | rw [if_pos (by omega)] | rw [if_neg (by omega)])
      refine hQ _ _ ⟨_, ⟨hX, ⟨_, hW⟩, hSN, hHI, hTX, hDS, hPL⟩, fr_rf, ?_⟩
      rw [er]
      exact ⟨rfl, rfl⟩
    by_cases k30_3 : z = 3
    · refine xv (x_tsw_in 87 3 d_X7_robotOf_30 k30_3 (by decide) (by decide) (by decide) rfl rfl) ?_
      refine xv (x_aload_n 88 d_X7_robotOf_87 rfl rfl) ?_
      refine xv (x_getfield 91 d_X7_robotOf_88 rfl f_7_230 (Nat.le_of_ble_eq_true rfl) (Nat.le_of_ble_eq_true rfl) (q_gf_of (wh_r hW (by omega) (by omega)).1 rfl)) ?_
      have q88 := gr y (by omega) (by omega)
      refine xv_r (x_ireturn d_X7_robotOf_91 rfl rfl) ?_
      have er : robO l y z = .inr (rb l y 3) := by unfold robO; repeat (first | rw [if_pos (by omega)] | rw [if_neg (by omega)])
      refine hQ _ _ ⟨_, ⟨hX, ⟨_, hW⟩, hSN, hHI, hTX, hDS, hPL⟩, fr_rf, ?_⟩
      rw [er]
      exact ⟨rfl, rfl⟩
    by_cases k30_4 : z = 4
    · refine xv (x_tsw_in 92 4 d_X7_robotOf_30 k30_4 (by decide) (by decide) (by decide) rfl rfl) ?_
      refine xv (x_aload_n 93 d_X7_robotOf_92 rfl rfl) ?_
      refine xv (x_getfield 96 d_X7_robotOf_93 rfl f_7_230 (Nat.le_of_ble_eq_true rfl) (Nat.le_of_ble_eq_true rfl) (q_gf_of (wh_r hW (by omega) (by omega)).1 rfl)) ?_
      have q93 := gr y (by omega) (by omega)
      refine v_if_ne 103 99 d_X7_robotOf_96 rfl rfl (by omega) (by omega) (fun k96 => ?_) (fun k96 => ?_)
      · refine xv (x_aload_n 104 d_X7_robotOf_103 rfl rfl) ?_
        refine xv (x_inv1 107 (as := []) d_X7_robotOf_104 rfl c_7_279 rfl (Nat.le_of_ble_eq_true rfl) (Nat.le_of_ble_eq_true rfl) (wh_r hW (by omega) (by omega)).1 (Nat.le_of_ble_eq_true rfl) (Nat.le_of_ble_eq_true rfl) rfl (S_X5_lastCell (wh_r (r := y) hW (by omega) (by omega)) (gr y (by omega) (by omega)))) ?_
        have q104 := ahf_r (t := (rb l y) 3) (gr y (by omega) (by omega)) (by omega)
        show Xv E q_m_X7_robotOf 107 [Value.ref x, Value.int (zi y), Value.int (zi z), Value.ref (p y)] [Value.int (zi (ahf (rb l y) ((rb l y) 3)))] h Q
        refine xv_r (x_ireturn d_X7_robotOf_107 rfl rfl) ?_
        have er : robO l y z = .inr (if rb l y 3 = 0 then -1 else ahf (rb l y) (rb l y 3)) := by unfold robO; repeat (first | rw [if_pos (by omega)] | rw [if_neg (by omega)])
        refine hQ _ _ ⟨_, ⟨hX, ⟨_, hW⟩, hSN, hHI, hTX, hDS, hPL⟩, fr_rf, ?_⟩
        rw [er]
        exact ⟨by first | rw [if_pos k96] | rw [if_neg k96], rfl⟩
      · refine xv (x_iconst 100 d_X7_robotOf_99 rfl) ?_
        refine xv (x_goto 107 d_X7_robotOf_100 rfl) ?_
        refine xv_r (x_ireturn d_X7_robotOf_107 rfl rfl) ?_
        have er : robO l y z = .inr (if rb l y 3 = 0 then -1 else ahf (rb l y) (rb l y 3)) := by unfold robO; repeat (first | rw [if_pos (by omega)] | rw [if_neg (by omega)])
        refine hQ _ _ ⟨_, ⟨hX, ⟨_, hW⟩, hSN, hHI, hTX, hDS, hPL⟩, fr_rf, ?_⟩
        rw [er]
        exact ⟨by first | rw [if_pos k96] | rw [if_neg k96], rfl⟩
    by_cases k30_5 : z = 5
    · refine xv (x_tsw_in 108 5 d_X7_robotOf_30 k30_5 (by decide) (by decide) (by decide) rfl rfl) ?_
      refine xv (x_aload_n 109 d_X7_robotOf_108 rfl rfl) ?_
      refine xv (x_getfield 112 d_X7_robotOf_109 rfl f_7_12 (Nat.le_of_ble_eq_true rfl) (Nat.le_of_ble_eq_true rfl) (q_gf_of hX rfl)) ?_
      refine xv (x_iload_n 113 d_X7_robotOf_112 rfl rfl) ?_
      refine xv (x_inv1 116 (as := [Value.int (zi y)]) d_X7_robotOf_113 rfl c_7_282 rfl (Nat.le_of_ble_eq_true rfl) (Nat.le_of_ble_eq_true rfl) (wh_o hW) (Nat.le_of_ble_eq_true rfl) (Nat.le_of_ble_eq_true rfl) rfl (S_X6_isLoaded hW hR (by omega))) ?_
      show Xv E q_m_X7_robotOf 116 [Value.ref x, Value.int (zi y), Value.int (zi z), Value.ref (p y)] [Value.int (zi (bI (isO l (rb l y 2) ∧ 0 < ob l (rb l y 2) 2)))] h Q
      refine v_if_eq 123 119 d_X7_robotOf_116 rfl rfl (by have := bI_r (isO l (rb l y 2) ∧ 0 < ob l (rb l y 2) 2); omega) (by have := bI_r (isO l (rb l y 2) ∧ 0 < ob l (rb l y 2) 2); omega) (fun k116 => ?_) (fun k116 => ?_)
      · replace k116 := bI_0.mp k116
        refine xv (x_iconst 124 d_X7_robotOf_123 rfl) ?_
        refine xv_r (x_ireturn d_X7_robotOf_124 rfl rfl) ?_
        have er : robO l y z = .inr (bI (isO l (rb l y 2) ∧ 0 < ob l (rb l y 2) 2)) := by unfold robO; repeat (first | rw [if_pos (by omega)] | rw [if_neg (by omega)])
        refine hQ _ _ ⟨_, ⟨hX, ⟨_, hW⟩, hSN, hHI, hTX, hDS, hPL⟩, fr_rf, ?_⟩
        rw [er]
        exact ⟨by first | rw [bI_t k116] | rw [bI_f k116], rfl⟩
      · replace k116 := bI_n0.mp k116
        refine xv (x_iconst 120 d_X7_robotOf_119 rfl) ?_
        refine xv (x_goto 124 d_X7_robotOf_120 rfl) ?_
        refine xv_r (x_ireturn d_X7_robotOf_124 rfl rfl) ?_
        have er : robO l y z = .inr (bI (isO l (rb l y 2) ∧ 0 < ob l (rb l y 2) 2)) := by unfold robO; repeat (first | rw [if_pos (by omega)] | rw [if_neg (by omega)])
        refine hQ _ _ ⟨_, ⟨hX, ⟨_, hW⟩, hSN, hHI, hTX, hDS, hPL⟩, fr_rf, ?_⟩
        rw [er]
        exact ⟨by first | rw [bI_t k116] | rw [bI_f k116], rfl⟩
    by_cases k30_6 : z = 6
    · refine xv (x_tsw_in 125 6 d_X7_robotOf_30 k30_6 (by decide) (by decide) (by decide) rfl rfl) ?_
      refine xv (x_aload_n 126 d_X7_robotOf_125 rfl rfl) ?_
      refine xv (x_getfield 129 d_X7_robotOf_126 rfl f_7_285 (Nat.le_of_ble_eq_true rfl) (Nat.le_of_ble_eq_true rfl) (q_gf_of (wh_r hW (by omega) (by omega)).1 rfl)) ?_
      have q126 := gr y (by omega) (by omega)
      refine xv_r (x_ireturn d_X7_robotOf_129 rfl rfl) ?_
      have er : robO l y z = .inr (rb l y 5) := by unfold robO; repeat (first | rw [if_pos (by omega)] | rw [if_neg (by omega)])
      refine hQ _ _ ⟨_, ⟨hX, ⟨_, hW⟩, hSN, hHI, hTX, hDS, hPL⟩, fr_rf, ?_⟩
      rw [er]
      exact ⟨rfl, rfl⟩
    refine xv (x_tsw_out 130 d_X7_robotOf_30 (by omega) (by omega) (by omega) rfl) ?_
    refine xv_r (x_throw d_X7_robotOf_130 rfl rfl (Nat.le_of_ble_eq_true rfl) (Nat.le_of_ble_eq_true rfl) rfl rfl (Nat.le_of_ble_eq_true rfl)) ?_
    have er : robO l y z = .inl xIA := by unfold robO; repeat (first | rw [if_pos (by omega)] | rw [if_neg (by omega)])
    refine hQ _ _ ⟨_, ⟨hX, ⟨_, hW⟩, hSN, hHI, hTX, hDS, hPL⟩, fr_rf, ?_⟩
    rw [er]
    exact ⟨rfl, rfl⟩
  · replace k8 := bI_0.mp k8
    refine xv_r (x_throw d_X7_robotOf_11 rfl rfl (Nat.le_of_ble_eq_true rfl) (Nat.le_of_ble_eq_true rfl) rfl rfl (Nat.le_of_ble_eq_true rfl)) ?_
    have er : robO l y z = .inl xIO := by unfold robO; repeat (first | rw [if_pos (by omega)] | rw [if_neg (by omega)])
    refine hQ _ _ ⟨_, ⟨hX, ⟨_, hW⟩, hSN, hHI, hTX, hDS, hPL⟩, fr_rf, ?_⟩
    rw [er]
    exact ⟨rfl, rfl⟩
set_option maxRecDepth 100000 in
theorem S_X7_orderOf (hC : CA h x l ls nx ct kl n c hs fa kr kd_) (hR : RgC l) (hn : 0 ≤ nx ∧ nx < 8) (hc : 0 ≤ ct ∧ ct ≤ 8) {y z : Int} (y0 : -2147483648 ≤ y) (y1 : y < 2147483648) (z0 : -2147483648 ≤ z) (z1 : z < 2147483648) : ∃ r_ h', q_cl E q_m_X7_orderOf [Value.ref x, Value.int (zi y), Value.int (zi z)] h = some (r_, h') ∧ (RDx h x l ls nx ct kl n c hs fa kr kd_ (ordO l y z) r_ h') := by
  suffices K : ∀ Q : q_R → q_H → Prop, (∀ r_ h', (RDx h x l ls nx ct kl n c hs fa kr kd_ (ordO l y z) r_ h') → Q r_ h') → Xv E q_m_X7_orderOf 0 [Value.ref x, Value.int (zi y), Value.int (zi z), Value.null] [] h Q from K _ fun _ _ p => p
  intro Q hQ
  obtain ⟨g0, g1, g2, g3, g4, gc, g5, g6, g7, gk, gl, gr, go⟩ := id hR
  obtain ⟨hX, ⟨p, hW⟩, hSN, hHI, hTX, hDS, hPL⟩ := id hC
  refine xv (x_aload_n 1 d_X7_orderOf_0 rfl rfl) ?_
  refine xv (x_getfield 4 d_X7_orderOf_1 rfl f_7_12 (Nat.le_of_ble_eq_true rfl) (Nat.le_of_ble_eq_true rfl) (q_gf_of hX rfl)) ?_
  refine xv (x_iload_n 5 d_X7_orderOf_4 rfl rfl) ?_
  refine xv (x_inv1 8 (as := [Value.int (zi y)]) d_X7_orderOf_5 rfl c_7_173 rfl (Nat.le_of_ble_eq_true rfl) (Nat.le_of_ble_eq_true rfl) (wh_o hW) (Nat.le_of_ble_eq_true rfl) (Nat.le_of_ble_eq_true rfl) rfl (S_X6_isOrder hW hR (by omega) (by omega))) ?_
  show Xv E q_m_X7_orderOf 8 [Value.ref x, Value.int (zi y), Value.int (zi z), Value.null] [Value.int (zi (bI (isO l y)))] h Q
  refine v_if_ne 19 11 d_X7_orderOf_8 rfl rfl (by have := bI_r (isO l y); omega) (by have := bI_r (isO l y); omega) (fun k8 => ?_) (fun k8 => ?_)
  · replace k8 := bI_n0.mp k8
    have gq := go y k8.1 k8.2
    refine xv (x_aload_n 20 d_X7_orderOf_19 rfl rfl) ?_
    refine xv (x_getfield 23 d_X7_orderOf_20 rfl f_7_12 (Nat.le_of_ble_eq_true rfl) (Nat.le_of_ble_eq_true rfl) (q_gf_of hX rfl)) ?_
    refine xv (x_getfield 26 d_X7_orderOf_23 rfl f_7_164 (Nat.le_of_ble_eq_true rfl) (Nat.le_of_ble_eq_true rfl) (q_gf_of (wh_o hW) rfl)) ?_
    refine xv (x_iload_n 27 d_X7_orderOf_26 rfl rfl) ?_
    refine xv (x_aaload 28 d_X7_orderOf_27 rfl (wh_os hW (by omega) (by omega))) ?_
    refine xv (x_astore_n 29 d_X7_orderOf_28 rfl (Nat.le_of_ble_eq_true rfl)) ?_
    show Xv E q_m_X7_orderOf 29 [Value.ref x, Value.int (zi y), Value.int (zi z), Value.ref (oa (x + 1) y)] [] h Q
    refine xv (x_iload_n 30 d_X7_orderOf_29 rfl rfl) ?_
    by_cases k30_0 : z = 0
    · refine xv (x_tsw_in 68 0 d_X7_orderOf_30 k30_0 (by decide) (by decide) (by decide) rfl rfl) ?_
      refine xv (x_aload_n 69 d_X7_orderOf_68 rfl rfl) ?_
      refine xv (x_getfield 72 d_X7_orderOf_69 rfl f_7_294 (Nat.le_of_ble_eq_true rfl) (Nat.le_of_ble_eq_true rfl) (q_gf_of (wh_ob hW (by omega) (by omega)).1 rfl)) ?_
      have q69 := go y (by omega) (by omega)
      refine xv_r (x_ireturn d_X7_orderOf_72 rfl rfl) ?_
      have er : ordO l y z = .inr (ob l y 0) := by unfold ordO; repeat (first | rw [if_pos (by omega)] | rw [if_neg (by omega)])
      refine hQ _ _ ⟨_, ⟨hX, ⟨_, hW⟩, hSN, hHI, hTX, hDS, hPL⟩, fr_rf, ?_⟩
      rw [er]
      exact ⟨rfl, rfl⟩
    by_cases k30_1 : z = 1
    · refine xv (x_tsw_in 73 1 d_X7_orderOf_30 k30_1 (by decide) (by decide) (by decide) rfl rfl) ?_
      refine xv (x_aload_n 74 d_X7_orderOf_73 rfl rfl) ?_
      refine xv (x_getfield 77 d_X7_orderOf_74 rfl f_7_297 (Nat.le_of_ble_eq_true rfl) (Nat.le_of_ble_eq_true rfl) (q_gf_of (wh_ob hW (by omega) (by omega)).1 rfl)) ?_
      have q74 := go y (by omega) (by omega)
      refine xv_r (x_ireturn d_X7_orderOf_77 rfl rfl) ?_
      have er : ordO l y z = .inr (ob l y 1) := by unfold ordO; repeat (first | rw [if_pos (by omega)] | rw [if_neg (by omega)])
      refine hQ _ _ ⟨_, ⟨hX, ⟨_, hW⟩, hSN, hHI, hTX, hDS, hPL⟩, fr_rf, ?_⟩
      rw [er]
      exact ⟨rfl, rfl⟩
    by_cases k30_2 : z = 2
    · refine xv (x_tsw_in 78 2 d_X7_orderOf_30 k30_2 (by decide) (by decide) (by decide) rfl rfl) ?_
      refine xv (x_aload_n 79 d_X7_orderOf_78 rfl rfl) ?_
      refine xv (x_getfield 82 d_X7_orderOf_79 rfl f_7_300 (Nat.le_of_ble_eq_true rfl) (Nat.le_of_ble_eq_true rfl) (q_gf_of (wh_ob hW (by omega) (by omega)).1 rfl)) ?_
      have q79 := go y (by omega) (by omega)
      refine xv_r (x_ireturn d_X7_orderOf_82 rfl rfl) ?_
      have er : ordO l y z = .inr (ob l y 2) := by unfold ordO; repeat (first | rw [if_pos (by omega)] | rw [if_neg (by omega)])
      refine hQ _ _ ⟨_, ⟨hX, ⟨_, hW⟩, hSN, hHI, hTX, hDS, hPL⟩, fr_rf, ?_⟩
      rw [er]
      exact ⟨rfl, rfl⟩
    by_cases k30_3 : z = 3
    · refine xv (x_tsw_in 83 3 d_X7_orderOf_30 k30_3 (by decide) (by decide) (by decide) rfl rfl) ?_
      refine xv (x_aload_n 84 d_X7_orderOf_83 rfl rfl) ?_
      refine xv (x_getfield 87 d_X7_orderOf_84 rfl f_7_12 (Nat.le_of_ble_eq_true rfl) (Nat.le_of_ble_eq_true rfl) (q_gf_of hX rfl)) ?_
      refine xv (x_iload_n 88 d_X7_orderOf_87 rfl rfl) ?_
      refine xv (x_inv1 91 (as := [Value.int (zi y)]) d_X7_orderOf_88 rfl c_7_176 rfl (Nat.le_of_ble_eq_true rfl) (Nat.le_of_ble_eq_true rfl) (wh_o hW) (Nat.le_of_ble_eq_true rfl) (Nat.le_of_ble_eq_true rfl) rfl (S_X6_stateOf hW hR (by omega) (by omega))) ?_
      have q88 := @stc_r l y
      show Xv E q_m_X7_orderOf 91 [Value.ref x, Value.int (zi y), Value.int (zi z), Value.ref (oa (x + 1) y)] [Value.int (zi (stc l y))] h Q
      refine xv_r (x_ireturn d_X7_orderOf_91 rfl rfl) ?_
      have er : ordO l y z = .inr (stc l y) := by unfold ordO; repeat (first | rw [if_pos (by omega)] | rw [if_neg (by omega)])
      refine hQ _ _ ⟨_, ⟨hX, ⟨_, hW⟩, hSN, hHI, hTX, hDS, hPL⟩, fr_rf, ?_⟩
      rw [er]
      exact ⟨rfl, rfl⟩
    by_cases k30_4 : z = 4
    · refine xv (x_tsw_in 92 4 d_X7_orderOf_30 k30_4 (by decide) (by decide) (by decide) rfl rfl) ?_
      refine xv (x_aload_n 93 d_X7_orderOf_92 rfl rfl) ?_
      refine xv (x_getfield 96 d_X7_orderOf_93 rfl f_7_12 (Nat.le_of_ble_eq_true rfl) (Nat.le_of_ble_eq_true rfl) (q_gf_of hX rfl)) ?_
      refine xv (x_iload_n 97 d_X7_orderOf_96 rfl rfl) ?_
      refine xv (x_inv1 100 (as := [Value.int (zi y)]) d_X7_orderOf_97 rfl c_7_303 rfl (Nat.le_of_ble_eq_true rfl) (Nat.le_of_ble_eq_true rfl) (wh_o hW) (Nat.le_of_ble_eq_true rfl) (Nat.le_of_ble_eq_true rfl) rfl (S_X6_robotWith hW hR (by omega) (by omega))) ?_
      have q97 := @rwo_r l y
      show Xv E q_m_X7_orderOf 100 [Value.ref x, Value.int (zi y), Value.int (zi z), Value.ref (oa (x + 1) y)] [Value.int (zi (rwo l y))] h Q
      refine xv_r (x_ireturn d_X7_orderOf_100 rfl rfl) ?_
      have er : ordO l y z = .inr (rwo l y) := by unfold ordO; repeat (first | rw [if_pos (by omega)] | rw [if_neg (by omega)])
      refine hQ _ _ ⟨_, ⟨hX, ⟨_, hW⟩, hSN, hHI, hTX, hDS, hPL⟩, fr_rf, ?_⟩
      rw [er]
      exact ⟨rfl, rfl⟩
    by_cases k30_5 : z = 5
    · refine xv (x_tsw_in 101 5 d_X7_orderOf_30 k30_5 (by decide) (by decide) (by decide) rfl rfl) ?_
      refine xv (x_aload_n 102 d_X7_orderOf_101 rfl rfl) ?_
      refine xv (x_getfield 105 d_X7_orderOf_102 rfl f_7_306 (Nat.le_of_ble_eq_true rfl) (Nat.le_of_ble_eq_true rfl) (q_gf_of (wh_ob hW (by omega) (by omega)).1 rfl)) ?_
      have q102 := go y (by omega) (by omega)
      refine xv_r (x_ireturn d_X7_orderOf_105 rfl rfl) ?_
      have er : ordO l y z = .inr (ob l y 4) := by unfold ordO; repeat (first | rw [if_pos (by omega)] | rw [if_neg (by omega)])
      refine hQ _ _ ⟨_, ⟨hX, ⟨_, hW⟩, hSN, hHI, hTX, hDS, hPL⟩, fr_rf, ?_⟩
      rw [er]
      exact ⟨rfl, rfl⟩
    refine xv (x_tsw_out 106 d_X7_orderOf_30 (by omega) (by omega) (by omega) rfl) ?_
    refine xv_r (x_throw d_X7_orderOf_106 rfl rfl (Nat.le_of_ble_eq_true rfl) (Nat.le_of_ble_eq_true rfl) rfl rfl (Nat.le_of_ble_eq_true rfl)) ?_
    have er : ordO l y z = .inl xIA := by unfold ordO; repeat (first | rw [if_pos (by omega)] | rw [if_neg (by omega)])
    refine hQ _ _ ⟨_, ⟨hX, ⟨_, hW⟩, hSN, hHI, hTX, hDS, hPL⟩, fr_rf, ?_⟩
    rw [er]
    exact ⟨rfl, rfl⟩
  · replace k8 := bI_0.mp k8
    refine xv_r (x_throw d_X7_orderOf_11 rfl rfl (Nat.le_of_ble_eq_true rfl) (Nat.le_of_ble_eq_true rfl) rfl rfl (Nat.le_of_ble_eq_true rfl)) ?_
    have er : ordO l y z = .inl xIO := by unfold ordO; repeat (first | rw [if_pos (by omega)] | rw [if_neg (by omega)])
    refine hQ _ _ ⟨_, ⟨hX, ⟨_, hW⟩, hSN, hHI, hTX, hDS, hPL⟩, fr_rf, ?_⟩
    rw [er]
    exact ⟨rfl, rfl⟩
theorem S_X7_line (hC : CA h x l ls nx ct kl n c hs fa kr kd_) (hR : RgC l) (hn : 0 ≤ nx ∧ nx < 8) (hc : 0 ≤ ct ∧ ct ≤ 8) {y z : Int} (y0 : -2147483648 ≤ y) (y1 : y < 2147483648) (z0 : -2147483648 ≤ z) (z1 : z < 2147483648) : ∃ r_ h', q_cl E q_m_X7_line [Value.ref x, Value.int (zi y), Value.int (zi z)] h = some (r_, h') ∧ (RDx h x l ls nx ct kl n c hs fa kr kd_ (linO l y z) r_ h') := by
  suffices K : ∀ Q : q_R → q_H → Prop, (∀ r_ h', (RDx h x l ls nx ct kl n c hs fa kr kd_ (linO l y z) r_ h') → Q r_ h') → Xv E q_m_X7_line 0 [Value.ref x, Value.int (zi y), Value.int (zi z)] [] h Q from K _ fun _ _ p => p
  intro Q hQ
  obtain ⟨g0, g1, g2, g3, g4, gc, g5, g6, g7, gk, gl, gr, go⟩ := id hR
  obtain ⟨hX, ⟨p, hW⟩, hSN, hHI, hTX, hDS, hPL⟩ := id hC
  refine xv (x_aload_n 1 d_X7_line_0 rfl rfl) ?_
  refine xv (x_getfield 4 d_X7_line_1 rfl f_7_12 (Nat.le_of_ble_eq_true rfl) (Nat.le_of_ble_eq_true rfl) (q_gf_of hX rfl)) ?_
  refine xv (x_iload_n 5 d_X7_line_4 rfl rfl) ?_
  refine xv (x_inv1 8 (as := [Value.int (zi y)]) d_X7_line_5 rfl c_7_173 rfl (Nat.le_of_ble_eq_true rfl) (Nat.le_of_ble_eq_true rfl) (wh_o hW) (Nat.le_of_ble_eq_true rfl) (Nat.le_of_ble_eq_true rfl) rfl (S_X6_isOrder hW hR (by omega) (by omega))) ?_
  show Xv E q_m_X7_line 8 [Value.ref x, Value.int (zi y), Value.int (zi z)] [Value.int (zi (bI (isO l y)))] h Q
  refine v_if_ne 19 11 d_X7_line_8 rfl rfl (by have := bI_r (isO l y); omega) (by have := bI_r (isO l y); omega) (fun k8 => ?_) (fun k8 => ?_)
  · replace k8 := bI_n0.mp k8
    have gq := go y k8.1 k8.2
    refine xv (x_iload_n 20 d_X7_line_19 rfl rfl) ?_
    refine v_if_lt 39 23 d_X7_line_20 rfl rfl (by omega) (by omega) (fun k20 => ?_) (fun k20 => ?_)
    · refine xv_r (x_throw d_X7_line_39 rfl rfl (Nat.le_of_ble_eq_true rfl) (Nat.le_of_ble_eq_true rfl) rfl rfl (Nat.le_of_ble_eq_true rfl)) ?_
      have er : linO l y z = .inl xIO := by unfold linO; repeat (first | rw [if_pos (by omega)] | rw [if_neg (by omega)])
      refine hQ _ _ ⟨_, ⟨hX, ⟨_, hW⟩, hSN, hHI, hTX, hDS, hPL⟩, fr_rf, ?_⟩
      rw [er]
      exact ⟨rfl, rfl⟩
    · refine xv (x_iload_n 24 d_X7_line_23 rfl rfl) ?_
      refine xv (x_aload_n 25 d_X7_line_24 rfl rfl) ?_
      refine xv (x_getfield 28 d_X7_line_25 rfl f_7_12 (Nat.le_of_ble_eq_true rfl) (Nat.le_of_ble_eq_true rfl) (q_gf_of hX rfl)) ?_
      refine xv (x_getfield 31 d_X7_line_28 rfl f_7_164 (Nat.le_of_ble_eq_true rfl) (Nat.le_of_ble_eq_true rfl) (q_gf_of (wh_o hW) rfl)) ?_
      refine xv (x_iload_n 32 d_X7_line_31 rfl rfl) ?_
      refine xv (x_aaload 33 d_X7_line_32 rfl (wh_os hW (by omega) (by omega))) ?_
      refine xv (x_getfield 36 d_X7_line_33 rfl f_7_297 (Nat.le_of_ble_eq_true rfl) (Nat.le_of_ble_eq_true rfl) (q_gf_of (wh_ob hW (by omega) (by omega)).1 rfl)) ?_
      have q33 := go y (by omega) (by omega)
      refine v_icmp_lt 47 39 d_X7_line_36 rfl rfl (by omega) (by omega) (by omega) (by omega) (fun k36 => ?_) (fun k36 => ?_)
      · refine xv (x_aload_n 48 d_X7_line_47 rfl rfl) ?_
        refine xv (x_getfield 51 d_X7_line_48 rfl f_7_12 (Nat.le_of_ble_eq_true rfl) (Nat.le_of_ble_eq_true rfl) (q_gf_of hX rfl)) ?_
        refine xv (x_getfield 54 d_X7_line_51 rfl f_7_164 (Nat.le_of_ble_eq_true rfl) (Nat.le_of_ble_eq_true rfl) (q_gf_of (wh_o hW) rfl)) ?_
        refine xv (x_iload_n 55 d_X7_line_54 rfl rfl) ?_
        refine xv (x_aaload 56 d_X7_line_55 rfl (wh_os hW (by omega) (by omega))) ?_
        refine xv (x_getfield 59 d_X7_line_56 rfl f_7_309 (Nat.le_of_ble_eq_true rfl) (Nat.le_of_ble_eq_true rfl) (q_gf_of (wh_ob hW (by omega) (by omega)).1 rfl)) ?_
        refine xv (x_iload_n 60 d_X7_line_59 rfl rfl) ?_
        refine xv (x_iaload 61 d_X7_line_60 rfl (ai_g (wh_ob hW (by omega) (by omega)).2 (by omega) (by omega) (by decide))) ?_
        refine xv_r (x_ireturn d_X7_line_61 rfl rfl) ?_
        have er : linO l y z = .inr (ob l y (5 + z)) := by unfold linO; repeat (first | rw [if_pos (by omega)] | rw [if_neg (by omega)])
        refine hQ _ _ ⟨_, ⟨hX, ⟨_, hW⟩, hSN, hHI, hTX, hDS, hPL⟩, fr_rf, ?_⟩
        rw [er]
        exact ⟨rfl, rfl⟩
      · refine xv_r (x_throw d_X7_line_39 rfl rfl (Nat.le_of_ble_eq_true rfl) (Nat.le_of_ble_eq_true rfl) rfl rfl (Nat.le_of_ble_eq_true rfl)) ?_
        have er : linO l y z = .inl xIO := by unfold linO; repeat (first | rw [if_pos (by omega)] | rw [if_neg (by omega)])
        refine hQ _ _ ⟨_, ⟨hX, ⟨_, hW⟩, hSN, hHI, hTX, hDS, hPL⟩, fr_rf, ?_⟩
        rw [er]
        exact ⟨rfl, rfl⟩
  · replace k8 := bI_0.mp k8
    refine xv_r (x_throw d_X7_line_11 rfl rfl (Nat.le_of_ble_eq_true rfl) (Nat.le_of_ble_eq_true rfl) rfl rfl (Nat.le_of_ble_eq_true rfl)) ?_
    have er : linO l y z = .inl xIO := by unfold linO; repeat (first | rw [if_pos (by omega)] | rw [if_neg (by omega)])
    refine hQ _ _ ⟨_, ⟨hX, ⟨_, hW⟩, hSN, hHI, hTX, hDS, hPL⟩, fr_rf, ?_⟩
    rw [er]
    exact ⟨rfl, rfl⟩
theorem S_X7_waiting (hC : CA h x l ls nx ct kl n c hs fa kr kd_) (hR : RgC l) (hn : 0 ≤ nx ∧ nx < 8) (hc : 0 ≤ ct ∧ ct ≤ 8) {y : Int} (y0 : -2147483648 ≤ y) (y1 : y < 2147483648) : ∃ r_ h', q_cl E q_m_X7_waiting [Value.ref x, Value.int (zi y)] h = some (r_, h') ∧ (RDx h x l ls nx ct kl n c hs fa kr kd_ (waiO l y) r_ h') := by
  suffices K : ∀ Q : q_R → q_H → Prop, (∀ r_ h', (RDx h x l ls nx ct kl n c hs fa kr kd_ (waiO l y) r_ h') → Q r_ h') → Xv E q_m_X7_waiting 0 [Value.ref x, Value.int (zi y), Value.null] [] h Q from K _ fun _ _ p => p
  intro Q hQ
  obtain ⟨g0, g1, g2, g3, g4, gc, g5, g6, g7, gk, gl, gr, go⟩ := id hR
  obtain ⟨hX, ⟨p, hW⟩, hSN, hHI, hTX, hDS, hPL⟩ := id hC
  refine xv (x_iload_n 1 d_X7_waiting_0 rfl rfl) ?_
  refine xv (x_iconst 2 d_X7_waiting_1 rfl) ?_
  refine v_icmp_ne 14 5 d_X7_waiting_2 rfl rfl (by omega) (by omega) (by omega) (by omega) (fun k2 => ?_) (fun k2 => ?_)
  · refine xv (x_aload_n 15 d_X7_waiting_14 rfl rfl) ?_
    refine xv (x_getfield 18 d_X7_waiting_15 rfl f_7_12 (Nat.le_of_ble_eq_true rfl) (Nat.le_of_ble_eq_true rfl) (q_gf_of hX rfl)) ?_
    refine xv (x_iload_n 19 d_X7_waiting_18 rfl rfl) ?_
    refine xv (x_inv1 22 (as := [Value.int (zi y)]) d_X7_waiting_19 rfl c_7_315 rfl (Nat.le_of_ble_eq_true rfl) (Nat.le_of_ble_eq_true rfl) (wh_o hW) (Nat.le_of_ble_eq_true rfl) (Nat.le_of_ble_eq_true rfl) rfl (S_X6_waitingOrder hW hR (by omega) (by omega))) ?_
    have q19 := @wor_r l y
    show Xv E q_m_X7_waiting 22 [Value.ref x, Value.int (zi y), Value.null] [Value.int (zi (wor l y))] h Q
    refine xv (x_istore_n 23 d_X7_waiting_22 rfl (Nat.le_of_ble_eq_true rfl)) ?_
    show Xv E q_m_X7_waiting 23 [Value.ref x, Value.int (zi y), Value.int (zi (wor l y))] [] h Q
    refine xv (x_iload_n 24 d_X7_waiting_23 rfl rfl) ?_
    refine xv (x_iconst 25 d_X7_waiting_24 rfl) ?_
    refine v_icmp_ne 36 28 d_X7_waiting_25 rfl rfl (by omega) (by omega) (by omega) (by omega) (fun k25 => ?_) (fun k25 => ?_)
    · refine xv (x_iload_n 37 d_X7_waiting_36 rfl rfl) ?_
      refine xv_r (x_ireturn d_X7_waiting_37 rfl rfl) ?_
      have er : waiO l y = .inr (wor l y) := by unfold waiO; repeat (first | rw [if_pos (by omega)] | rw [if_neg (by omega)])
      refine hQ _ _ ⟨_, ⟨hX, ⟨_, hW⟩, hSN, hHI, hTX, hDS, hPL⟩, fr_rf, ?_⟩
      rw [er]
      exact ⟨rfl, rfl⟩
    · refine xv_r (x_throw d_X7_waiting_28 rfl rfl (Nat.le_of_ble_eq_true rfl) (Nat.le_of_ble_eq_true rfl) rfl rfl (Nat.le_of_ble_eq_true rfl)) ?_
      have er : waiO l y = .inl xNS := by unfold waiO; repeat (first | rw [if_pos (by omega)] | rw [if_neg (by omega)])
      refine hQ _ _ ⟨_, ⟨hX, ⟨_, hW⟩, hSN, hHI, hTX, hDS, hPL⟩, fr_rf, ?_⟩
      rw [er]
      exact ⟨rfl, rfl⟩
  · refine xv (x_aload_n 6 d_X7_waiting_5 rfl rfl) ?_
    refine xv (x_getfield 9 d_X7_waiting_6 rfl f_7_12 (Nat.le_of_ble_eq_true rfl) (Nat.le_of_ble_eq_true rfl) (q_gf_of hX rfl)) ?_
    refine xv (x_iconst 10 d_X7_waiting_9 rfl) ?_
    refine xv (x_inv1 13 (as := [Value.int (zi 0)]) d_X7_waiting_10 rfl c_7_312 rfl (Nat.le_of_ble_eq_true rfl) (Nat.le_of_ble_eq_true rfl) (wh_o hW) (Nat.le_of_ble_eq_true rfl) (Nat.le_of_ble_eq_true rfl) rfl (S_X6_ordersIn hW hR (by omega) (by omega))) ?_
    show Xv E q_m_X7_waiting 13 [Value.ref x, Value.int (zi y), Value.null] [Value.int (zi (oin l 0))] h Q
    refine xv_r (x_ireturn d_X7_waiting_13 rfl rfl) ?_
    have er : waiO l y = .inr (oin l 0) := by unfold waiO; repeat (first | rw [if_pos (by omega)] | rw [if_neg (by omega)])
    refine hQ _ _ ⟨_, ⟨hX, ⟨_, hW⟩, hSN, hHI, hTX, hDS, hPL⟩, fr_rf, ?_⟩
    rw [er]
    exact ⟨rfl, rfl⟩
theorem S_X7_reason (hC : CA h x l ls nx ct kl n c hs fa kr kd_) (hR : RgC l) (hn : 0 ≤ nx ∧ nx < 8) (hc : 0 ≤ ct ∧ ct ≤ 8) {y : Int} (y0 : -2147483648 ≤ y) (y1 : y < 2147483648)(hkr : -1 ≤ kr ∧ kr ≤ 20)  : ∃ r_ h', q_cl E q_m_X7_reason [Value.ref x, Value.int (zi y)] h = some (r_, h') ∧ (RDx h x l ls nx ct kl n c hs fa kr kd_ (reaO kr kd_ y) r_ h') := by
  suffices K : ∀ Q : q_R → q_H → Prop, (∀ r_ h', (RDx h x l ls nx ct kl n c hs fa kr kd_ (reaO kr kd_ y) r_ h') → Q r_ h') → Xv E q_m_X7_reason 0 [Value.ref x, Value.int (zi y)] [] h Q from K _ fun _ _ p => p
  intro Q hQ
  obtain ⟨g0, g1, g2, g3, g4, gc, g5, g6, g7, gk, gl, gr, go⟩ := id hR
  obtain ⟨hX, ⟨p, hW⟩, hSN, hHI, hTX, hDS, hPL⟩ := id hC
  refine xv (x_aload_n 1 d_X7_reason_0 rfl rfl) ?_
  refine xv (x_getfield 4 d_X7_reason_1 rfl f_7_57 (Nat.le_of_ble_eq_true rfl) (Nat.le_of_ble_eq_true rfl) (q_gf_of hX rfl)) ?_
  refine xv (x_iconst 5 d_X7_reason_4 rfl) ?_
  refine v_icmp_ne 16 8 d_X7_reason_5 rfl rfl (by omega) (by omega) (by omega) (by omega) (fun k5 => ?_) (fun k5 => ?_)
  · refine xv (x_iload_n 17 d_X7_reason_16 rfl rfl) ?_
    refine v_if_eq 27 20 d_X7_reason_17 rfl rfl (by omega) (by omega) (fun k17 => ?_) (fun k17 => ?_)
    · refine xv (x_aload_n 28 d_X7_reason_27 rfl rfl) ?_
      refine xv (x_getfield 31 d_X7_reason_28 rfl f_7_57 (Nat.le_of_ble_eq_true rfl) (Nat.le_of_ble_eq_true rfl) (q_gf_of hX rfl)) ?_
      refine xv_r (x_ireturn d_X7_reason_31 rfl rfl) ?_
      have er : reaO kr kd_ y = .inr kr := by unfold reaO; repeat (first | rw [if_pos (by omega)] | rw [if_neg (by omega)])
      refine hQ _ _ ⟨_, ⟨hX, ⟨_, hW⟩, hSN, hHI, hTX, hDS, hPL⟩, fr_rf, ?_⟩
      rw [er]
      exact ⟨rfl, rfl⟩
    · refine xv (x_aload_n 21 d_X7_reason_20 rfl rfl) ?_
      refine xv (x_getfield 24 d_X7_reason_21 rfl f_7_60 (Nat.le_of_ble_eq_true rfl) (Nat.le_of_ble_eq_true rfl) (q_gf_of hX rfl)) ?_
      refine xv (x_goto 31 d_X7_reason_24 rfl) ?_
      refine xv_r (x_ireturn d_X7_reason_31 rfl rfl) ?_
      have er : reaO kr kd_ y = .inr kd_ := by unfold reaO; repeat (first | rw [if_pos (by omega)] | rw [if_neg (by omega)])
      refine hQ _ _ ⟨_, ⟨hX, ⟨_, hW⟩, hSN, hHI, hTX, hDS, hPL⟩, fr_rf, ?_⟩
      rw [er]
      exact ⟨rfl, rfl⟩
  · refine xv_r (x_throw d_X7_reason_8 rfl rfl (Nat.le_of_ble_eq_true rfl) (Nat.le_of_ble_eq_true rfl) rfl rfl (Nat.le_of_ble_eq_true rfl)) ?_
    have er : reaO kr kd_ y = .inl xNS := by unfold reaO; repeat (first | rw [if_pos (by omega)] | rw [if_neg (by omega)])
    refine hQ _ _ ⟨_, ⟨hX, ⟨_, hW⟩, hSN, hHI, hTX, hDS, hPL⟩, fr_rf, ?_⟩
    rw [er]
    exact ⟨rfl, rfl⟩
set_option maxRecDepth 100000 in
theorem S_X7_account (hC : CA h x l ls nx ct kl n c hs fa kr kd_) (hR : RgC l) (hn : 0 ≤ nx ∧ nx < 8) (hc : 0 ≤ ct ∧ ct ≤ 8) {y : Int} (y0 : -2147483648 ≤ y) (y1 : y < 2147483648) : ∃ r_ h', q_cl E q_m_X7_account [Value.ref x, Value.int (zi y)] h = some (r_, h') ∧ (RDx h x l ls nx ct kl n c hs fa kr kd_ (accO l ct n y) r_ h') := by
  suffices K : ∀ Q : q_R → q_H → Prop, (∀ r_ h', (RDx h x l ls nx ct kl n c hs fa kr kd_ (accO l ct n y) r_ h') → Q r_ h') → Xv E q_m_X7_account 0 [Value.ref x, Value.int (zi y)] [] h Q from K _ fun _ _ p => p
  intro Q hQ
  obtain ⟨g0, g1, g2, g3, g4, gc, g5, g6, g7, gk, gl, gr, go⟩ := id hR
  obtain ⟨hX, ⟨p, hW⟩, hSN, hHI, ⟨R0, C0, hT, hTC⟩, hDS, hPL⟩ := id hC
  refine xv (x_iload_n 1 d_X7_account_0 rfl rfl) ?_
  by_cases k1_0 : y = 0
  · refine xv (x_tsw_in 84 0 d_X7_account_1 k1_0 (by decide) (by decide) (by decide) rfl rfl) ?_
    refine xv (x_aload_n 85 d_X7_account_84 rfl rfl) ?_
    refine xv (x_getfield 88 d_X7_account_85 rfl f_7_12 (Nat.le_of_ble_eq_true rfl) (Nat.le_of_ble_eq_true rfl) (q_gf_of hX rfl)) ?_
    refine xv (x_getfield 91 d_X7_account_88 rfl f_7_334 (Nat.le_of_ble_eq_true rfl) (Nat.le_of_ble_eq_true rfl) (q_gf_of (wh_o hW) rfl)) ?_
    refine xv_r (x_ireturn d_X7_account_91 rfl rfl) ?_
    have er : accO l ct n y = .inr (l 0) := by unfold accO; repeat (first | rw [if_pos (by omega)] | rw [if_neg (by omega)])
    refine hQ _ _ ⟨_, ⟨hX, ⟨_, hW⟩, hSN, hHI, ⟨_, _, hT, hTC⟩, hDS, hPL⟩, fr_rf, ?_⟩
    rw [er]
    exact ⟨rfl, rfl⟩
  by_cases k1_1 : y = 1
  · refine xv (x_tsw_in 92 1 d_X7_account_1 k1_1 (by decide) (by decide) (by decide) rfl rfl) ?_
    refine xv (x_aload_n 93 d_X7_account_92 rfl rfl) ?_
    refine xv (x_getfield 96 d_X7_account_93 rfl f_7_12 (Nat.le_of_ble_eq_true rfl) (Nat.le_of_ble_eq_true rfl) (q_gf_of hX rfl)) ?_
    refine xv (x_getfield 99 d_X7_account_96 rfl f_7_337 (Nat.le_of_ble_eq_true rfl) (Nat.le_of_ble_eq_true rfl) (q_gf_of (wh_o hW) rfl)) ?_
    refine xv_r (x_ireturn d_X7_account_99 rfl rfl) ?_
    have er : accO l ct n y = .inr (l 1) := by unfold accO; repeat (first | rw [if_pos (by omega)] | rw [if_neg (by omega)])
    refine hQ _ _ ⟨_, ⟨hX, ⟨_, hW⟩, hSN, hHI, ⟨_, _, hT, hTC⟩, hDS, hPL⟩, fr_rf, ?_⟩
    rw [er]
    exact ⟨rfl, rfl⟩
  by_cases k1_2 : y = 2
  · refine xv (x_tsw_in 100 2 d_X7_account_1 k1_2 (by decide) (by decide) (by decide) rfl rfl) ?_
    refine xv (x_aload_n 101 d_X7_account_100 rfl rfl) ?_
    refine xv (x_getfield 104 d_X7_account_101 rfl f_7_12 (Nat.le_of_ble_eq_true rfl) (Nat.le_of_ble_eq_true rfl) (q_gf_of hX rfl)) ?_
    refine xv (x_getfield 107 d_X7_account_104 rfl f_7_112 (Nat.le_of_ble_eq_true rfl) (Nat.le_of_ble_eq_true rfl) (q_gf_of (wh_o hW) rfl)) ?_
    refine xv_r (x_ireturn d_X7_account_107 rfl rfl) ?_
    have er : accO l ct n y = .inr (l 3) := by unfold accO; repeat (first | rw [if_pos (by omega)] | rw [if_neg (by omega)])
    refine hQ _ _ ⟨_, ⟨hX, ⟨_, hW⟩, hSN, hHI, ⟨_, _, hT, hTC⟩, hDS, hPL⟩, fr_rf, ?_⟩
    rw [er]
    exact ⟨rfl, rfl⟩
  by_cases k1_3 : y = 3
  · refine xv (x_tsw_in 108 3 d_X7_account_1 k1_3 (by decide) (by decide) (by decide) rfl rfl) ?_
    refine xv (x_aload_n 109 d_X7_account_108 rfl rfl) ?_
    refine xv (x_getfield 112 d_X7_account_109 rfl f_7_12 (Nat.le_of_ble_eq_true rfl) (Nat.le_of_ble_eq_true rfl) (q_gf_of hX rfl)) ?_
    refine xv (x_getfield 115 d_X7_account_112 rfl f_7_151 (Nat.le_of_ble_eq_true rfl) (Nat.le_of_ble_eq_true rfl) (q_gf_of (wh_o hW) rfl)) ?_
    refine xv_r (x_ireturn d_X7_account_115 rfl rfl) ?_
    have er : accO l ct n y = .inr (l 4) := by unfold accO; repeat (first | rw [if_pos (by omega)] | rw [if_neg (by omega)])
    refine hQ _ _ ⟨_, ⟨hX, ⟨_, hW⟩, hSN, hHI, ⟨_, _, hT, hTC⟩, hDS, hPL⟩, fr_rf, ?_⟩
    rw [er]
    exact ⟨rfl, rfl⟩
  by_cases k1_4 : y = 4
  · refine xv (x_tsw_in 116 4 d_X7_account_1 k1_4 (by decide) (by decide) (by decide) rfl rfl) ?_
    refine xv (x_aload_n 117 d_X7_account_116 rfl rfl) ?_
    refine xv (x_getfield 120 d_X7_account_117 rfl f_7_12 (Nat.le_of_ble_eq_true rfl) (Nat.le_of_ble_eq_true rfl) (q_gf_of hX rfl)) ?_
    refine xv (x_iconst 121 d_X7_account_120 rfl) ?_
    refine xv (x_inv1 124 (as := [Value.int (zi 0)]) d_X7_account_121 rfl c_7_312 rfl (Nat.le_of_ble_eq_true rfl) (Nat.le_of_ble_eq_true rfl) (wh_o hW) (Nat.le_of_ble_eq_true rfl) (Nat.le_of_ble_eq_true rfl) rfl (S_X6_ordersIn hW hR (by omega) (by omega))) ?_
    show Xv E q_m_X7_account 124 [Value.ref x, Value.int (zi y)] [Value.int (zi (oin l 0))] h Q
    refine xv_r (x_ireturn d_X7_account_124 rfl rfl) ?_
    have er : accO l ct n y = .inr (oin l 0) := by unfold accO; repeat (first | rw [if_pos (by omega)] | rw [if_neg (by omega)])
    refine hQ _ _ ⟨_, ⟨hX, ⟨_, hW⟩, hSN, hHI, ⟨_, _, hT, hTC⟩, hDS, hPL⟩, fr_rf, ?_⟩
    rw [er]
    exact ⟨rfl, rfl⟩
  by_cases k1_5 : y = 5
  · refine xv (x_tsw_in 125 5 d_X7_account_1 k1_5 (by decide) (by decide) (by decide) rfl rfl) ?_
    refine xv (x_aload_n 126 d_X7_account_125 rfl rfl) ?_
    refine xv (x_getfield 129 d_X7_account_126 rfl f_7_12 (Nat.le_of_ble_eq_true rfl) (Nat.le_of_ble_eq_true rfl) (q_gf_of hX rfl)) ?_
    refine xv (x_iconst 130 d_X7_account_129 rfl) ?_
    refine xv (x_inv1 133 (as := [Value.int (zi 1)]) d_X7_account_130 rfl c_7_312 rfl (Nat.le_of_ble_eq_true rfl) (Nat.le_of_ble_eq_true rfl) (wh_o hW) (Nat.le_of_ble_eq_true rfl) (Nat.le_of_ble_eq_true rfl) rfl (S_X6_ordersIn hW hR (by omega) (by omega))) ?_
    show Xv E q_m_X7_account 133 [Value.ref x, Value.int (zi y)] [Value.int (zi (oin l 1))] h Q
    refine xv_r (x_ireturn d_X7_account_133 rfl rfl) ?_
    have er : accO l ct n y = .inr (oin l 1) := by unfold accO; repeat (first | rw [if_pos (by omega)] | rw [if_neg (by omega)])
    refine hQ _ _ ⟨_, ⟨hX, ⟨_, hW⟩, hSN, hHI, ⟨_, _, hT, hTC⟩, hDS, hPL⟩, fr_rf, ?_⟩
    rw [er]
    exact ⟨rfl, rfl⟩
  by_cases k1_6 : y = 6
  · refine xv (x_tsw_in 134 6 d_X7_account_1 k1_6 (by decide) (by decide) (by decide) rfl rfl) ?_
    refine xv (x_aload_n 135 d_X7_account_134 rfl rfl) ?_
    refine xv (x_getfield 138 d_X7_account_135 rfl f_7_12 (Nat.le_of_ble_eq_true rfl) (Nat.le_of_ble_eq_true rfl) (q_gf_of hX rfl)) ?_
    refine xv (x_iconst 139 d_X7_account_138 rfl) ?_
    refine xv (x_inv1 142 (as := [Value.int (zi 2)]) d_X7_account_139 rfl c_7_312 rfl (Nat.le_of_ble_eq_true rfl) (Nat.le_of_ble_eq_true rfl) (wh_o hW) (Nat.le_of_ble_eq_true rfl) (Nat.le_of_ble_eq_true rfl) rfl (S_X6_ordersIn hW hR (by omega) (by omega))) ?_
    show Xv E q_m_X7_account 142 [Value.ref x, Value.int (zi y)] [Value.int (zi (oin l 2))] h Q
    refine xv_r (x_ireturn d_X7_account_142 rfl rfl) ?_
    have er : accO l ct n y = .inr (oin l 2) := by unfold accO; repeat (first | rw [if_pos (by omega)] | rw [if_neg (by omega)])
    refine hQ _ _ ⟨_, ⟨hX, ⟨_, hW⟩, hSN, hHI, ⟨_, _, hT, hTC⟩, hDS, hPL⟩, fr_rf, ?_⟩
    rw [er]
    exact ⟨rfl, rfl⟩
  by_cases k1_7 : y = 7
  · refine xv (x_tsw_in 143 7 d_X7_account_1 k1_7 (by decide) (by decide) (by decide) rfl rfl) ?_
    refine xv (x_aload_n 144 d_X7_account_143 rfl rfl) ?_
    refine xv (x_getfield 147 d_X7_account_144 rfl f_7_12 (Nat.le_of_ble_eq_true rfl) (Nat.le_of_ble_eq_true rfl) (q_gf_of hX rfl)) ?_
    refine xv (x_inv1 150 (as := []) d_X7_account_147 rfl c_7_193 rfl (Nat.le_of_ble_eq_true rfl) (Nat.le_of_ble_eq_true rfl) (wh_o hW) (Nat.le_of_ble_eq_true rfl) (Nat.le_of_ble_eq_true rfl) rfl (S_X6_closedCount hW hR)) ?_
    show Xv E q_m_X7_account 150 [Value.ref x, Value.int (zi y)] [Value.int (zi (ccl l))] h Q
    refine xv_r (x_ireturn d_X7_account_150 rfl rfl) ?_
    have er : accO l ct n y = .inr (ccl l) := by unfold accO; repeat (first | rw [if_pos (by omega)] | rw [if_neg (by omega)])
    refine hQ _ _ ⟨_, ⟨hX, ⟨_, hW⟩, hSN, hHI, ⟨_, _, hT, hTC⟩, hDS, hPL⟩, fr_rf, ?_⟩
    rw [er]
    exact ⟨rfl, rfl⟩
  by_cases k1_8 : y = 8
  · refine xv (x_tsw_in 151 8 d_X7_account_1 k1_8 (by decide) (by decide) (by decide) rfl rfl) ?_
    refine xv (x_aload_n 152 d_X7_account_151 rfl rfl) ?_
    refine xv (x_getfield 155 d_X7_account_152 rfl f_7_12 (Nat.le_of_ble_eq_true rfl) (Nat.le_of_ble_eq_true rfl) (q_gf_of hX rfl)) ?_
    refine xv (x_getfield 158 d_X7_account_155 rfl f_7_340 (Nat.le_of_ble_eq_true rfl) (Nat.le_of_ble_eq_true rfl) (q_gf_of (wh_o hW) rfl)) ?_
    refine xv_r (x_ireturn d_X7_account_158 rfl rfl) ?_
    have er : accO l ct n y = .inr (l 2) := by unfold accO; repeat (first | rw [if_pos (by omega)] | rw [if_neg (by omega)])
    refine hQ _ _ ⟨_, ⟨hX, ⟨_, hW⟩, hSN, hHI, ⟨_, _, hT, hTC⟩, hDS, hPL⟩, fr_rf, ?_⟩
    rw [er]
    exact ⟨rfl, rfl⟩
  by_cases k1_9 : y = 9
  · refine xv (x_tsw_in 159 9 d_X7_account_1 k1_9 (by decide) (by decide) (by decide) rfl rfl) ?_
    refine xv (x_aload_n 160 d_X7_account_159 rfl rfl) ?_
    refine xv (x_getfield 163 d_X7_account_160 rfl f_7_12 (Nat.le_of_ble_eq_true rfl) (Nat.le_of_ble_eq_true rfl) (q_gf_of hX rfl)) ?_
    refine xv (x_inv1 166 (as := []) d_X7_account_163 rfl c_7_343 rfl (Nat.le_of_ble_eq_true rfl) (Nat.le_of_ble_eq_true rfl) (wh_o hW) (Nat.le_of_ble_eq_true rfl) (Nat.le_of_ble_eq_true rfl) rfl (S_X6_stepSum hW hR)) ?_
    show Xv E q_m_X7_account 166 [Value.ref x, Value.int (zi y)] [Value.int (zi (sts l 5))] h Q
    refine xv_r (x_ireturn d_X7_account_166 rfl rfl) ?_
    have er : accO l ct n y = .inr (sts l 5) := by unfold accO; repeat (first | rw [if_pos (by omega)] | rw [if_neg (by omega)])
    refine hQ _ _ ⟨_, ⟨hX, ⟨_, hW⟩, hSN, hHI, ⟨_, _, hT, hTC⟩, hDS, hPL⟩, fr_rf, ?_⟩
    rw [er]
    exact ⟨rfl, rfl⟩
  by_cases k1_10 : y = 10
  · refine xv (x_tsw_in 167 10 d_X7_account_1 k1_10 (by decide) (by decide) (by decide) rfl rfl) ?_
    refine xv (x_aload_n 168 d_X7_account_167 rfl rfl) ?_
    refine xv (x_getfield 171 d_X7_account_168 rfl f_7_12 (Nat.le_of_ble_eq_true rfl) (Nat.le_of_ble_eq_true rfl) (q_gf_of hX rfl)) ?_
    refine xv (x_inv1 174 (as := []) d_X7_account_171 rfl c_7_346 rfl (Nat.le_of_ble_eq_true rfl) (Nat.le_of_ble_eq_true rfl) (wh_o hW) (Nat.le_of_ble_eq_true rfl) (Nat.le_of_ble_eq_true rfl) rfl (S_X6_pickedSum hW hR)) ?_
    show Xv E q_m_X7_account 174 [Value.ref x, Value.int (zi y)] [Value.int (zi (pks l))] h Q
    refine xv_r (x_ireturn d_X7_account_174 rfl rfl) ?_
    have er : accO l ct n y = .inr (pks l) := by unfold accO; repeat (first | rw [if_pos (by omega)] | rw [if_neg (by omega)])
    refine hQ _ _ ⟨_, ⟨hX, ⟨_, hW⟩, hSN, hHI, ⟨_, _, hT, hTC⟩, hDS, hPL⟩, fr_rf, ?_⟩
    rw [er]
    exact ⟨rfl, rfl⟩
  by_cases k1_11 : y = 11
  · refine xv (x_tsw_in 175 11 d_X7_account_1 k1_11 (by decide) (by decide) (by decide) rfl rfl) ?_
    refine xv (x_aload_n 176 d_X7_account_175 rfl rfl) ?_
    refine xv (x_getfield 179 d_X7_account_176 rfl f_7_12 (Nat.le_of_ble_eq_true rfl) (Nat.le_of_ble_eq_true rfl) (q_gf_of hX rfl)) ?_
    refine xv (x_inv1 182 (as := []) d_X7_account_179 rfl c_7_349 rfl (Nat.le_of_ble_eq_true rfl) (Nat.le_of_ble_eq_true rfl) (wh_o hW) (Nat.le_of_ble_eq_true rfl) (Nat.le_of_ble_eq_true rfl) rfl (S_X6_batterySum hW hR)) ?_
    show Xv E q_m_X7_account 182 [Value.ref x, Value.int (zi y)] [Value.int (zi (sts l 1))] h Q
    refine xv_r (x_ireturn d_X7_account_182 rfl rfl) ?_
    have er : accO l ct n y = .inr (sts l 1) := by unfold accO; repeat (first | rw [if_pos (by omega)] | rw [if_neg (by omega)])
    refine hQ _ _ ⟨_, ⟨hX, ⟨_, hW⟩, hSN, hHI, ⟨_, _, hT, hTC⟩, hDS, hPL⟩, fr_rf, ?_⟩
    rw [er]
    exact ⟨rfl, rfl⟩
  by_cases k1_12 : y = 12
  · refine xv (x_tsw_in 183 12 d_X7_account_1 k1_12 (by decide) (by decide) (by decide) rfl rfl) ?_
    refine xv (x_aload_n 184 d_X7_account_183 rfl rfl) ?_
    refine xv (x_getfield 187 d_X7_account_184 rfl f_7_22 (Nat.le_of_ble_eq_true rfl) (Nat.le_of_ble_eq_true rfl) (q_gf_of hX rfl)) ?_
    refine xv (x_getfield 190 d_X7_account_187 rfl f_7_352 (Nat.le_of_ble_eq_true rfl) (Nat.le_of_ble_eq_true rfl) (q_gf_of hHI.1 rfl)) ?_
    refine xv_r (x_ireturn d_X7_account_190 rfl rfl) ?_
    have er : accO l ct n y = .inr ct := by unfold accO; repeat (first | rw [if_pos (by omega)] | rw [if_neg (by omega)])
    refine hQ _ _ ⟨_, ⟨hX, ⟨_, hW⟩, hSN, hHI, ⟨_, _, hT, hTC⟩, hDS, hPL⟩, fr_rf, ?_⟩
    rw [er]
    exact ⟨rfl, rfl⟩
  by_cases k1_13 : y = 13
  · refine xv (x_tsw_in 191 13 d_X7_account_1 k1_13 (by decide) (by decide) (by decide) rfl rfl) ?_
    refine xv (x_aload_n 192 d_X7_account_191 rfl rfl) ?_
    refine xv (x_getfield 195 d_X7_account_192 rfl f_7_29 (Nat.le_of_ble_eq_true rfl) (Nat.le_of_ble_eq_true rfl) (q_gf_of hX rfl)) ?_
    refine xv (x_getfield 198 d_X7_account_195 rfl f_7_74 (Nat.le_of_ble_eq_true rfl) (Nat.le_of_ble_eq_true rfl) (q_gf_of hT rfl)) ?_
    refine xv_r (x_ireturn d_X7_account_198 rfl rfl) ?_
    have er : accO l ct n y = .inr n := by unfold accO; repeat (first | rw [if_pos (by omega)] | rw [if_neg (by omega)])
    refine hQ _ _ ⟨_, ⟨hX, ⟨_, hW⟩, hSN, hHI, ⟨_, _, hT, hTC⟩, hDS, hPL⟩, fr_rf, ?_⟩
    rw [er]
    exact ⟨rfl, rfl⟩
  by_cases k1_14 : y = 14
  · refine xv (x_tsw_in 199 14 d_X7_account_1 k1_14 (by decide) (by decide) (by decide) rfl rfl) ?_
    refine xv (x_aload_n 200 d_X7_account_199 rfl rfl) ?_
    refine xv (x_getfield 203 d_X7_account_200 rfl f_7_12 (Nat.le_of_ble_eq_true rfl) (Nat.le_of_ble_eq_true rfl) (q_gf_of hX rfl)) ?_
    refine xv (x_getfield 206 d_X7_account_203 rfl f_7_202 (Nat.le_of_ble_eq_true rfl) (Nat.le_of_ble_eq_true rfl) (q_gf_of (wh_o hW) rfl)) ?_
    refine xv (x_iconst 207 d_X7_account_206 rfl) ?_
    refine xv (x_iaload 208 d_X7_account_207 rfl ((ai_g (wh_s hW) (by omega) (by omega) (by decide)).trans (rfl : _ = some (Value.int (zi (l 5)))))) ?_
    refine xv_r (x_ireturn d_X7_account_208 rfl rfl) ?_
    have er : accO l ct n y = .inr (l 5) := by unfold accO; repeat (first | rw [if_pos (by omega)] | rw [if_neg (by omega)])
    refine hQ _ _ ⟨_, ⟨hX, ⟨_, hW⟩, hSN, hHI, ⟨_, _, hT, hTC⟩, hDS, hPL⟩, fr_rf, ?_⟩
    rw [er]
    exact ⟨rfl, rfl⟩
  by_cases k1_15 : y = 15
  · refine xv (x_tsw_in 209 15 d_X7_account_1 k1_15 (by decide) (by decide) (by decide) rfl rfl) ?_
    refine xv (x_aload_n 210 d_X7_account_209 rfl rfl) ?_
    refine xv (x_getfield 213 d_X7_account_210 rfl f_7_12 (Nat.le_of_ble_eq_true rfl) (Nat.le_of_ble_eq_true rfl) (q_gf_of hX rfl)) ?_
    refine xv (x_getfield 216 d_X7_account_213 rfl f_7_202 (Nat.le_of_ble_eq_true rfl) (Nat.le_of_ble_eq_true rfl) (q_gf_of (wh_o hW) rfl)) ?_
    refine xv (x_iconst 217 d_X7_account_216 rfl) ?_
    refine xv (x_iaload 218 d_X7_account_217 rfl ((ai_g (wh_s hW) (by omega) (by omega) (by decide)).trans (rfl : _ = some (Value.int (zi (l 6)))))) ?_
    refine xv_r (x_ireturn d_X7_account_218 rfl rfl) ?_
    have er : accO l ct n y = .inr (l 6) := by unfold accO; repeat (first | rw [if_pos (by omega)] | rw [if_neg (by omega)])
    refine hQ _ _ ⟨_, ⟨hX, ⟨_, hW⟩, hSN, hHI, ⟨_, _, hT, hTC⟩, hDS, hPL⟩, fr_rf, ?_⟩
    rw [er]
    exact ⟨rfl, rfl⟩
  by_cases k1_16 : y = 16
  · refine xv (x_tsw_in 219 16 d_X7_account_1 k1_16 (by decide) (by decide) (by decide) rfl rfl) ?_
    refine xv (x_aload_n 220 d_X7_account_219 rfl rfl) ?_
    refine xv (x_getfield 223 d_X7_account_220 rfl f_7_12 (Nat.le_of_ble_eq_true rfl) (Nat.le_of_ble_eq_true rfl) (q_gf_of hX rfl)) ?_
    refine xv (x_getfield 226 d_X7_account_223 rfl f_7_202 (Nat.le_of_ble_eq_true rfl) (Nat.le_of_ble_eq_true rfl) (q_gf_of (wh_o hW) rfl)) ?_
    refine xv (x_iconst 227 d_X7_account_226 rfl) ?_
    refine xv (x_iaload 228 d_X7_account_227 rfl ((ai_g (wh_s hW) (by omega) (by omega) (by decide)).trans (rfl : _ = some (Value.int (zi (l 7)))))) ?_
    refine xv_r (x_ireturn d_X7_account_228 rfl rfl) ?_
    have er : accO l ct n y = .inr (l 7) := by unfold accO; repeat (first | rw [if_pos (by omega)] | rw [if_neg (by omega)])
    refine hQ _ _ ⟨_, ⟨hX, ⟨_, hW⟩, hSN, hHI, ⟨_, _, hT, hTC⟩, hDS, hPL⟩, fr_rf, ?_⟩
    rw [er]
    exact ⟨rfl, rfl⟩
  refine xv (x_tsw_out 229 d_X7_account_1 (by omega) (by omega) (by omega) rfl) ?_
  refine xv_r (x_throw d_X7_account_229 rfl rfl (Nat.le_of_ble_eq_true rfl) (Nat.le_of_ble_eq_true rfl) rfl rfl (Nat.le_of_ble_eq_true rfl)) ?_
  have er : accO l ct n y = .inl xIA := by unfold accO; repeat (first | rw [if_pos (by omega)] | rw [if_neg (by omega)])
  refine hQ _ _ ⟨_, ⟨hX, ⟨_, hW⟩, hSN, hHI, ⟨_, _, hT, hTC⟩, hDS, hPL⟩, fr_rf, ?_⟩
  rw [er]
  exact ⟨rfl, rfl⟩
theorem S_X7_distance (hC : CA h x l ls nx ct kl n c hs fa kr kd_) (hR : RgC l) (hn : 0 ≤ nx ∧ nx < 8) (hc : 0 ≤ ct ∧ ct ≤ 8) {y z : Int} (y0 : -2147483648 ≤ y) (y1 : y < 2147483648) (z0 : -2147483648 ≤ z) (z1 : z < 2147483648) : ∃ r_ h', q_cl E q_m_X7_distance [Value.ref x, Value.int (zi y), Value.int (zi z)] h = some (r_, h') ∧ (RDx h x l ls nx ct kl n c hs fa kr kd_ (far0 l y z) r_ h') := by
  suffices K : ∀ Q : q_R → q_H → Prop, (∀ r_ h', (RDx h x l ls nx ct kl n c hs fa kr kd_ (far0 l y z) r_ h') → Q r_ h') → Xv E q_m_X7_distance 0 [Value.ref x, Value.int (zi y), Value.int (zi z), Value.null] [] h Q from K _ fun _ _ p => p
  intro Q hQ
  obtain ⟨g0, g1, g2, g3, g4, gc, g5, g6, g7, gk, gl, gr, go⟩ := id hR
  obtain ⟨hX, ⟨p, hW⟩, hSN, hHI, hTX, ⟨q, f, tr, tc, to, T, NE, WI, ⟨hD, hq, hS⟩, ⟨hTB, hN, hI⟩, hv⟩, hPL⟩ := id hC
  refine xv (x_aload_n 1 d_X7_distance_0 rfl rfl) ?_
  refine xv (x_getfield 4 d_X7_distance_1 rfl f_7_12 (Nat.le_of_ble_eq_true rfl) (Nat.le_of_ble_eq_true rfl) (q_gf_of hX rfl)) ?_
  refine xv (x_iload_n 5 d_X7_distance_4 rfl rfl) ?_
  refine xv (x_inv1 8 (as := [Value.int (zi y)]) d_X7_distance_5 rfl c_7_105 rfl (Nat.le_of_ble_eq_true rfl) (Nat.le_of_ble_eq_true rfl) (wh_o hW) (Nat.le_of_ble_eq_true rfl) (Nat.le_of_ble_eq_true rfl) rfl (S_X6_isCell hW hR (by omega) (by omega))) ?_
  show Xv E q_m_X7_distance 8 [Value.ref x, Value.int (zi y), Value.int (zi z), Value.null] [Value.int (zi (bI (isC l y)))] h Q
  refine v_if_eq 22 11 d_X7_distance_8 rfl rfl (by have := bI_r (isC l y); omega) (by have := bI_r (isC l y); omega) (fun k8 => ?_) (fun k8 => ?_)
  · replace k8 := bI_0.mp k8
    refine xv_r (x_throw d_X7_distance_22 rfl rfl (Nat.le_of_ble_eq_true rfl) (Nat.le_of_ble_eq_true rfl) rfl rfl (Nat.le_of_ble_eq_true rfl)) ?_
    have er : far0 l y z = .inl xIO := by unfold far0; repeat (first | rw [if_pos (by omega)] | rw [if_neg (by omega)])
    refine hQ _ _ ⟨_, ⟨hX, ⟨_, hW⟩, hSN, hHI, hTX, ⟨_, _, _, _, _, _, _, _, ⟨hD, hq, hS⟩, ⟨hTB, hN, hI⟩, hv⟩, hPL⟩, fr_rf, ?_⟩
    rw [er]
    exact ⟨rfl, rfl⟩
  · replace k8 := bI_n0.mp k8
    refine xv (x_aload_n 12 d_X7_distance_11 rfl rfl) ?_
    refine xv (x_getfield 15 d_X7_distance_12 rfl f_7_12 (Nat.le_of_ble_eq_true rfl) (Nat.le_of_ble_eq_true rfl) (q_gf_of hX rfl)) ?_
    refine xv (x_iload_n 16 d_X7_distance_15 rfl rfl) ?_
    refine xv (x_inv1 19 (as := [Value.int (zi z)]) d_X7_distance_16 rfl c_7_105 rfl (Nat.le_of_ble_eq_true rfl) (Nat.le_of_ble_eq_true rfl) (wh_o hW) (Nat.le_of_ble_eq_true rfl) (Nat.le_of_ble_eq_true rfl) rfl (S_X6_isCell hW hR (by omega) (by omega))) ?_
    show Xv E q_m_X7_distance 19 [Value.ref x, Value.int (zi y), Value.int (zi z), Value.null] [Value.int (zi (bI (isC l z)))] h Q
    refine v_if_ne 30 22 d_X7_distance_19 rfl rfl (by have := bI_r (isC l z); omega) (by have := bI_r (isC l z); omega) (fun k19 => ?_) (fun k19 => ?_)
    · replace k19 := bI_n0.mp k19
      refine xv (x_aload_n 31 d_X7_distance_30 rfl rfl) ?_
      refine xv (x_getfield 34 d_X7_distance_31 rfl f_7_38 (Nat.le_of_ble_eq_true rfl) (Nat.le_of_ble_eq_true rfl) (q_gf_of hX rfl)) ?_
      refine xv (x_iload_n 35 d_X7_distance_34 rfl rfl) ?_
      refine xv (x_iload_n 36 d_X7_distance_35 rfl rfl) ?_
      obtain ⟨r36, h36, e36, z36, q36, s36, ⟨w36, d36, m36, t36⟩, f36⟩ := S_X0_between (E := E) (a := y) (b := z) (by omega) (by omega) hW hR hD hq hS (by omega)
      subst z36
      have X_36 := (f36.2 _ (by omega)).trans hX
      have SN_36 := sn_fr hSN f36 (by omega)
      have HI_36 := hi_fr hHI f36 (by omega)
      have TX_36 := tx_fr hTX f36 (by omega)
      have PLX_36 := plx_fr hPL f36 (by omega)
      have NE_36 := al_fr hN f36 (by omega)
      have WI_36 := al_fr hI f36 (by omega)
      have TA_36 := tb_fr hTB f36 (by omega)
      have F36 : Fr x 444 h h36 := fr_tr fr_rf (fr_in f36 (by omega) (by omega))
      refine xv (x_inv1 39 (as := [Value.int (zi y), Value.int (zi z)]) d_X7_distance_36 rfl c_7_264 rfl (Nat.le_of_ble_eq_true rfl) (Nat.le_of_ble_eq_true rfl) hD (Nat.le_of_ble_eq_true rfl) (Nat.le_of_ble_eq_true rfl) rfl e36) ?_
      have y36 := far_r hR (show isC l y by omega) z
      show Xv E q_m_X7_distance 39 [Value.ref x, Value.int (zi y), Value.int (zi z), Value.null] [Value.int (zi (far l y z))] h36 Q
      refine xv (x_istore_n 40 d_X7_distance_39 rfl (Nat.le_of_ble_eq_true rfl)) ?_
      show Xv E q_m_X7_distance 40 [Value.ref x, Value.int (zi y), Value.int (zi z), Value.int (zi (far l y z))] [] h36 Q
      refine xv (x_iload_n 41 d_X7_distance_40 rfl rfl) ?_
      refine xv (x_iconst 42 d_X7_distance_41 rfl) ?_
      refine v_icmp_ne 53 45 d_X7_distance_42 rfl rfl (by omega) (by omega) (by omega) (by omega) (fun k42 => ?_) (fun k42 => ?_)
      · refine xv (x_iload_n 54 d_X7_distance_53 rfl rfl) ?_
        refine xv_r (x_ireturn d_X7_distance_54 rfl rfl) ?_
        have er : far0 l y z = .inr (far l y z) := by unfold far0; repeat (first | rw [if_pos (by omega)] | rw [if_neg (by omega)])
        refine hQ _ _ ⟨_, ⟨X_36, ⟨_, w36⟩, SN_36, HI_36, TX_36, ⟨_, _, _, _, _, _, _, _, ⟨d36, m36, t36⟩, ⟨TA_36, NE_36, WI_36⟩, hv⟩, PLX_36⟩, F36, ?_⟩
        rw [er]
        exact ⟨rfl, rfl⟩
      · refine xv_r (x_throw d_X7_distance_45 rfl rfl (Nat.le_of_ble_eq_true rfl) (Nat.le_of_ble_eq_true rfl) rfl rfl (Nat.le_of_ble_eq_true rfl)) ?_
        have er : far0 l y z = .inl xNS := by unfold far0; repeat (first | rw [if_pos (by omega)] | rw [if_neg (by omega)])
        refine hQ _ _ ⟨_, ⟨X_36, ⟨_, w36⟩, SN_36, HI_36, TX_36, ⟨_, _, _, _, _, _, _, _, ⟨d36, m36, t36⟩, ⟨TA_36, NE_36, WI_36⟩, hv⟩, PLX_36⟩, F36, ?_⟩
        rw [er]
        exact ⟨rfl, rfl⟩
    · replace k19 := bI_0.mp k19
      refine xv_r (x_throw d_X7_distance_22 rfl rfl (Nat.le_of_ble_eq_true rfl) (Nat.le_of_ble_eq_true rfl) rfl rfl (Nat.le_of_ble_eq_true rfl)) ?_
      have er : far0 l y z = .inl xIO := by unfold far0; repeat (first | rw [if_pos (by omega)] | rw [if_neg (by omega)])
      refine hQ _ _ ⟨_, ⟨hX, ⟨_, hW⟩, hSN, hHI, hTX, ⟨_, _, _, _, _, _, _, _, ⟨hD, hq, hS⟩, ⟨hTB, hN, hI⟩, hv⟩, hPL⟩, fr_rf, ?_⟩
      rw [er]
      exact ⟨rfl, rfl⟩
end CV7
