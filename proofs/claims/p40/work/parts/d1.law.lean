/-! the object's readers, as the law calls them (printed by program) -/
/-- the object as the law has it: its row's bounds, nothing below it -/
def PX (x : Nat) (l ls : Int → Int) (nx ct : Int) (kl : Int → Int → Int) (n : Int) (c : Int → Int) (hs fa kr kd_ : Int) (h0 : q_H) (k : Int) (h : q_H) : Prop := CX x l ls nx ct kl n c hs fa kr kd_ h0 k h ∧ RgC l ∧ ((0 ≤ nx ∧ nx < 8) ∧ (0 ≤ ct ∧ ct ≤ 8) ∧ -1 ≤ kr ∧ kr ≤ 20) ∧ Lo h0 x
/-- -2 where nothing is found -/
def dV (v : Int) : Int := if v = -1 then -2 else v
noncomputable def arV (l : Int → Int) (r g : Int) : Int := if ¬ ent l g then -2 else if rb l r 0 = g then 0 else dV (fT l r g)
section DRX
variable {E : q_E} {M : q_M} {h h' h0 : q_H} {x N b : Nat} {l ls c : Int → Int} {kl : Int → Int → Int} {nx ct n hs fa kr kd_ k k' v y z r t i g w : Int} {vs : List Value} {e : String} {o : Sum String Int}
theorem px_o (P : PX x l ls nx ct kl n c hs fa kr kd_ h0 k h) : h.1 x = some (.inr (7, [.ref (x + 1), .ref (x + 39), .ref (x + 77), .ref (x + 383), .ref (x + 385), .ref (x + 439), .int (zi hs), .int (zi fa), .int (zi kr), .int (zi kd_)])) := P.1.1.1
theorem px_lo (P : PX x l ls nx ct kl n c hs fa kr kd_ h0 k h) : Lo h x := fy_lo P.1.2 P.2.2.2 (Nat.le_refl _)
theorem px_mo (P : PX x l ls nx ct kl n c hs fa kr kd_ h0 k h) (hk : k ≤ k') : PX x l ls nx ct kl n c hs fa kr kd_ h0 k' h := ⟨cx_mo P.1 hk, P.2⟩
theorem px_rd (P : PX x l ls nx ct kl n c hs fa kr kd_ h0 k h) (H : ∃ r_ h', q_cl E M vs h = some (r_, h') ∧ RDx h x l ls nx ct kl n c hs fa kr kd_ o r_ h') (ho : o = .inr v) : ∃ h', q_cl E M vs h = some (.inl (some (.int (zi v))), h') ∧ PX x l ls nx ct kl n c hs fa kr kd_ h0 k h' := by
  obtain ⟨h', e, C⟩ := cx_rd P.1 H ho
  exact ⟨h', e, C, P.2⟩
theorem px_rx (P : PX x l ls nx ct kl n c hs fa kr kd_ h0 k h) (H : ∃ r_ h', q_cl E M vs h = some (r_, h') ∧ RDx h x l ls nx ct kl n c hs fa kr kd_ o r_ h') (ho : o = .inl e) : ∃ h', q_cl E M vs h = some (.inr e, h') ∧ PX x l ls nx ct kl n c hs fa kr kd_ h0 (k + 1) h' := by
  obtain ⟨h', e, C⟩ := cx_rx P.1 H ho
  exact ⟨h', e, C, P.2⟩
theorem rg_c (hR : RgC l) : 2 ≤ cs l ∧ cs l ≤ 48 := hR.2.2.2.2.2.1
theorem rg_r (hR : RgC l) : 0 ≤ l 3 ∧ l 3 ≤ 6 := hR.2.2.2.1
theorem rg_o (hR : RgC l) : 0 ≤ l 4 ∧ l 4 ≤ 10 := hR.2.2.2.2.1
theorem rg_pl (hR : RgC l) (hr : isR l r) (ht : 0 ≤ t) : 0 ≤ ahd l r t ∧ ahd l r t < cs l := ahf_r (rgc_r hR hr) ht
theorem A_planned (P : PX x l ls nx ct kl n c hs fa kr kd_ h0 (k) h) (hr : isR l r) (h0t : 0 ≤ t) (h1t : t < 2147483648) : ∃ h', q_cl E q_m_X7_planned [.ref x, .int (zi r), .int (zi t)] h = some (.inl (some (.int (zi (ahd l r t)))), h') ∧ PX x l ls nx ct kl n c hs fa kr kd_ h0 (k) h' := by
  have hR := P.2.1
  have gc := rg_c hR
  have gr := rg_r hR
  have go := rg_o hR
  exact px_rd P (S_X7_planned P.1.1 hR P.2.2.1.1 P.2.2.1.2.1 (by omega) (by omega) (by omega) (by omega)) (show plaO l r t = .inr (ahd l r t) from by unfold plaO; rw [if_neg (not_not_intro hr), if_neg (by omega)]; rfl)
theorem A_cell0 (P : PX x l ls nx ct kl n c hs fa kr kd_ h0 (k) h) (hy : isC l y) : ∃ h', q_cl E q_m_X7_cell [.ref x, .int (zi y), .int (zi 0)] h = some (.inl (some (.int (zi (l (8 + y))))), h') ∧ PX x l ls nx ct kl n c hs fa kr kd_ h0 (k) h' := by
  have hR := P.2.1
  have gc := rg_c hR
  have gr := rg_r hR
  have go := rg_o hR
  exact px_rd P (S_X7_cell P.1.1 hR P.2.2.1.1 P.2.2.1.2.1 (by omega) (by omega) (by omega) (by omega)) (show cellO l y 0 = .inr (l (8 + y)) from by unfold cellO; rw [if_neg (not_not_intro hy)]; rfl)
theorem A_cell1 (P : PX x l ls nx ct kl n c hs fa kr kd_ h0 (k) h) (hy : isC l y) : ∃ h', q_cl E q_m_X7_cell [.ref x, .int (zi y), .int (zi 1)] h = some (.inl (some (.int (zi (bI (ent l y))))), h') ∧ PX x l ls nx ct kl n c hs fa kr kd_ h0 (k) h' := by
  have hR := P.2.1
  have gc := rg_c hR
  have gr := rg_r hR
  have go := rg_o hR
  exact px_rd P (S_X7_cell P.1.1 hR P.2.2.1.1 P.2.2.1.2.1 (by omega) (by omega) (by omega) (by omega)) (show cellO l y 1 = .inr (bI (ent l y)) from by unfold cellO; rw [if_neg (not_not_intro hy)]; rfl)
theorem A_cell2 (P : PX x l ls nx ct kl n c hs fa kr kd_ h0 (k) h) (hy : isC l y) : ∃ h', q_cl E q_m_X7_cell [.ref x, .int (zi y), .int (zi 2)] h = some (.inl (some (.int (zi (rin l y 0)))), h') ∧ PX x l ls nx ct kl n c hs fa kr kd_ h0 (k) h' := by
  have hR := P.2.1
  have gc := rg_c hR
  have gr := rg_r hR
  have go := rg_o hR
  exact px_rd P (S_X7_cell P.1.1 hR P.2.2.1.1 P.2.2.1.2.1 (by omega) (by omega) (by omega) (by omega)) (show cellO l y 2 = .inr (rin l y 0) from by unfold cellO; rw [if_neg (not_not_intro hy)]; rfl)
theorem A_reserved (P : PX x l ls nx ct kl n c hs fa kr kd_ h0 (k) h) (hy : isC l y) (h0t : 0 ≤ t) (h1t : t < 2147483648) : ∃ h', q_cl E q_m_X7_reserved [.ref x, .int (zi y), .int (zi t)] h = some (.inl (some (.int (zi (rin l y t)))), h') ∧ PX x l ls nx ct kl n c hs fa kr kd_ h0 (k) h' := by
  have hR := P.2.1
  have gc := rg_c hR
  have gr := rg_r hR
  have go := rg_o hR
  exact px_rd P (S_X7_reserved P.1.1 hR P.2.2.1.1 P.2.2.1.2.1 (by omega) (by omega) (by omega) (by omega)) (show resO l y t = .inr (rin l y t) from by unfold resO; rw [if_neg (not_not_intro hy), if_neg (by omega)])
theorem A_robotOf0 (P : PX x l ls nx ct kl n c hs fa kr kd_ h0 (k) h) (hr : isR l r) : ∃ h', q_cl E q_m_X7_robotOf [.ref x, .int (zi r), .int (zi 0)] h = some (.inl (some (.int (zi (rb l r 0)))), h') ∧ PX x l ls nx ct kl n c hs fa kr kd_ h0 (k) h' := by
  have hR := P.2.1
  have gc := rg_c hR
  have gr := rg_r hR
  have go := rg_o hR
  exact px_rd P (S_X7_robotOf P.1.1 hR P.2.2.1.1 P.2.2.1.2.1 (by omega) (by omega) (by omega) (by omega)) (show robO l r 0 = .inr (rb l r 0) from by unfold robO; rw [if_neg (not_not_intro hr)]; rfl)
theorem A_robotOf1 (P : PX x l ls nx ct kl n c hs fa kr kd_ h0 (k) h) (hr : isR l r) : ∃ h', q_cl E q_m_X7_robotOf [.ref x, .int (zi r), .int (zi 1)] h = some (.inl (some (.int (zi (rb l r 1)))), h') ∧ PX x l ls nx ct kl n c hs fa kr kd_ h0 (k) h' := by
  have hR := P.2.1
  have gc := rg_c hR
  have gr := rg_r hR
  have go := rg_o hR
  exact px_rd P (S_X7_robotOf P.1.1 hR P.2.2.1.1 P.2.2.1.2.1 (by omega) (by omega) (by omega) (by omega)) (show robO l r 1 = .inr (rb l r 1) from by unfold robO; rw [if_neg (not_not_intro hr)]; rfl)
theorem A_robotOf2 (P : PX x l ls nx ct kl n c hs fa kr kd_ h0 (k) h) (hr : isR l r) : ∃ h', q_cl E q_m_X7_robotOf [.ref x, .int (zi r), .int (zi 2)] h = some (.inl (some (.int (zi (rb l r 2)))), h') ∧ PX x l ls nx ct kl n c hs fa kr kd_ h0 (k) h' := by
  have hR := P.2.1
  have gc := rg_c hR
  have gr := rg_r hR
  have go := rg_o hR
  exact px_rd P (S_X7_robotOf P.1.1 hR P.2.2.1.1 P.2.2.1.2.1 (by omega) (by omega) (by omega) (by omega)) (show robO l r 2 = .inr (rb l r 2) from by unfold robO; rw [if_neg (not_not_intro hr)]; rfl)
theorem A_robotOf3 (P : PX x l ls nx ct kl n c hs fa kr kd_ h0 (k) h) (hr : isR l r) : ∃ h', q_cl E q_m_X7_robotOf [.ref x, .int (zi r), .int (zi 3)] h = some (.inl (some (.int (zi (rb l r 3)))), h') ∧ PX x l ls nx ct kl n c hs fa kr kd_ h0 (k) h' := by
  have hR := P.2.1
  have gc := rg_c hR
  have gr := rg_r hR
  have go := rg_o hR
  exact px_rd P (S_X7_robotOf P.1.1 hR P.2.2.1.1 P.2.2.1.2.1 (by omega) (by omega) (by omega) (by omega)) (show robO l r 3 = .inr (rb l r 3) from by unfold robO; rw [if_neg (not_not_intro hr)]; rfl)
theorem A_robotOf4 (P : PX x l ls nx ct kl n c hs fa kr kd_ h0 (k) h) (hr : isR l r) : ∃ h', q_cl E q_m_X7_robotOf [.ref x, .int (zi r), .int (zi 4)] h = some (.inl (some (.int (zi (if rb l r 3 = 0 then -1 else ahf (rb l r) (rb l r 3))))), h') ∧ PX x l ls nx ct kl n c hs fa kr kd_ h0 (k) h' := by
  have hR := P.2.1
  have gc := rg_c hR
  have gr := rg_r hR
  have go := rg_o hR
  exact px_rd P (S_X7_robotOf P.1.1 hR P.2.2.1.1 P.2.2.1.2.1 (by omega) (by omega) (by omega) (by omega)) (show robO l r 4 = .inr (if rb l r 3 = 0 then -1 else ahf (rb l r) (rb l r 3)) from by unfold robO; rw [if_neg (not_not_intro hr)]; rfl)
theorem A_robotOf5 (P : PX x l ls nx ct kl n c hs fa kr kd_ h0 (k) h) (hr : isR l r) : ∃ h', q_cl E q_m_X7_robotOf [.ref x, .int (zi r), .int (zi 5)] h = some (.inl (some (.int (zi (bI (isO l (rb l r 2) ∧ 0 < ob l (rb l r 2) 2))))), h') ∧ PX x l ls nx ct kl n c hs fa kr kd_ h0 (k) h' := by
  have hR := P.2.1
  have gc := rg_c hR
  have gr := rg_r hR
  have go := rg_o hR
  exact px_rd P (S_X7_robotOf P.1.1 hR P.2.2.1.1 P.2.2.1.2.1 (by omega) (by omega) (by omega) (by omega)) (show robO l r 5 = .inr (bI (isO l (rb l r 2) ∧ 0 < ob l (rb l r 2) 2)) from by unfold robO; rw [if_neg (not_not_intro hr)]; rfl)
theorem A_robotOf6 (P : PX x l ls nx ct kl n c hs fa kr kd_ h0 (k) h) (hr : isR l r) : ∃ h', q_cl E q_m_X7_robotOf [.ref x, .int (zi r), .int (zi 6)] h = some (.inl (some (.int (zi (rb l r 5)))), h') ∧ PX x l ls nx ct kl n c hs fa kr kd_ h0 (k) h' := by
  have hR := P.2.1
  have gc := rg_c hR
  have gr := rg_r hR
  have go := rg_o hR
  exact px_rd P (S_X7_robotOf P.1.1 hR P.2.2.1.1 P.2.2.1.2.1 (by omega) (by omega) (by omega) (by omega)) (show robO l r 6 = .inr (rb l r 5) from by unfold robO; rw [if_neg (not_not_intro hr)]; rfl)
theorem A_orderOf0 (P : PX x l ls nx ct kl n c hs fa kr kd_ h0 (k) h) (hy : isO l y) : ∃ h', q_cl E q_m_X7_orderOf [.ref x, .int (zi y), .int (zi 0)] h = some (.inl (some (.int (zi (ob l y 0)))), h') ∧ PX x l ls nx ct kl n c hs fa kr kd_ h0 (k) h' := by
  have hR := P.2.1
  have gc := rg_c hR
  have gr := rg_r hR
  have go := rg_o hR
  exact px_rd P (S_X7_orderOf P.1.1 hR P.2.2.1.1 P.2.2.1.2.1 (by omega) (by omega) (by omega) (by omega)) (show ordO l y 0 = .inr (ob l y 0) from by unfold ordO; rw [if_neg (not_not_intro hy)]; rfl)
theorem A_orderOf1 (P : PX x l ls nx ct kl n c hs fa kr kd_ h0 (k) h) (hy : isO l y) : ∃ h', q_cl E q_m_X7_orderOf [.ref x, .int (zi y), .int (zi 1)] h = some (.inl (some (.int (zi (ob l y 1)))), h') ∧ PX x l ls nx ct kl n c hs fa kr kd_ h0 (k) h' := by
  have hR := P.2.1
  have gc := rg_c hR
  have gr := rg_r hR
  have go := rg_o hR
  exact px_rd P (S_X7_orderOf P.1.1 hR P.2.2.1.1 P.2.2.1.2.1 (by omega) (by omega) (by omega) (by omega)) (show ordO l y 1 = .inr (ob l y 1) from by unfold ordO; rw [if_neg (not_not_intro hy)]; rfl)
theorem A_orderOf2 (P : PX x l ls nx ct kl n c hs fa kr kd_ h0 (k) h) (hy : isO l y) : ∃ h', q_cl E q_m_X7_orderOf [.ref x, .int (zi y), .int (zi 2)] h = some (.inl (some (.int (zi (ob l y 2)))), h') ∧ PX x l ls nx ct kl n c hs fa kr kd_ h0 (k) h' := by
  have hR := P.2.1
  have gc := rg_c hR
  have gr := rg_r hR
  have go := rg_o hR
  exact px_rd P (S_X7_orderOf P.1.1 hR P.2.2.1.1 P.2.2.1.2.1 (by omega) (by omega) (by omega) (by omega)) (show ordO l y 2 = .inr (ob l y 2) from by unfold ordO; rw [if_neg (not_not_intro hy)]; rfl)
theorem A_orderOf3 (P : PX x l ls nx ct kl n c hs fa kr kd_ h0 (k) h) (hy : isO l y) : ∃ h', q_cl E q_m_X7_orderOf [.ref x, .int (zi y), .int (zi 3)] h = some (.inl (some (.int (zi (stc l y)))), h') ∧ PX x l ls nx ct kl n c hs fa kr kd_ h0 (k) h' := by
  have hR := P.2.1
  have gc := rg_c hR
  have gr := rg_r hR
  have go := rg_o hR
  exact px_rd P (S_X7_orderOf P.1.1 hR P.2.2.1.1 P.2.2.1.2.1 (by omega) (by omega) (by omega) (by omega)) (show ordO l y 3 = .inr (stc l y) from by unfold ordO; rw [if_neg (not_not_intro hy)]; rfl)
theorem A_orderOf4 (P : PX x l ls nx ct kl n c hs fa kr kd_ h0 (k) h) (hy : isO l y) : ∃ h', q_cl E q_m_X7_orderOf [.ref x, .int (zi y), .int (zi 4)] h = some (.inl (some (.int (zi (rwo l y)))), h') ∧ PX x l ls nx ct kl n c hs fa kr kd_ h0 (k) h' := by
  have hR := P.2.1
  have gc := rg_c hR
  have gr := rg_r hR
  have go := rg_o hR
  exact px_rd P (S_X7_orderOf P.1.1 hR P.2.2.1.1 P.2.2.1.2.1 (by omega) (by omega) (by omega) (by omega)) (show ordO l y 4 = .inr (rwo l y) from by unfold ordO; rw [if_neg (not_not_intro hy)]; rfl)
theorem A_orderOf5 (P : PX x l ls nx ct kl n c hs fa kr kd_ h0 (k) h) (hy : isO l y) : ∃ h', q_cl E q_m_X7_orderOf [.ref x, .int (zi y), .int (zi 5)] h = some (.inl (some (.int (zi (ob l y 4)))), h') ∧ PX x l ls nx ct kl n c hs fa kr kd_ h0 (k) h' := by
  have hR := P.2.1
  have gc := rg_c hR
  have gr := rg_r hR
  have go := rg_o hR
  exact px_rd P (S_X7_orderOf P.1.1 hR P.2.2.1.1 P.2.2.1.2.1 (by omega) (by omega) (by omega) (by omega)) (show ordO l y 5 = .inr (ob l y 4) from by unfold ordO; rw [if_neg (not_not_intro hy)]; rfl)
theorem A_line0 (P : PX x l ls nx ct kl n c hs fa kr kd_ h0 (k) h) (hy : isO l y) (h1y : 0 < ob l y 1) : ∃ h', q_cl E q_m_X7_line [.ref x, .int (zi y), .int (zi 0)] h = some (.inl (some (.int (zi (ob l y (5 + 0))))), h') ∧ PX x l ls nx ct kl n c hs fa kr kd_ h0 (k) h' := by
  have hR := P.2.1
  have gc := rg_c hR
  have gr := rg_r hR
  have go := rg_o hR
  exact px_rd P (S_X7_line P.1.1 hR P.2.2.1.1 P.2.2.1.2.1 (by omega) (by omega) (by omega) (by omega)) (show linO l y 0 = .inr (ob l y (5 + 0)) from by unfold linO; rw [if_neg (not_not_intro hy), if_neg (not_not_intro ⟨Int.le_refl 0, h1y⟩)])
theorem A_account0 (P : PX x l ls nx ct kl n c hs fa kr kd_ h0 (k) h)  : ∃ h', q_cl E q_m_X7_account [.ref x, .int (zi 0)] h = some (.inl (some (.int (zi (l 0)))), h') ∧ PX x l ls nx ct kl n c hs fa kr kd_ h0 (k) h' := by
  have hR := P.2.1
  have gc := rg_c hR
  have gr := rg_r hR
  have go := rg_o hR
  exact px_rd P (S_X7_account P.1.1 hR P.2.2.1.1 P.2.2.1.2.1 (by omega) (by omega)) (show accO l ct n 0 = .inr (l 0) from rfl)
theorem A_account1 (P : PX x l ls nx ct kl n c hs fa kr kd_ h0 (k) h)  : ∃ h', q_cl E q_m_X7_account [.ref x, .int (zi 1)] h = some (.inl (some (.int (zi (l 1)))), h') ∧ PX x l ls nx ct kl n c hs fa kr kd_ h0 (k) h' := by
  have hR := P.2.1
  have gc := rg_c hR
  have gr := rg_r hR
  have go := rg_o hR
  exact px_rd P (S_X7_account P.1.1 hR P.2.2.1.1 P.2.2.1.2.1 (by omega) (by omega)) (show accO l ct n 1 = .inr (l 1) from rfl)
theorem A_account2 (P : PX x l ls nx ct kl n c hs fa kr kd_ h0 (k) h)  : ∃ h', q_cl E q_m_X7_account [.ref x, .int (zi 2)] h = some (.inl (some (.int (zi (l 3)))), h') ∧ PX x l ls nx ct kl n c hs fa kr kd_ h0 (k) h' := by
  have hR := P.2.1
  have gc := rg_c hR
  have gr := rg_r hR
  have go := rg_o hR
  exact px_rd P (S_X7_account P.1.1 hR P.2.2.1.1 P.2.2.1.2.1 (by omega) (by omega)) (show accO l ct n 2 = .inr (l 3) from rfl)
theorem A_account3 (P : PX x l ls nx ct kl n c hs fa kr kd_ h0 (k) h)  : ∃ h', q_cl E q_m_X7_account [.ref x, .int (zi 3)] h = some (.inl (some (.int (zi (l 4)))), h') ∧ PX x l ls nx ct kl n c hs fa kr kd_ h0 (k) h' := by
  have hR := P.2.1
  have gc := rg_c hR
  have gr := rg_r hR
  have go := rg_o hR
  exact px_rd P (S_X7_account P.1.1 hR P.2.2.1.1 P.2.2.1.2.1 (by omega) (by omega)) (show accO l ct n 3 = .inr (l 4) from rfl)
theorem A_account4 (P : PX x l ls nx ct kl n c hs fa kr kd_ h0 (k) h)  : ∃ h', q_cl E q_m_X7_account [.ref x, .int (zi 4)] h = some (.inl (some (.int (zi (oin l 0)))), h') ∧ PX x l ls nx ct kl n c hs fa kr kd_ h0 (k) h' := by
  have hR := P.2.1
  have gc := rg_c hR
  have gr := rg_r hR
  have go := rg_o hR
  exact px_rd P (S_X7_account P.1.1 hR P.2.2.1.1 P.2.2.1.2.1 (by omega) (by omega)) (show accO l ct n 4 = .inr (oin l 0) from rfl)
theorem A_account5 (P : PX x l ls nx ct kl n c hs fa kr kd_ h0 (k) h)  : ∃ h', q_cl E q_m_X7_account [.ref x, .int (zi 5)] h = some (.inl (some (.int (zi (oin l 1)))), h') ∧ PX x l ls nx ct kl n c hs fa kr kd_ h0 (k) h' := by
  have hR := P.2.1
  have gc := rg_c hR
  have gr := rg_r hR
  have go := rg_o hR
  exact px_rd P (S_X7_account P.1.1 hR P.2.2.1.1 P.2.2.1.2.1 (by omega) (by omega)) (show accO l ct n 5 = .inr (oin l 1) from rfl)
theorem A_account6 (P : PX x l ls nx ct kl n c hs fa kr kd_ h0 (k) h)  : ∃ h', q_cl E q_m_X7_account [.ref x, .int (zi 6)] h = some (.inl (some (.int (zi (oin l 2)))), h') ∧ PX x l ls nx ct kl n c hs fa kr kd_ h0 (k) h' := by
  have hR := P.2.1
  have gc := rg_c hR
  have gr := rg_r hR
  have go := rg_o hR
  exact px_rd P (S_X7_account P.1.1 hR P.2.2.1.1 P.2.2.1.2.1 (by omega) (by omega)) (show accO l ct n 6 = .inr (oin l 2) from rfl)
theorem A_account7 (P : PX x l ls nx ct kl n c hs fa kr kd_ h0 (k) h)  : ∃ h', q_cl E q_m_X7_account [.ref x, .int (zi 7)] h = some (.inl (some (.int (zi (ccl l)))), h') ∧ PX x l ls nx ct kl n c hs fa kr kd_ h0 (k) h' := by
  have hR := P.2.1
  have gc := rg_c hR
  have gr := rg_r hR
  have go := rg_o hR
  exact px_rd P (S_X7_account P.1.1 hR P.2.2.1.1 P.2.2.1.2.1 (by omega) (by omega)) (show accO l ct n 7 = .inr (ccl l) from rfl)
theorem A_account8 (P : PX x l ls nx ct kl n c hs fa kr kd_ h0 (k) h)  : ∃ h', q_cl E q_m_X7_account [.ref x, .int (zi 8)] h = some (.inl (some (.int (zi (l 2)))), h') ∧ PX x l ls nx ct kl n c hs fa kr kd_ h0 (k) h' := by
  have hR := P.2.1
  have gc := rg_c hR
  have gr := rg_r hR
  have go := rg_o hR
  exact px_rd P (S_X7_account P.1.1 hR P.2.2.1.1 P.2.2.1.2.1 (by omega) (by omega)) (show accO l ct n 8 = .inr (l 2) from rfl)
theorem A_account9 (P : PX x l ls nx ct kl n c hs fa kr kd_ h0 (k) h)  : ∃ h', q_cl E q_m_X7_account [.ref x, .int (zi 9)] h = some (.inl (some (.int (zi (sts l 5)))), h') ∧ PX x l ls nx ct kl n c hs fa kr kd_ h0 (k) h' := by
  have hR := P.2.1
  have gc := rg_c hR
  have gr := rg_r hR
  have go := rg_o hR
  exact px_rd P (S_X7_account P.1.1 hR P.2.2.1.1 P.2.2.1.2.1 (by omega) (by omega)) (show accO l ct n 9 = .inr (sts l 5) from rfl)
theorem A_account10 (P : PX x l ls nx ct kl n c hs fa kr kd_ h0 (k) h)  : ∃ h', q_cl E q_m_X7_account [.ref x, .int (zi 10)] h = some (.inl (some (.int (zi (pks l)))), h') ∧ PX x l ls nx ct kl n c hs fa kr kd_ h0 (k) h' := by
  have hR := P.2.1
  have gc := rg_c hR
  have gr := rg_r hR
  have go := rg_o hR
  exact px_rd P (S_X7_account P.1.1 hR P.2.2.1.1 P.2.2.1.2.1 (by omega) (by omega)) (show accO l ct n 10 = .inr (pks l) from rfl)
theorem A_account11 (P : PX x l ls nx ct kl n c hs fa kr kd_ h0 (k) h)  : ∃ h', q_cl E q_m_X7_account [.ref x, .int (zi 11)] h = some (.inl (some (.int (zi (sts l 1)))), h') ∧ PX x l ls nx ct kl n c hs fa kr kd_ h0 (k) h' := by
  have hR := P.2.1
  have gc := rg_c hR
  have gr := rg_r hR
  have go := rg_o hR
  exact px_rd P (S_X7_account P.1.1 hR P.2.2.1.1 P.2.2.1.2.1 (by omega) (by omega)) (show accO l ct n 11 = .inr (sts l 1) from rfl)
theorem A_account14 (P : PX x l ls nx ct kl n c hs fa kr kd_ h0 (k) h)  : ∃ h', q_cl E q_m_X7_account [.ref x, .int (zi 14)] h = some (.inl (some (.int (zi (l 5)))), h') ∧ PX x l ls nx ct kl n c hs fa kr kd_ h0 (k) h' := by
  have hR := P.2.1
  have gc := rg_c hR
  have gr := rg_r hR
  have go := rg_o hR
  exact px_rd P (S_X7_account P.1.1 hR P.2.2.1.1 P.2.2.1.2.1 (by omega) (by omega)) (show accO l ct n 14 = .inr (l 5) from rfl)
theorem A_account15 (P : PX x l ls nx ct kl n c hs fa kr kd_ h0 (k) h)  : ∃ h', q_cl E q_m_X7_account [.ref x, .int (zi 15)] h = some (.inl (some (.int (zi (l 6)))), h') ∧ PX x l ls nx ct kl n c hs fa kr kd_ h0 (k) h' := by
  have hR := P.2.1
  have gc := rg_c hR
  have gr := rg_r hR
  have go := rg_o hR
  exact px_rd P (S_X7_account P.1.1 hR P.2.2.1.1 P.2.2.1.2.1 (by omega) (by omega)) (show accO l ct n 15 = .inr (l 6) from rfl)
theorem A_account16 (P : PX x l ls nx ct kl n c hs fa kr kd_ h0 (k) h)  : ∃ h', q_cl E q_m_X7_account [.ref x, .int (zi 16)] h = some (.inl (some (.int (zi (l 7)))), h') ∧ PX x l ls nx ct kl n c hs fa kr kd_ h0 (k) h' := by
  have hR := P.2.1
  have gc := rg_c hR
  have gr := rg_r hR
  have go := rg_o hR
  exact px_rd P (S_X7_account P.1.1 hR P.2.2.1.1 P.2.2.1.2.1 (by omega) (by omega)) (show accO l ct n 16 = .inr (l 7) from rfl)
theorem A_reach (P : PX x l ls nx ct kl n c hs fa kr kd_ h0 (k) h) (hy : isC l y) : ∃ h', q_cl E q_m_X7_reach [.ref x, .int (zi y)] h = some (.inl (some (.int (zi (rch l y)))), h') ∧ PX x l ls nx ct kl n c hs fa kr kd_ h0 (k) h' := by
  have hR := P.2.1
  have gc := rg_c hR
  have gr := rg_r hR
  have go := rg_o hR
  exact px_rd P (S_X7_reach P.1.1 hR P.2.2.1.1 P.2.2.1.2.1 (by omega) (by omega)) (show rch0 l y = .inr (rch l y) from by unfold rch0; rw [if_neg (not_not_intro hy)])
theorem A_farthest (P : PX x l ls nx ct kl n c hs fa kr kd_ h0 (k) h) (hy : isC l y) : ∃ h', q_cl E q_m_X7_farthest [.ref x, .int (zi y)] h = some (.inl (some (.int (zi (frt l y)))), h') ∧ PX x l ls nx ct kl n c hs fa kr kd_ h0 (k) h' := by
  have hR := P.2.1
  have gc := rg_c hR
  have gr := rg_r hR
  have go := rg_o hR
  exact px_rd P (S_X7_farthest P.1.1 hR P.2.2.1.1 P.2.2.1.2.1 (by omega) (by omega)) (show frt0 l y = .inr (frt l y) from by unfold frt0; rw [if_neg (not_not_intro hy)])
noncomputable def letV (l : Int → Int) (y : Int) : Int := if ¬ rin l y 0 = -1 then 48 + rin l y 0 else if ¬ l (56 + y) = 0 then 120 else sgK (l (8 + y))
theorem A_letter (P : PX x l ls nx ct kl n c hs fa kr kd_ h0 (k) h) (hE : q_EN E x) (hy : isC l y) : ∃ h', q_cl E q_m_X7_letter [.ref x, .int (zi y)] h = some (.inl (some (.int (zi (letV l y)))), h') ∧ PX x l ls nx ct kl n c hs fa kr kd_ h0 (k) h' := by
  have hR := P.2.1
  have gc := rg_c hR
  have gr := rg_r hR
  have go := rg_o hR
  exact px_rd P (S_X7_letter P.1.1 hR P.2.2.1.1 P.2.2.1.2.1 (by omega) (by omega) hE (px_lo P)) (show letO l y = .inr (letV l y) from by unfold letO; rw [if_neg (not_not_intro hy)]; rfl)
theorem A_distance (P : PX x l ls nx ct kl n c hs fa kr kd_ h0 (k) h) (ha : isC l y) (hb : isC l z) : ∃ h', q_cl E q_m_L_distance [.ref x, .int (zi y), .int (zi z)] h = some (.inl (some (.int (zi (dV (far l y z))))), h') ∧ PX x l ls nx ct kl n c hs fa kr kd_ h0 (k + 1) h' := by
  have hR := P.2.1
  have gc := rg_c hR
  have gr := rg_r hR
  have go := rg_o hR
  by_cases q : far l y z = -1
  · obtain ⟨h', e, P'⟩ := px_rx P (S_X7_distance P.1.1 hR P.2.2.1.1 P.2.2.1.2.1 (by omega) (by omega) (by omega) (by omega)) (show far0 l y z = .inl xNS from by unfold far0; rw [if_neg (not_not_intro ⟨ha, hb⟩), if_pos q])
    refine ⟨h', ?_, P'⟩
    rw [show dV (far l y z) = -2 from if_pos q]
    exact V_distance_xNS (px_o P) e
  · obtain ⟨h', e, P'⟩ := px_rd P (S_X7_distance P.1.1 hR P.2.2.1.1 P.2.2.1.2.1 (by omega) (by omega) (by omega) (by omega)) (show far0 l y z = .inr (far l y z) from by unfold far0; rw [if_neg (not_not_intro ⟨ha, hb⟩), if_neg q])
    refine ⟨h', ?_, px_mo P' (by omega)⟩
    rw [show dV (far l y z) = far l y z from if_neg q]
    exact V_distance_r (px_o P) e
theorem A_distanceAgain (P : PX x l ls nx ct kl n c hs fa kr kd_ h0 (k) h) (ha : isC l y) (hb : isC l z) : ∃ h', q_cl E q_m_L_distanceAgain [.ref x, .int (zi y), .int (zi z)] h = some (.inl (some (.int (zi (dV (dst l y z))))), h') ∧ PX x l ls nx ct kl n c hs fa kr kd_ h0 (k + 1) h' := by
  have hR := P.2.1
  have gc := rg_c hR
  have gr := rg_r hR
  have go := rg_o hR
  by_cases q : dst l y z = -1
  · obtain ⟨h', e, P'⟩ := px_rx P (S_X7_distanceAgain P.1.1 hR P.2.2.1.1 P.2.2.1.2.1 (by omega) (by omega) (by omega) (by omega)) (show dst0 l y z = .inl xNS from by unfold dst0; rw [if_neg (not_not_intro ⟨ha, hb⟩), if_pos q])
    refine ⟨h', ?_, P'⟩
    rw [show dV (dst l y z) = -2 from if_pos q]
    exact V_distanceAgain_xNS (px_o P) e
  · obtain ⟨h', e, P'⟩ := px_rd P (S_X7_distanceAgain P.1.1 hR P.2.2.1.1 P.2.2.1.2.1 (by omega) (by omega) (by omega) (by omega)) (show dst0 l y z = .inr (dst l y z) from by unfold dst0; rw [if_neg (not_not_intro ⟨ha, hb⟩), if_neg q])
    refine ⟨h', ?_, px_mo P' (by omega)⟩
    rw [show dV (dst l y z) = dst l y z from if_neg q]
    exact V_distanceAgain_r (px_o P) e
theorem A_arrival (P : PX x l ls nx ct kl n c hs fa kr kd_ h0 (k) h) (hr : isR l r) (hb : isC l z) : ∃ h', q_cl E q_m_L_arrival [.ref x, .int (zi r), .int (zi z)] h = some (.inl (some (.int (zi (arV l r z)))), h') ∧ PX x l ls nx ct kl n c hs fa kr kd_ h0 (k + 1) h' := by
  have hR := P.2.1
  have gc := rg_c hR
  have gr := rg_r hR
  have go := rg_o hR
  unfold arV
  by_cases qe : ent l z
  · rw [if_neg (not_not_intro qe)]
    by_cases q0 : rb l r 0 = z
    · obtain ⟨h', e, P'⟩ := px_rd P (S_X7_arrival P.1.1 hR P.2.2.1.1 P.2.2.1.2.1 (by omega) (by omega) (by omega) (by omega)) (show arrO l r z = .inr 0 from by unfold arrO; rw [if_neg (not_not_intro ⟨hr, hb⟩), if_neg (not_not_intro qe), if_pos q0])
      refine ⟨h', ?_, px_mo P' (by omega)⟩
      rw [if_pos q0]
      exact V_arrival_r (px_o P) e
    · rw [if_neg q0]
      by_cases q : fT l r z = -1
      · obtain ⟨h', e, P'⟩ := px_rx P (S_X7_arrival P.1.1 hR P.2.2.1.1 P.2.2.1.2.1 (by omega) (by omega) (by omega) (by omega)) (show arrO l r z = .inl xNS from by unfold arrO; rw [if_neg (not_not_intro ⟨hr, hb⟩), if_neg (not_not_intro qe), if_neg q0, if_pos q])
        refine ⟨h', ?_, P'⟩
        rw [show dV (fT l r z) = -2 from if_pos q]
        exact V_arrival_xNS (px_o P) e
      · obtain ⟨h', e, P'⟩ := px_rd P (S_X7_arrival P.1.1 hR P.2.2.1.1 P.2.2.1.2.1 (by omega) (by omega) (by omega) (by omega)) (show arrO l r z = .inr (fT l r z) from by unfold arrO; rw [if_neg (not_not_intro ⟨hr, hb⟩), if_neg (not_not_intro qe), if_neg q0, if_neg q])
        refine ⟨h', ?_, px_mo P' (by omega)⟩
        rw [show dV (fT l r z) = fT l r z from if_neg q]
        exact V_arrival_r (px_o P) e
  · obtain ⟨h', e, P'⟩ := px_rx P (S_X7_arrival P.1.1 hR P.2.2.1.1 P.2.2.1.2.1 (by omega) (by omega) (by omega) (by omega)) (show arrO l r z = .inl xNS from by unfold arrO; rw [if_neg (not_not_intro ⟨hr, hb⟩), if_pos qe])
    refine ⟨h', ?_, P'⟩
    rw [if_pos qe]
    exact V_arrival_xNS (px_o P) e
theorem A_arrivalAgain (P : PX x l ls nx ct kl n c hs fa kr kd_ h0 (k) h) (hr : isR l r) (hb : isC l z) : ∃ h', q_cl E q_m_L_arrivalAgain [.ref x, .int (zi r), .int (zi z)] h = some (.inl (some (.int (zi (arV l r z)))), h') ∧ PX x l ls nx ct kl n c hs fa kr kd_ h0 (k + 1) h' := by
  have hR := P.2.1
  have gc := rg_c hR
  have gr := rg_r hR
  have go := rg_o hR
  unfold arV
  by_cases qe : ent l z
  · rw [if_neg (not_not_intro qe)]
    by_cases q0 : rb l r 0 = z
    · obtain ⟨h', e, P'⟩ := px_rd P (S_X7_arrivalAgain P.1.1 hR P.2.2.1.1 P.2.2.1.2.1 (by omega) (by omega) (by omega) (by omega)) (show arrO l r z = .inr 0 from by unfold arrO; rw [if_neg (not_not_intro ⟨hr, hb⟩), if_neg (not_not_intro qe), if_pos q0])
      refine ⟨h', ?_, px_mo P' (by omega)⟩
      rw [if_pos q0]
      exact V_arrivalAgain_r (px_o P) e
    · rw [if_neg q0]
      by_cases q : fT l r z = -1
      · obtain ⟨h', e, P'⟩ := px_rx P (S_X7_arrivalAgain P.1.1 hR P.2.2.1.1 P.2.2.1.2.1 (by omega) (by omega) (by omega) (by omega)) (show arrO l r z = .inl xNS from by unfold arrO; rw [if_neg (not_not_intro ⟨hr, hb⟩), if_neg (not_not_intro qe), if_neg q0, if_pos q])
        refine ⟨h', ?_, P'⟩
        rw [show dV (fT l r z) = -2 from if_pos q]
        exact V_arrivalAgain_xNS (px_o P) e
      · obtain ⟨h', e, P'⟩ := px_rd P (S_X7_arrivalAgain P.1.1 hR P.2.2.1.1 P.2.2.1.2.1 (by omega) (by omega) (by omega) (by omega)) (show arrO l r z = .inr (fT l r z) from by unfold arrO; rw [if_neg (not_not_intro ⟨hr, hb⟩), if_neg (not_not_intro qe), if_neg q0, if_neg q])
        refine ⟨h', ?_, px_mo P' (by omega)⟩
        rw [show dV (fT l r z) = fT l r z from if_neg q]
        exact V_arrivalAgain_r (px_o P) e
  · obtain ⟨h', e, P'⟩ := px_rx P (S_X7_arrivalAgain P.1.1 hR P.2.2.1.1 P.2.2.1.2.1 (by omega) (by omega) (by omega) (by omega)) (show arrO l r z = .inl xNS from by unfold arrO; rw [if_neg (not_not_intro ⟨hr, hb⟩), if_pos qe])
    refine ⟨h', ?_, P'⟩
    rw [if_pos qe]
    exact V_arrivalAgain_xNS (px_o P) e
theorem A_suited (P : PX x l ls nx ct kl n c hs fa kr kd_ h0 (k) h) (hy : isO l y) : ∃ h', q_cl E q_m_L_suited [.ref x, .int (zi y)] h = some (.inl (some (.int (zi (dV (suiV l y))))), h') ∧ PX x l ls nx ct kl n c hs fa kr kd_ h0 (k + 1) h' := by
  have hR := P.2.1
  have gc := rg_c hR
  have gr := rg_r hR
  have go := rg_o hR
  by_cases q : suiV l y = -1
  · obtain ⟨h', e, P'⟩ := px_rx P (S_X7_suited P.1.1 hR P.2.2.1.1 P.2.2.1.2.1 (by omega) (by omega)) (show suiO l y = .inl xNS from by unfold suiO; rw [if_neg (not_not_intro hy), if_pos q])
    refine ⟨h', ?_, P'⟩
    rw [show dV (suiV l y) = -2 from if_pos q]
    exact V_suited_xNS (px_o P) e
  · obtain ⟨h', e, P'⟩ := px_rd P (S_X7_suited P.1.1 hR P.2.2.1.1 P.2.2.1.2.1 (by omega) (by omega)) (show suiO l y = .inr (suiV l y) from by unfold suiO; rw [if_neg (not_not_intro hy), if_neg q])
    refine ⟨h', ?_, px_mo P' (by omega)⟩
    rw [show dV (suiV l y) = suiV l y from if_neg q]
    exact V_suited_r (px_o P) e
theorem A_waiting (P : PX x l ls nx ct kl n c hs fa kr kd_ h0 (k) h) (h0y : 0 ≤ y) (h1y : y < 2147483648) : ∃ h', q_cl E q_m_L_waiting [.ref x, .int (zi y)] h = some (.inl (some (.int (zi (dV (wor l y))))), h') ∧ PX x l ls nx ct kl n c hs fa kr kd_ h0 (k + 1) h' := by
  have hR := P.2.1
  have gc := rg_c hR
  have gr := rg_r hR
  have go := rg_o hR
  by_cases q : wor l y = -1
  · obtain ⟨h', e, P'⟩ := px_rx P (S_X7_waiting P.1.1 hR P.2.2.1.1 P.2.2.1.2.1 (by omega) (by omega)) (show waiO l y = .inl xNS from by unfold waiO; rw [if_neg (by omega), if_pos q])
    refine ⟨h', ?_, P'⟩
    rw [show dV (wor l y) = -2 from if_pos q]
    exact V_waiting_xNS (px_o P) e
  · obtain ⟨h', e, P'⟩ := px_rd P (S_X7_waiting P.1.1 hR P.2.2.1.1 P.2.2.1.2.1 (by omega) (by omega)) (show waiO l y = .inr (wor l y) from by unfold waiO; rw [if_neg (by omega), if_neg q])
    refine ⟨h', ?_, px_mo P' (by omega)⟩
    rw [show dV (wor l y) = wor l y from if_neg q]
    exact V_waiting_r (px_o P) e
theorem A_waitingN (P : PX x l ls nx ct kl n c hs fa kr kd_ h0 (k) h) : ∃ h', q_cl E q_m_L_waiting [.ref x, .int (zi (-1))] h = some (.inl (some (.int (zi (oin l 0)))), h') ∧ PX x l ls nx ct kl n c hs fa kr kd_ h0 (k) h' := by
  obtain ⟨h', e, P'⟩ := px_rd P (S_X7_waiting (y := -1) P.1.1 P.2.1 P.2.2.1.1 P.2.2.1.2.1 (by omega) (by omega)) (show waiO l (-1) = .inr (oin l 0) from if_pos rfl)
  exact ⟨h', V_waiting_r (px_o P) e, P'⟩
/-- why the last was refused: its code -/
def reV (kr : Int) : Int := if kr = -1 then -2 else kr
theorem A_reason (P : PX x l ls nx ct kl n c hs fa kr kd_ h0 (k) h)  : ∃ h', q_cl E q_m_L_reason [.ref x, .int (zi 0)] h = some (.inl (some (.int (zi (reV kr)))), h') ∧ PX x l ls nx ct kl n c hs fa kr kd_ h0 (k + 1) h' := by
  have hR := P.2.1
  have gc := rg_c hR
  have gr := rg_r hR
  have go := rg_o hR
  by_cases q : kr = -1
  · obtain ⟨h', e, P'⟩ := px_rx P (S_X7_reason P.1.1 hR P.2.2.1.1 P.2.2.1.2.1 (by omega) (by omega) P.2.2.1.2.2) (show reaO kr kd_ 0 = .inl xNS from by unfold reaO; rw [if_pos q]; try rfl)
    refine ⟨h', ?_, P'⟩
    rw [show reV kr = -2 from if_pos q]
    exact V_reason_xNS (px_o P) e
  · obtain ⟨h', e, P'⟩ := px_rd P (S_X7_reason P.1.1 hR P.2.2.1.1 P.2.2.1.2.1 (by omega) (by omega) P.2.2.1.2.2) (show reaO kr kd_ 0 = .inr (kr) from by unfold reaO; rw [if_neg q]; try rfl)
    refine ⟨h', ?_, px_mo P' (by omega)⟩
    rw [show reV kr = kr from if_neg q]
    exact V_reason_r (px_o P) e
theorem A_distanceV (P : PX x l ls nx ct kl n c hs fa kr kd_ h0 (k) h) (ha : isC l y) (hb : isC l z) (q : ¬ far l y z = -1) : ∃ h', q_cl E q_m_L_distance [.ref x, .int (zi y), .int (zi z)] h = some (.inl (some (.int (zi (far l y z)))), h') ∧ PX x l ls nx ct kl n c hs fa kr kd_ h0 (k) h' := by
  have hR := P.2.1
  have gc := rg_c hR
  obtain ⟨h', e, P'⟩ := px_rd P (S_X7_distance P.1.1 hR P.2.2.1.1 P.2.2.1.2.1 (by omega) (by omega) (by omega) (by omega)) (show far0 l y z = .inr (far l y z) from by unfold far0; rw [if_neg (not_not_intro ⟨ha, hb⟩), if_neg q])
  exact ⟨h', V_distance_r (px_o P) e, P'⟩
end DRX
