/-! one call on both sides: each method (printed by program) -/
def isF (v : Value) : Prop := ∃ p, v = .float p ∧ p &&& 0x7fffffff ≤ 0x7f800000
def isD (v : Value) : Prop := ∃ q, v = .double q ∧ q &&& 0x7fffffffffffffff ≤ 0x7ff0000000000000
section TX_
variable {E : q_E} {h h' h0 h1 h1' : q_H} {x N : Nat} {l l' ls c rl : Int → Int} {kl : Int → Int → Int} {T T' nx ct n hs fa kr kd_ v v2 y z d a b e w : Int} {M M1 M2 : q_Im}
theorem lo_2 (hLo : Lo h N) (hN : N ≤ x) (f : Fw x h h1) (F : Fr (x + 456) 2 h1 h1') : Lo h1' N := fun a ha => ((F.2 a (by omega)).trans (f.1 a (by omega))).trans (hLo a ha)
theorem P_takeOff (hR : RM T x h M) (h0 : 0 ≤ T)  (y0 : -2147483648 ≤ y) (y1 : y < 2147483648) : Bo E T x h q_m_X7_takeOff q_m_X8_takeOff [.int (zi y)] [xUO] isI := by
  obtain ⟨hsf, l, ls, nx, ct, kl, n, c, hs, fa, kr, kd_, hC, hO⟩ := hR
  have hct : 0 ≤ M 0 4 ∧ M 0 4 ≤ 8 := by rw [← hO.2.1.2.1]; exact hO.2.1.2.2.1
  obtain ⟨r, h1, e1, hM⟩ := S_X7_takeOff (E := E) hC (st_rg hO.1) hO.2.1.1 hO.2.1.2.2.1 y0 y1 
  obtain ⟨f1, f2, f3⟩ := p_mut (v2 := M 1 3 - 1) (rl := bys (rT0 (M 1) y) y (M 1 4)) hsf (ob_5 (t := 0) hO) rfl hM k20_tak (Int.le_refl T) h0 (fun q => d_tak hO.1 q)
  refine ⟨r, h1, _, _, e1, f1, f2, ⟨_, rfl⟩, fun h1' F => ?_⟩
  obtain ⟨g1, g2⟩ := f3 h1' F
  obtain ⟨r2, h2, e2, e3, e4⟩ := S_X8_takeOff (E := E) (h := h1') (am := x + 444) (M := M) hO.1.2.1.1 hct y0 y1
  rw [← g1, e3, e4, ← rf_tak hO.1.1 hO.1.2.1] at e2
  exact ⟨_, e2, rfl, g2⟩
theorem P_assign (hR : RM T x h M) (h0 : 0 ≤ T)  (y0 : -2147483648 ≤ y) (y1 : y < 2147483648) (z0 : -2147483648 ≤ z) (z1 : z < 2147483648) : Bo E T x h q_m_X7_assign q_m_X8_assign [.int (zi y), .int (zi z)] [xUO] isI := by
  obtain ⟨hsf, l, ls, nx, ct, kl, n, c, hs, fa, kr, kd_, hC, hO⟩ := hR
  have hct : 0 ≤ M 0 4 ∧ M 0 4 ≤ 8 := by rw [← hO.2.1.2.1]; exact hO.2.1.2.2.1
  obtain ⟨r, h1, e1, hM⟩ := S_X7_assign (E := E) hC (st_rg hO.1) hO.2.1.1 hO.2.1.2.2.1 y0 y1 z0 z1 
  obtain ⟨f1, f2, f3⟩ := p_mut (v2 := ob (rAsg (M 1) y z) z 1) (rl := rAsg (M 1) y z) hsf (ob_5 (t := 0) hO) rfl hM k20_asg (Int.le_refl T) h0 (fun q => d_asg hO.1 q)
  refine ⟨r, h1, _, _, e1, f1, f2, ⟨_, rfl⟩, fun h1' F => ?_⟩
  obtain ⟨g1, g2⟩ := f3 h1' F
  obtain ⟨r2, h2, e2, e3, e4⟩ := S_X8_assign (E := E) (h := h1') (am := x + 444) (M := M) hO.1.2.1.1 hO.1.2.1.2.1 hct y0 y1 z0 z1
  rw [← g1, e3, e4, ← rf_asg hO.1.1 hO.1.2.1] at e2
  exact ⟨_, e2, rfl, g2⟩
theorem P_release (hR : RM T x h M) (h0 : 0 ≤ T)  (y0 : -2147483648 ≤ y) (y1 : y < 2147483648) : Bo E T x h q_m_X7_release q_m_X8_release [.int (zi y)] [xUO] isI := by
  obtain ⟨hsf, l, ls, nx, ct, kl, n, c, hs, fa, kr, kd_, hC, hO⟩ := hR
  have hct : 0 ≤ M 0 4 ∧ M 0 4 ≤ 8 := by rw [← hO.2.1.2.1]; exact hO.2.1.2.2.1
  obtain ⟨r, h1, e1, hM⟩ := S_X7_release (E := E) hC (st_rg hO.1) hO.2.1.1 hO.2.1.2.2.1 y0 y1 
  obtain ⟨f1, f2, f3⟩ := p_mut (v2 := rb (M 1) y 2) (rl := rRel (M 1) y) hsf (ob_5 (t := 0) hO) rfl hM k20_rel (Int.le_refl T) h0 (fun q => d_rel hO.1 q)
  refine ⟨r, h1, _, _, e1, f1, f2, ⟨_, rfl⟩, fun h1' F => ?_⟩
  obtain ⟨g1, g2⟩ := f3 h1' F
  obtain ⟨r2, h2, e2, e3, e4⟩ := S_X8_release (E := E) (h := h1') (am := x + 444) (M := M) hO.1.2.1.1 hct y0 y1
  rw [← g1, e3, e4, ← rf_rel hO.1.1 hO.1.2.1] at e2
  exact ⟨_, e2, rfl, g2⟩
theorem P_close (hR : RM T x h M) (h0 : 0 ≤ T)  (y0 : -2147483648 ≤ y) (y1 : y < 2147483648) : Bo E T x h q_m_X7_close q_m_X8_close [.int (zi y)] [xUO] isI := by
  obtain ⟨hsf, l, ls, nx, ct, kl, n, c, hs, fa, kr, kd_, hC, hO⟩ := hR
  have hct : 0 ≤ M 0 4 ∧ M 0 4 ≤ 8 := by rw [← hO.2.1.2.1]; exact hO.2.1.2.2.1
  obtain ⟨r, h1, e1, hM⟩ := S_X7_close (E := E) hC (st_rg hO.1) hO.2.1.1 hO.2.1.2.2.1 y0 y1 
  obtain ⟨f1, f2, f3⟩ := p_mut (v2 := ccl (u1 (M 1) (56 + y) 1)) (rl := rClo (M 1) y) hsf (ob_5 (t := 0) hO) rfl hM k20_clo (Int.le_refl T) h0 (fun q => d_clo hO.1 q)
  refine ⟨r, h1, _, _, e1, f1, f2, ⟨_, rfl⟩, fun h1' F => ?_⟩
  obtain ⟨g1, g2⟩ := f3 h1' F
  obtain ⟨r2, h2, e2, e3, e4⟩ := S_X8_close (E := E) (h := h1') (am := x + 444) (M := M) hO.1.2.1.1 hO.1.2.1.2.1 hct y0 y1
  rw [← g1, e3, e4, ← rf_clo hO.1.1 hO.1.2.1] at e2
  exact ⟨_, e2, rfl, g2⟩
theorem P_open (hR : RM T x h M) (h0 : 0 ≤ T)  (y0 : -2147483648 ≤ y) (y1 : y < 2147483648) : Bo E T x h q_m_X7_open q_m_X8_open [.int (zi y)] [xUO] isI := by
  obtain ⟨hsf, l, ls, nx, ct, kl, n, c, hs, fa, kr, kd_, hC, hO⟩ := hR
  have hct : 0 ≤ M 0 4 ∧ M 0 4 ≤ 8 := by rw [← hO.2.1.2.1]; exact hO.2.1.2.2.1
  obtain ⟨r, h1, e1, hM⟩ := S_X7_open (E := E) hC (st_rg hO.1) hO.2.1.1 hO.2.1.2.2.1 y0 y1 
  obtain ⟨f1, f2, f3⟩ := p_mut (v2 := ccl (u1 (M 1) (56 + y) 0)) (rl := rOpn (M 1) y) hsf (ob_5 (t := 0) hO) rfl hM k20_opn (Int.le_refl T) h0 (fun q => d_opn hO.1 q)
  refine ⟨r, h1, _, _, e1, f1, f2, ⟨_, rfl⟩, fun h1' F => ?_⟩
  obtain ⟨g1, g2⟩ := f3 h1' F
  obtain ⟨r2, h2, e2, e3, e4⟩ := S_X8_open (E := E) (h := h1') (am := x + 444) (M := M) hO.1.2.1.1 hO.1.2.1.2.1 hct y0 y1
  rw [← g1, e3, e4, ← rf_opn hO.1.1 hO.1.2.1] at e2
  exact ⟨_, e2, rfl, g2⟩
theorem P_cancel (hR : RM T x h M) (h0 : 0 ≤ T)  (y0 : -2147483648 ≤ y) (y1 : y < 2147483648) : Bo E T x h q_m_X7_cancel q_m_X8_cancel [.int (zi y)] [xUO] isI := by
  obtain ⟨hsf, l, ls, nx, ct, kl, n, c, hs, fa, kr, kd_, hC, hO⟩ := hR
  have hct : 0 ≤ M 0 4 ∧ M 0 4 ≤ 8 := by rw [← hO.2.1.2.1]; exact hO.2.1.2.2.1
  obtain ⟨r, h1, e1, hM⟩ := S_X7_cancel (E := E) hC (st_rg hO.1) hO.2.1.1 hO.2.1.2.2.1 y0 y1 
  obtain ⟨f1, f2, f3⟩ := p_mut (v2 := rb (M 1) y 3) (rl := rCan (M 1) y) hsf (ob_5 (t := 0) hO) rfl hM k20_can (Int.le_refl T) h0 (fun q => d_can hO.1 q)
  refine ⟨r, h1, _, _, e1, f1, f2, ⟨_, rfl⟩, fun h1' F => ?_⟩
  obtain ⟨g1, g2⟩ := f3 h1' F
  obtain ⟨r2, h2, e2, e3, e4⟩ := S_X8_cancel (E := E) (h := h1') (am := x + 444) (M := M) hO.1.2.1.1 hct y0 y1
  rw [← g1, e3, e4, ← rf_can hO.1.1 hO.1.2.1] at e2
  exact ⟨_, e2, rfl, g2⟩
theorem P_set (hR : RM T x h M) (h0 : 0 ≤ T) (hE : q_EN E N) (hLo : Lo h N) (hN : N ≤ x) (y0 : -2147483648 ≤ y) (y1 : y < 2147483648) (z0 : -2147483648 ≤ z) (z1 : z < 2147483648) : Bo E T x h q_m_X7_set q_m_X8_set [.int (zi y), .int (zi z)] [xUO] isI := by
  obtain ⟨hsf, l, ls, nx, ct, kl, n, c, hs, fa, kr, kd_, hC, hO⟩ := hR
  have hct : 0 ≤ M 0 4 ∧ M 0 4 ≤ 8 := by rw [← hO.2.1.2.1]; exact hO.2.1.2.2.1
  obtain ⟨r, h1, e1, hM⟩ := S_X7_set (E := E) hC (st_rg hO.1) hO.2.1.1 hO.2.1.2.2.1 y0 y1 z0 z1 hE hLo
  obtain ⟨f1, f2, f3⟩ := p_mut (v2 := M 1 (5 + y)) (rl := rSet (M 1) y z) hsf (ob_5 (t := 0) hO) rfl hM k20_set (Int.le_refl T) h0 (fun q => d_set hO.1 q)
  refine ⟨r, h1, _, _, e1, f1, f2, ⟨_, rfl⟩, fun h1' F => ?_⟩
  obtain ⟨g1, g2⟩ := f3 h1' F
  obtain ⟨r2, h2, e2, e3, e4⟩ := S_X8_set (E := E) (h := h1') (am := x + 444) (M := M) hO.1.2.1.1 hct y0 y1 z0 z1
  rw [← g1, e3, e4, ← rf_set] at e2
  exact ⟨_, e2, rfl, g2⟩
theorem P_pass (hR : RM T x h M) (h0 : 0 ≤ T) (hT1 : T ≤ 90000) (y0 : -2147483648 ≤ y) (y1 : y < 2147483648) : Bo E (T + 99) x h q_m_X7_pass q_m_X8_pass [.int (zi y)] [xUO] isI := by
  obtain ⟨hsf, l, ls, nx, ct, kl, n, c, hs, fa, kr, kd_, hC, hO⟩ := hR
  have hct : 0 ≤ M 0 4 ∧ M 0 4 ≤ 8 := by rw [← hO.2.1.2.1]; exact hO.2.1.2.2.1
  obtain ⟨r, h1, e1, hM⟩ := S_X7_pass (E := E) hC (st_rg hO.1) hO.2.1.1 hO.2.1.2.2.1 y0 y1 (sm_tb hO.1.1 hO.1.2.2.2) h0 hT1
  obtain ⟨f1, f2, f3⟩ := p_mut (T' := T + 99) (v2 := pmV y.toNat (M 1) 0) (rl := pmL y.toNat (M 1)) hsf (ob_5 (t := 0) hO) rfl hM k20_pas (by omega) h0 (fun q => d_pas hO.1 h0 hT1 q)
  refine ⟨r, h1, _, _, e1, f1, f2, ⟨_, rfl⟩, fun h1' F => ?_⟩
  obtain ⟨g1, g2⟩ := f3 h1' F
  obtain ⟨r2, h2, e2, ⟨e3, e4⟩, _⟩ := S_X8_pass (E := E) (h := h1') (am := x + 444) (M := M) hO.1.2.1.1 hO.1.2.1.2.1 hct hO.1.2.2.2 h0 hT1 y0 y1
  rw [← g1, e3, e4, ← rf_pas] at e2
  exact ⟨_, e2, rfl, g2⟩
theorem P_order (hR : RM T x h M) (h0 : 0 ≤ T) (d0 : -2147483648 ≤ d) (d1 : d < 2147483648) (a0 : -2147483648 ≤ a) (a1 : a < 2147483648) (b0 : -2147483648 ≤ b) (b1 : b < 2147483648) (w0 : -2147483648 ≤ w) (w1 : w < 2147483648) : Bo E T x h q_m_X7_order q_m_X8_order_ [.int (zi d), .int (zi a), .int (zi b), .int (zi w)] [xUO] isI := by
  obtain ⟨hsf, l, ls, nx, ct, kl, n, c, hs, fa, kr, kd_, hC, hO⟩ := hR
  have hct : 0 ≤ M 0 4 ∧ M 0 4 ≤ 8 := by rw [← hO.2.1.2.1]; exact hO.2.1.2.2.1
  obtain ⟨r, h1, e1, hM⟩ := S_X7_order (E := E) hC (st_rg hO.1) hO.2.1.1 hO.2.1.2.2.1 d0 d1 a0 a1 b0 b1 w0 w1
  obtain ⟨f1, f2, f3⟩ := p_mut (v2 := M 1 4) (rl := rOrd (M 1) d (cntO b w) (u1 (u1 (u1 (M 4) 0 a) 1 b) 2 w)) hsf (ob_ln (a := a) (b := b) (e := w) hO) rfl hM k20_ord (Int.le_refl T) h0 (fun q => d_ord hO.1 q rfl rfl rfl)
  refine ⟨r, h1, _, _, e1, f1, f2, ⟨_, rfl⟩, fun h1' F => ?_⟩
  obtain ⟨g1, g2⟩ := f3 h1' F
  obtain ⟨r2, h2, e2, e3, e4⟩ := S_X8_order_ (E := E) (h := h1') (am := x + 444) (M := M) hO.1.2.1.1 hct d0 d1 a0 a1 b0 b1 w0 w1
  rw [← g1, e3, e4, ← rf_ord hO.1.1 hO.1.2.1] at e2
  exact ⟨_, e2, rfl, g2⟩
theorem P_plan (hR : RM T x h M) (h0 : 0 ≤ T) (y0 : -2147483648 ≤ y) (y1 : y < 2147483648) (z0 : -2147483648 ≤ z) (z1 : z < 2147483648) : Bo E T x h q_m_X7_plan q_m_X8_plan [.int (zi y), .int (zi z)] [xUO] isI := by
  obtain ⟨hsf, l, ls, nx, ct, kl, n, c, hs, fa, kr, kd_, hC, hO⟩ := hR
  have hct : 0 ≤ M 0 4 ∧ M 0 4 ≤ 8 := by rw [← hO.2.1.2.1]; exact hO.2.1.2.2.1
  obtain ⟨r, h1, e1, PP, hG, hM⟩ := S_X7_plan (E := E) hC (st_rg hO.1) hO.2.1.1 hO.2.1.2.2.1 y0 y1 z0 z1
  have K := fun (M1 : q_Im) (mx : MX M M1) => p_mut (v2 := fwM (M 1) y z) (rl := rPln (M 1) y z) hsf (ob_5 (t := 0) (ob_mx hO mx)) rfl hM k20_pln (Int.le_refl T) h0 (fun q => d_pln hO.1 hG q)
  have hrf := rf_pln hO.1.1 hO.1.2.1 hG
  obtain ⟨f1, _, f3⟩ := K M ⟨rfl, rfl, rfl, rfl, rfl⟩
  have e5 (M1 : q_Im) : (mMu2 (uM M1 0 5 0) (rfPln l y z PP) (fwM (M 1) y z) (rPln (M 1) y z)).2 0 5 = if (rfPln l y z PP).1 = 0 then 0 else 1 := by
    unfold mMu2
    by_cases q : (rfPln l y z PP).1 = 0
    · rw [if_pos q, if_pos q]
      exact (mch_0 (M := uM M1 0 5 0) (k := 5) (by decide))
    · rw [if_neg q, if_neg q]
      rfl
  have e6 (M1 : q_Im) : (mMu2 (uM M1 0 5 0) (rfPln l y z PP) (fwM (M 1) y z) (rPln (M 1) y z)).1 = if (rfPln l y z PP).1 = 0 then fwM (M 1) y z else 0 := by
    unfold mMu2
    by_cases q : (rfPln l y z PP).1 = 0
    · rw [if_pos q, if_pos q]
    · rw [if_neg q, if_neg q]
  obtain ⟨_, f2, _⟩ := K M ⟨rfl, rfl, rfl, rfl, rfl⟩
  rw [e5, e6] at f2
  refine ⟨r, h1, _, _, e1, f1, f2, ⟨_, rfl⟩, fun h1' F => ?_⟩
  obtain ⟨g1, _⟩ := f3 h1' F
  obtain ⟨r2, h2, e2, M1, mx, e3, e4⟩ := S_X8_plan (E := E) (h := h1') (am := x + 444) (M := M) hO.1.2.1.1 hO.1.2.1.2.1 hct y0 y1 z0 z1
  rw [← g1, e3, e4, ← hrf] at e2
  obtain ⟨_, _, k3⟩ := K M1 mx
  obtain ⟨_, g2⟩ := k3 h1' F
  rw [← e6 M1]
  exact ⟨_, e2, e5 M1, g2⟩
theorem P_cell (hR : RM T x h M)  (y0 : -2147483648 ≤ y) (y1 : y < 2147483648) (z0 : -2147483648 ≤ z) (z1 : z < 2147483648) : Bo E T x h q_m_X7_cell q_m_X8_cell [.int (zi y), .int (zi z)] [xIO, xIA] isI := by
  obtain ⟨hsf, l, ls, nx, ct, kl, n, c, hs, fa, kr, kd_, hC, hO⟩ := hR
  have hct : 0 ≤ M 0 4 ∧ M 0 4 ≤ 8 := by rw [← hO.2.1.2.1]; exact hO.2.1.2.2.1
  obtain ⟨r, h1, e1, hM⟩ := S_X7_cell (E := E) hC (st_rg hO.1) hO.2.1.1 hO.2.1.2.2.1 y0 y1 z0 z1 
  obtain ⟨f1, f2, f3⟩ := p_rd (T := T) hsf hM (op_cell hO.1.1 hO.1.2.1)
  refine ⟨r, h1, _, _, e1, f1, f2, ⟨_, rfl⟩, fun h1' F => ?_⟩
  obtain ⟨g1, g2⟩ := f3 h1' F
  obtain ⟨r2, h2, e2, e3, e4⟩ := S_X8_cell (E := E) (h := h1') (am := x + 444) (M := M) hO.1.2.1.1 y0 y1 z0 z1
  rw [← g1, e3, e4] at e2
  exact ⟨_, e2, rfl, g2 _ (ob_5 hO)⟩
theorem P_letter (hR : RM T x h M) (hE : q_EN E N) (hLo : Lo h N) (hN : N ≤ x) (y0 : -2147483648 ≤ y) (y1 : y < 2147483648) : Bo E T x h q_m_X7_letter q_m_X8_letter [.int (zi y)] [xIO] isI := by
  obtain ⟨hsf, l, ls, nx, ct, kl, n, c, hs, fa, kr, kd_, hC, hO⟩ := hR
  have hct : 0 ≤ M 0 4 ∧ M 0 4 ≤ 8 := by rw [← hO.2.1.2.1]; exact hO.2.1.2.2.1
  obtain ⟨r, h1, e1, hM⟩ := S_X7_letter (E := E) hC (st_rg hO.1) hO.2.1.1 hO.2.1.2.2.1 y0 y1 hE hLo
  obtain ⟨f1, f2, f3⟩ := p_rd (T := T) hsf hM (op_let hO.1.1 hO.1.2.1)
  refine ⟨r, h1, _, _, e1, f1, f2, ⟨_, rfl⟩, fun h1' F => ?_⟩
  obtain ⟨g1, g2⟩ := f3 h1' F
  obtain ⟨r2, h2, e2, e3, e4⟩ := S_X8_letter (E := E) (h := h1') (am := x + 444) (M := M) hE (lo_2 hLo hN f1 F) (by omega) hO.1.2.1.1 y0 y1
  rw [← g1, e3, e4] at e2
  exact ⟨_, e2, rfl, g2 _ (ob_5 hO)⟩
theorem P_distance (hR : RM T x h M)  (y0 : -2147483648 ≤ y) (y1 : y < 2147483648) (z0 : -2147483648 ≤ z) (z1 : z < 2147483648) : Bo E T x h q_m_X7_distance q_m_X8_distance [.int (zi y), .int (zi z)] [xIO, xNS] isI := by
  obtain ⟨hsf, l, ls, nx, ct, kl, n, c, hs, fa, kr, kd_, hC, hO⟩ := hR
  have hct : 0 ≤ M 0 4 ∧ M 0 4 ≤ 8 := by rw [← hO.2.1.2.1]; exact hO.2.1.2.2.1
  obtain ⟨r, h1, e1, hM⟩ := S_X7_distance (E := E) hC (st_rg hO.1) hO.2.1.1 hO.2.1.2.2.1 y0 y1 z0 z1 
  obtain ⟨f1, f2, f3⟩ := p_rd (T := T) hsf hM (op_dis hO.1.1 hO.1.2.1)
  refine ⟨r, h1, _, _, e1, f1, f2, ⟨_, rfl⟩, fun h1' F => ?_⟩
  obtain ⟨g1, g2⟩ := f3 h1' F
  obtain ⟨r2, h2, e2, e3, M', e4, e5⟩ := S_X8_distance (E := E) (h := h1') (am := x + 444) (M := M) hO.1.2.1.1 hO.1.2.1.2.1 y0 y1 z0 z1
  rw [← g1, e3, e4] at e2
  exact ⟨_, e2, by rw [e5.1, u1_eq], g2 _ (ob_ms hO e5)⟩
theorem P_distanceAgain (hR : RM T x h M)  (y0 : -2147483648 ≤ y) (y1 : y < 2147483648) (z0 : -2147483648 ≤ z) (z1 : z < 2147483648) : Bo E T x h q_m_X7_distanceAgain q_m_X8_distanceAgain [.int (zi y), .int (zi z)] [xIO, xNS] isI := by
  obtain ⟨hsf, l, ls, nx, ct, kl, n, c, hs, fa, kr, kd_, hC, hO⟩ := hR
  have hct : 0 ≤ M 0 4 ∧ M 0 4 ≤ 8 := by rw [← hO.2.1.2.1]; exact hO.2.1.2.2.1
  obtain ⟨r, h1, e1, hM⟩ := S_X7_distanceAgain (E := E) hC (st_rg hO.1) hO.2.1.1 hO.2.1.2.2.1 y0 y1 z0 z1 
  obtain ⟨f1, f2, f3⟩ := p_rd (T := T) hsf hM (op_dag hO.1.1 hO.1.2.1)
  refine ⟨r, h1, _, _, e1, f1, f2, ⟨_, rfl⟩, fun h1' F => ?_⟩
  obtain ⟨g1, g2⟩ := f3 h1' F
  obtain ⟨r2, h2, e2, e3, M', e4, e5⟩ := S_X8_distanceAgain (E := E) (h := h1') (am := x + 444) (M := M) hO.1.2.1.1 hO.1.2.1.2.1 y0 y1 z0 z1
  rw [← g1, e3, e4] at e2
  exact ⟨_, e2, by rw [e5.1, u1_eq], g2 _ (ob_ms hO e5)⟩
theorem P_reach (hR : RM T x h M)  (y0 : -2147483648 ≤ y) (y1 : y < 2147483648) : Bo E T x h q_m_X7_reach q_m_X8_reach [.int (zi y)] [xIO] isI := by
  obtain ⟨hsf, l, ls, nx, ct, kl, n, c, hs, fa, kr, kd_, hC, hO⟩ := hR
  have hct : 0 ≤ M 0 4 ∧ M 0 4 ≤ 8 := by rw [← hO.2.1.2.1]; exact hO.2.1.2.2.1
  obtain ⟨r, h1, e1, hM⟩ := S_X7_reach (E := E) hC (st_rg hO.1) hO.2.1.1 hO.2.1.2.2.1 y0 y1 
  obtain ⟨f1, f2, f3⟩ := p_rd (T := T) hsf hM (op_rch hO.1.1 hO.1.2.1)
  refine ⟨r, h1, _, _, e1, f1, f2, ⟨_, rfl⟩, fun h1' F => ?_⟩
  obtain ⟨g1, g2⟩ := f3 h1' F
  obtain ⟨r2, h2, e2, e3, M', e4, e5⟩ := S_X8_reach (E := E) (h := h1') (am := x + 444) (M := M) hO.1.2.1.1 hO.1.2.1.2.1 y0 y1
  rw [← g1, e3, e4] at e2
  exact ⟨_, e2, by rw [e5.1, u1_eq], g2 _ (ob_ms hO e5)⟩
theorem P_farthest (hR : RM T x h M)  (y0 : -2147483648 ≤ y) (y1 : y < 2147483648) : Bo E T x h q_m_X7_farthest q_m_X8_farthest [.int (zi y)] [xIO] isI := by
  obtain ⟨hsf, l, ls, nx, ct, kl, n, c, hs, fa, kr, kd_, hC, hO⟩ := hR
  have hct : 0 ≤ M 0 4 ∧ M 0 4 ≤ 8 := by rw [← hO.2.1.2.1]; exact hO.2.1.2.2.1
  obtain ⟨r, h1, e1, hM⟩ := S_X7_farthest (E := E) hC (st_rg hO.1) hO.2.1.1 hO.2.1.2.2.1 y0 y1 
  obtain ⟨f1, f2, f3⟩ := p_rd (T := T) hsf hM (op_frt hO.1.1 hO.1.2.1)
  refine ⟨r, h1, _, _, e1, f1, f2, ⟨_, rfl⟩, fun h1' F => ?_⟩
  obtain ⟨g1, g2⟩ := f3 h1' F
  obtain ⟨r2, h2, e2, e3, M', e4, e5⟩ := S_X8_farthest (E := E) (h := h1') (am := x + 444) (M := M) hO.1.2.1.1 hO.1.2.1.2.1 y0 y1
  rw [← g1, e3, e4] at e2
  exact ⟨_, e2, by rw [e5.1, u1_eq], g2 _ (ob_ms hO e5)⟩
theorem P_robotOf (hR : RM T x h M)  (y0 : -2147483648 ≤ y) (y1 : y < 2147483648) (z0 : -2147483648 ≤ z) (z1 : z < 2147483648) : Bo E T x h q_m_X7_robotOf q_m_X8_robotOf [.int (zi y), .int (zi z)] [xIO, xIA] isI := by
  obtain ⟨hsf, l, ls, nx, ct, kl, n, c, hs, fa, kr, kd_, hC, hO⟩ := hR
  have hct : 0 ≤ M 0 4 ∧ M 0 4 ≤ 8 := by rw [← hO.2.1.2.1]; exact hO.2.1.2.2.1
  obtain ⟨r, h1, e1, hM⟩ := S_X7_robotOf (E := E) hC (st_rg hO.1) hO.2.1.1 hO.2.1.2.2.1 y0 y1 z0 z1 
  obtain ⟨f1, f2, f3⟩ := p_rd (T := T) hsf hM (op_rob hO.1.1 hO.1.2.1)
  refine ⟨r, h1, _, _, e1, f1, f2, ⟨_, rfl⟩, fun h1' F => ?_⟩
  obtain ⟨g1, g2⟩ := f3 h1' F
  obtain ⟨r2, h2, e2, e3, e4⟩ := S_X8_robotOf (E := E) (h := h1') (am := x + 444) (M := M) hO.1.2.1.1 y0 y1 z0 z1
  rw [← g1, e3, e4] at e2
  exact ⟨_, e2, rfl, g2 _ (ob_5 hO)⟩
theorem P_planned (hR : RM T x h M)  (y0 : -2147483648 ≤ y) (y1 : y < 2147483648) (z0 : -2147483648 ≤ z) (z1 : z < 2147483648) : Bo E T x h q_m_X7_planned q_m_X8_planned [.int (zi y), .int (zi z)] [xIO, xIA] isI := by
  obtain ⟨hsf, l, ls, nx, ct, kl, n, c, hs, fa, kr, kd_, hC, hO⟩ := hR
  have hct : 0 ≤ M 0 4 ∧ M 0 4 ≤ 8 := by rw [← hO.2.1.2.1]; exact hO.2.1.2.2.1
  obtain ⟨r, h1, e1, hM⟩ := S_X7_planned (E := E) hC (st_rg hO.1) hO.2.1.1 hO.2.1.2.2.1 y0 y1 z0 z1 
  obtain ⟨f1, f2, f3⟩ := p_rd (T := T) hsf hM (op_pla hO.1.1 hO.1.2.1)
  refine ⟨r, h1, _, _, e1, f1, f2, ⟨_, rfl⟩, fun h1' F => ?_⟩
  obtain ⟨g1, g2⟩ := f3 h1' F
  obtain ⟨r2, h2, e2, e3, e4⟩ := S_X8_planned (E := E) (h := h1') (am := x + 444) (M := M) hO.1.2.1.1 y0 y1 z0 z1
  rw [← g1, e3, e4] at e2
  exact ⟨_, e2, rfl, g2 _ (ob_5 hO)⟩
theorem P_reserved (hR : RM T x h M)  (y0 : -2147483648 ≤ y) (y1 : y < 2147483648) (z0 : -2147483648 ≤ z) (z1 : z < 2147483648) : Bo E T x h q_m_X7_reserved q_m_X8_reserved [.int (zi y), .int (zi z)] [xIO, xIA] isI := by
  obtain ⟨hsf, l, ls, nx, ct, kl, n, c, hs, fa, kr, kd_, hC, hO⟩ := hR
  have hct : 0 ≤ M 0 4 ∧ M 0 4 ≤ 8 := by rw [← hO.2.1.2.1]; exact hO.2.1.2.2.1
  obtain ⟨r, h1, e1, hM⟩ := S_X7_reserved (E := E) hC (st_rg hO.1) hO.2.1.1 hO.2.1.2.2.1 y0 y1 z0 z1 
  obtain ⟨f1, f2, f3⟩ := p_rd (T := T) hsf hM (op_res hO.1.1 hO.1.2.1)
  refine ⟨r, h1, _, _, e1, f1, f2, ⟨_, rfl⟩, fun h1' F => ?_⟩
  obtain ⟨g1, g2⟩ := f3 h1' F
  obtain ⟨r2, h2, e2, e3, e4⟩ := S_X8_reserved (E := E) (h := h1') (am := x + 444) (M := M) hO.1.2.1.1 y0 y1 z0 z1
  rw [← g1, e3, e4] at e2
  exact ⟨_, e2, rfl, g2 _ (ob_5 hO)⟩
theorem P_arrival (hR : RM T x h M)  (y0 : -2147483648 ≤ y) (y1 : y < 2147483648) (z0 : -2147483648 ≤ z) (z1 : z < 2147483648) : Bo E T x h q_m_X7_arrival q_m_X8_arrival [.int (zi y), .int (zi z)] [xIO, xNS] isI := by
  obtain ⟨hsf, l, ls, nx, ct, kl, n, c, hs, fa, kr, kd_, hC, hO⟩ := hR
  have hct : 0 ≤ M 0 4 ∧ M 0 4 ≤ 8 := by rw [← hO.2.1.2.1]; exact hO.2.1.2.2.1
  obtain ⟨r, h1, e1, hM⟩ := S_X7_arrival (E := E) hC (st_rg hO.1) hO.2.1.1 hO.2.1.2.2.1 y0 y1 z0 z1 
  obtain ⟨f1, f2, f3⟩ := p_rd (T := T) hsf hM (op_arr hO.1.1 hO.1.2.1)
  refine ⟨r, h1, _, _, e1, f1, f2, ⟨_, rfl⟩, fun h1' F => ?_⟩
  obtain ⟨g1, g2⟩ := f3 h1' F
  obtain ⟨r2, h2, e2, e3, M', e4, e5⟩ := S_X8_arrival (E := E) (h := h1') (am := x + 444) (M := M) hO.1.2.1.1 hO.1.2.1.2.1 y0 y1 z0 z1
  rw [← g1, e3, e4] at e2
  exact ⟨_, e2, by rw [e5.1, u1_eq], g2 _ (ob_ms hO e5)⟩
theorem P_arrivalAgain (hR : RM T x h M)  (y0 : -2147483648 ≤ y) (y1 : y < 2147483648) (z0 : -2147483648 ≤ z) (z1 : z < 2147483648) : Bo E T x h q_m_X7_arrivalAgain q_m_X8_arrivalAgain [.int (zi y), .int (zi z)] [xIO, xNS] isI := by
  obtain ⟨hsf, l, ls, nx, ct, kl, n, c, hs, fa, kr, kd_, hC, hO⟩ := hR
  have hct : 0 ≤ M 0 4 ∧ M 0 4 ≤ 8 := by rw [← hO.2.1.2.1]; exact hO.2.1.2.2.1
  obtain ⟨r, h1, e1, hM⟩ := S_X7_arrivalAgain (E := E) hC (st_rg hO.1) hO.2.1.1 hO.2.1.2.2.1 y0 y1 z0 z1 
  obtain ⟨f1, f2, f3⟩ := p_rd (T := T) hsf hM (op_arr hO.1.1 hO.1.2.1)
  refine ⟨r, h1, _, _, e1, f1, f2, ⟨_, rfl⟩, fun h1' F => ?_⟩
  obtain ⟨g1, g2⟩ := f3 h1' F
  obtain ⟨r2, h2, e2, e3, M', e4, e5⟩ := S_X8_arrivalAgain (E := E) (h := h1') (am := x + 444) (M := M) hO.1.2.1.1 hO.1.2.1.2.1 y0 y1 z0 z1
  rw [← g1, e3, e4] at e2
  exact ⟨_, e2, by rw [e5.1, u1_eq], g2 _ (ob_ms hO e5)⟩
theorem P_orderOf (hR : RM T x h M)  (y0 : -2147483648 ≤ y) (y1 : y < 2147483648) (z0 : -2147483648 ≤ z) (z1 : z < 2147483648) : Bo E T x h q_m_X7_orderOf q_m_X8_orderOf [.int (zi y), .int (zi z)] [xIO, xIA] isI := by
  obtain ⟨hsf, l, ls, nx, ct, kl, n, c, hs, fa, kr, kd_, hC, hO⟩ := hR
  have hct : 0 ≤ M 0 4 ∧ M 0 4 ≤ 8 := by rw [← hO.2.1.2.1]; exact hO.2.1.2.2.1
  obtain ⟨r, h1, e1, hM⟩ := S_X7_orderOf (E := E) hC (st_rg hO.1) hO.2.1.1 hO.2.1.2.2.1 y0 y1 z0 z1 
  obtain ⟨f1, f2, f3⟩ := p_rd (T := T) hsf hM (op_ord hO.1.1 hO.1.2.1)
  refine ⟨r, h1, _, _, e1, f1, f2, ⟨_, rfl⟩, fun h1' F => ?_⟩
  obtain ⟨g1, g2⟩ := f3 h1' F
  obtain ⟨r2, h2, e2, e3, e4⟩ := S_X8_orderOf (E := E) (h := h1') (am := x + 444) (M := M) hO.1.2.1.1 y0 y1 z0 z1
  rw [← g1, e3, e4] at e2
  exact ⟨_, e2, rfl, g2 _ (ob_5 hO)⟩
theorem P_line (hR : RM T x h M)  (y0 : -2147483648 ≤ y) (y1 : y < 2147483648) (z0 : -2147483648 ≤ z) (z1 : z < 2147483648) : Bo E T x h q_m_X7_line q_m_X8_line [.int (zi y), .int (zi z)] [xIO] isI := by
  obtain ⟨hsf, l, ls, nx, ct, kl, n, c, hs, fa, kr, kd_, hC, hO⟩ := hR
  have hct : 0 ≤ M 0 4 ∧ M 0 4 ≤ 8 := by rw [← hO.2.1.2.1]; exact hO.2.1.2.2.1
  obtain ⟨r, h1, e1, hM⟩ := S_X7_line (E := E) hC (st_rg hO.1) hO.2.1.1 hO.2.1.2.2.1 y0 y1 z0 z1 
  obtain ⟨f1, f2, f3⟩ := p_rd (T := T) hsf hM (op_lin hO.1.1 hO.1.2.1)
  refine ⟨r, h1, _, _, e1, f1, f2, ⟨_, rfl⟩, fun h1' F => ?_⟩
  obtain ⟨g1, g2⟩ := f3 h1' F
  obtain ⟨r2, h2, e2, e3, e4⟩ := S_X8_line (E := E) (h := h1') (am := x + 444) (M := M) hO.1.2.1.1 y0 y1 z0 z1
  rw [← g1, e3, e4] at e2
  exact ⟨_, e2, rfl, g2 _ (ob_5 hO)⟩
theorem P_waiting (hR : RM T x h M)  (y0 : -2147483648 ≤ y) (y1 : y < 2147483648) : Bo E T x h q_m_X7_waiting q_m_X8_waiting [.int (zi y)] [xNS] isI := by
  obtain ⟨hsf, l, ls, nx, ct, kl, n, c, hs, fa, kr, kd_, hC, hO⟩ := hR
  have hct : 0 ≤ M 0 4 ∧ M 0 4 ≤ 8 := by rw [← hO.2.1.2.1]; exact hO.2.1.2.2.1
  obtain ⟨r, h1, e1, hM⟩ := S_X7_waiting (E := E) hC (st_rg hO.1) hO.2.1.1 hO.2.1.2.2.1 y0 y1 
  obtain ⟨f1, f2, f3⟩ := p_rd (T := T) hsf hM (op_wai hO.1.1 hO.1.2.1)
  refine ⟨r, h1, _, _, e1, f1, f2, ⟨_, rfl⟩, fun h1' F => ?_⟩
  obtain ⟨g1, g2⟩ := f3 h1' F
  obtain ⟨r2, h2, e2, e3, e4⟩ := S_X8_waiting (E := E) (h := h1') (am := x + 444) (M := M) hO.1.2.1.1 y0 y1
  rw [← g1, e3, e4] at e2
  exact ⟨_, e2, rfl, g2 _ (ob_5 hO)⟩
theorem P_suited (hR : RM T x h M)  (y0 : -2147483648 ≤ y) (y1 : y < 2147483648) : Bo E T x h q_m_X7_suited q_m_X8_suited [.int (zi y)] [xIO, xNS] isI := by
  obtain ⟨hsf, l, ls, nx, ct, kl, n, c, hs, fa, kr, kd_, hC, hO⟩ := hR
  have hct : 0 ≤ M 0 4 ∧ M 0 4 ≤ 8 := by rw [← hO.2.1.2.1]; exact hO.2.1.2.2.1
  obtain ⟨r, h1, e1, hM⟩ := S_X7_suited (E := E) hC (st_rg hO.1) hO.2.1.1 hO.2.1.2.2.1 y0 y1 
  obtain ⟨f1, f2, f3⟩ := p_rd (T := T) hsf hM (op_sui hO.1.1 hO.1.2.1)
  refine ⟨r, h1, _, _, e1, f1, f2, ⟨_, rfl⟩, fun h1' F => ?_⟩
  obtain ⟨g1, g2⟩ := f3 h1' F
  obtain ⟨r2, h2, e2, e3, M', e4, e5⟩ := S_X8_suited (E := E) (h := h1') (am := x + 444) (M := M) hO.1.2.1.1 hO.1.2.1.2.1 y0 y1
  rw [← g1, e3, e4] at e2
  exact ⟨_, e2, by rw [e5.1, u1_eq], g2 _ (ob_ms hO e5)⟩
theorem P_tour (hR : RM T x h M)  (y0 : -2147483648 ≤ y) (y1 : y < 2147483648) : Bo E T x h q_m_X7_tour q_m_X8_tour [.int (zi y)] [xIO, xNS] isI := by
  obtain ⟨hsf, l, ls, nx, ct, kl, n, c, hs, fa, kr, kd_, hC, hO⟩ := hR
  have hct : 0 ≤ M 0 4 ∧ M 0 4 ≤ 8 := by rw [← hO.2.1.2.1]; exact hO.2.1.2.2.1
  obtain ⟨r, h1, e1, hM⟩ := S_X7_tour (E := E) hC (st_rg hO.1) hO.2.1.1 hO.2.1.2.2.1 y0 y1 
  obtain ⟨f1, f2, f3⟩ := p_rd (T := T) hsf hM (op_tou hO.1.1 hO.1.2.1)
  refine ⟨r, h1, _, _, e1, f1, f2, ⟨_, rfl⟩, fun h1' F => ?_⟩
  obtain ⟨g1, g2⟩ := f3 h1' F
  obtain ⟨r2, h2, e2, e3, M', e4, e5⟩ := S_X8_tour (E := E) (h := h1') (am := x + 444) (M := M) hO.1.2.1.1 hO.1.2.1.2.1 y0 y1
  rw [← g1, e3, e4] at e2
  exact ⟨_, e2, by rw [e5.1, u1_eq], g2 _ (ob_ms hO e5)⟩
theorem P_reason (hR : RM T x h M)  (y0 : -2147483648 ≤ y) (y1 : y < 2147483648) : Bo E T x h q_m_X7_reason q_m_X8_reason [.int (zi y)] [xNS] isI := by
  obtain ⟨hsf, l, ls, nx, ct, kl, n, c, hs, fa, kr, kd_, hC, hO⟩ := hR
  have hct : 0 ≤ M 0 4 ∧ M 0 4 ≤ 8 := by rw [← hO.2.1.2.1]; exact hO.2.1.2.2.1
  obtain ⟨k1, k2, k3⟩ := hO.2.2.2.2.2
  have hk : -1000000 ≤ M 0 6 ∧ M 0 6 ≤ 1000000 := by
    by_cases q : M 0 6 = 0
    · omega
    · have := (k2 q).1; omega
  obtain ⟨r, h1, e1, hM⟩ := S_X7_reason (E := E) hC (st_rg hO.1) hO.2.1.1 hO.2.1.2.2.1 y0 y1 k3
  obtain ⟨f1, f2, f3⟩ := p_rd (T := T) hsf hM (op_rea k1 k2)
  refine ⟨r, h1, _, _, e1, f1, f2, ⟨_, rfl⟩, fun h1' F => ?_⟩
  obtain ⟨g1, g2⟩ := f3 h1' F
  obtain ⟨r2, h2, e2, e3, e4⟩ := S_X8_reason (E := E) (h := h1') (am := x + 444) (M := M) hk y0 y1
  rw [← g1, e3, e4] at e2
  exact ⟨_, e2, rfl, g2 _ (ob_5 hO)⟩
theorem P_account (hR : RM T x h M)  (y0 : -2147483648 ≤ y) (y1 : y < 2147483648) : Bo E T x h q_m_X7_account q_m_X8_account [.int (zi y)] [xIA] isI := by
  obtain ⟨hsf, l, ls, nx, ct, kl, n, c, hs, fa, kr, kd_, hC, hO⟩ := hR
  have hct : 0 ≤ M 0 4 ∧ M 0 4 ≤ 8 := by rw [← hO.2.1.2.1]; exact hO.2.1.2.2.1
  obtain ⟨r, h1, e1, hM⟩ := S_X7_account (E := E) hC (st_rg hO.1) hO.2.1.1 hO.2.1.2.2.1 y0 y1 
  obtain ⟨f1, f2, f3⟩ := p_rd (T := T) hsf hM (op_acc hO.1.1 hO.1.2.1 hO.2.1.2.1 hO.2.2.2.1.1)
  refine ⟨r, h1, _, _, e1, f1, f2, ⟨_, rfl⟩, fun h1' F => ?_⟩
  obtain ⟨g1, g2⟩ := f3 h1' F
  obtain ⟨r2, h2, e2, e3, e4⟩ := S_X8_account (E := E) (h := h1') (am := x + 444) (M := M) hO.1.2.1.1 y0 y1
  rw [← g1, e3, e4] at e2
  exact ⟨_, e2, rfl, g2 _ (ob_5 hO)⟩
theorem ldM_ok {m : Int → Int} (h : Iv m) : (ldM m).2 &&& 0x7fffffff ≤ 0x7f800000 := by
  have g3 := (iv_c h).2.2.2.1
  unfold ldM
  by_cases q : m 3 = 0
  · rw [if_pos q]
    show FP.fconst0 &&& 0x7fffffff ≤ 0x7f800000
    decide +kernel
  · rw [if_neg q]
    exact fdiv_ok (by omega) (by omega)
theorem lpI_ub {f : Int → Int → Int} : ∀ (n : Nat) (k x : Int), (∀ i y, f i y ≤ y + 1) → lpI f n k x ≤ x + n
  | 0, k, x, _ => by
    show x ≤ x + 0
    omega
  | n + 1, k, x, h => by
    have h1 := lpI_ub n (k + 1) (f k x) h
    have h2 := h k x
    show lpI f n (k + 1) (f k x) ≤ x + (n + 1 : Nat)
    omega
theorem ltM_ok {m : Int → Int} (h : Iv m) : (ltM m).2 &&& 0x7fffffffffffffff ≤ 0x7ff0000000000000 := by
  have g4 := (iv_c h).2.2.2.2.1
  have hb : 0 ≤ mlc m ∧ mlc m ≤ 0 + ((m 4).toNat : Int) := by
    unfold mlc
    refine ⟨lpI_nn _ _ _ fun i y a b => ?_, lpI_ub _ _ _ fun i y => ?_⟩
    · show y ≤ if sto m i = 2 then y + 1 else y
      split <;> omega
    · show (if sto m i = 2 then y + 1 else y) ≤ y + 1
      split <;> omega
  unfold ltM
  by_cases q : mlc m = 0
  · rw [if_pos q]
    show FP.dconst0 &&& 0x7fffffffffffffff ≤ 0x7ff0000000000000
    decide +kernel
  · rw [if_neg q]
    exact ddiv_ok (by omega) (by omega)
theorem P_loaded (hR : RM T x h M)   : Bo E T x h q_m_X7_loaded q_m_X8_loaded [] [xAE] isF := by
  obtain ⟨hsf, l, ls, nx, ct, kl, n, c, hs, fa, kr, kd_, hC, hO⟩ := hR
  have hct : 0 ≤ M 0 4 ∧ M 0 4 ≤ 8 := by rw [← hO.2.1.2.1]; exact hO.2.1.2.2.1
  obtain ⟨r, h1, e1, hM⟩ := S_X7_loaded (E := E) hC (st_rg hO.1) hO.2.1.1 hO.2.1.2.2.1  
  obtain ⟨f1, f2, f3⟩ := p_rv (T := T) hsf hC hM (op_ldd hO.1.1 hO.1.2.1)
  refine ⟨r, h1, _, _, e1, f1, f2, ⟨_, rfl, ldM_ok hO.1.2.1⟩, fun h1' F => ?_⟩
  obtain ⟨g1, g2⟩ := f3 h1' F
  obtain ⟨r2, h2, e2, e3, e4⟩ := S_X8_loaded (E := E) (h := h1') (am := x + 444) (M := M) hO.1.2.1.1 
  rw [← g1, e3, e4] at e2
  exact ⟨_, e2, rfl, g2 _ (ob_5 hO)⟩
theorem P_lateness (hR : RM T x h M)   : Bo E T x h q_m_X7_lateness q_m_X8_lateness [] [xAE] isD := by
  obtain ⟨hsf, l, ls, nx, ct, kl, n, c, hs, fa, kr, kd_, hC, hO⟩ := hR
  have hct : 0 ≤ M 0 4 ∧ M 0 4 ≤ 8 := by rw [← hO.2.1.2.1]; exact hO.2.1.2.2.1
  obtain ⟨r, h1, e1, hM⟩ := S_X7_lateness (E := E) hC (st_rg hO.1) hO.2.1.1 hO.2.1.2.2.1  
  obtain ⟨f1, f2, f3⟩ := p_rv (T := T) hsf hC hM (op_lat hO.1.1 hO.1.2.1)
  refine ⟨r, h1, _, _, e1, f1, f2, ⟨_, rfl, ltM_ok hO.1.2.1⟩, fun h1' F => ?_⟩
  obtain ⟨g1, g2⟩ := f3 h1' F
  obtain ⟨r2, h2, e2, e3, e4⟩ := S_X8_lateness (E := E) (h := h1') (am := x + 444) (M := M) hO.1.2.1.1 
  rw [← g1, e3, e4] at e2
  exact ⟨_, e2, rfl, g2 _ (ob_5 hO)⟩
theorem P_faultPosition (hR : RM T x h M) : Bo E T x h q_m_X7_faultPosition q_m_X8_faultPosition [] [] isI := by
  obtain ⟨hsf, l, ls, nx, ct, kl, n, c, hs, fa, kr, kd_, hC, hO⟩ := hR
  have hct : 0 ≤ M 0 4 ∧ M 0 4 ≤ 8 := by rw [← hO.2.1.2.1]; exact hO.2.1.2.2.1
  have e1 := S_X7_faultPosition (E := E) hC
  have hF : Fr x 444 h h := fr_rf
  refine ⟨_, h, 0, _, e1, fw_fr hF, .inl ⟨rfl, rfl⟩, ⟨_, rfl⟩, fun h1' F => ?_⟩
  have g1 := self_fr hsf (fun a _ _ => hF.2 a (by omega)) F
  obtain ⟨r2, h2, e2, e3, e4⟩ := S_X8_faultPosition (E := E) (h := h1') (am := x + 444) (M := M)
  rw [← g1, e3, e4, ← hO.2.2.2.2.1] at e2
  exact ⟨_, e2, rfl, rm_of hC F (ob_5 hO)⟩
theorem P_save (hR : RM T x h M) : Bo E T x h q_m_X7_save q_m_X8_save [] [] isI := by
  obtain ⟨hsf, l, ls, nx, ct, kl, n, c, hs, fa, kr, kd_, hC, hO⟩ := hR
  have hct : 0 ≤ M 0 4 ∧ M 0 4 ≤ 8 := by rw [← hO.2.1.2.1]; exact hO.2.1.2.2.1
  obtain ⟨r, h1, e1, ls', k1, k2, k3, k4⟩ := S_X7_save (E := E) hC (st_rg hO.1) hO.2.1.1 hO.2.1.2.2.1
  refine ⟨r, h1, 0, _, e1, fw_fr k4, .inl ⟨rfl, k2⟩, ⟨_, rfl⟩, fun h1' F => ?_⟩
  have g1 := self_fr hsf (fun a _ _ => k4.2 a (by omega)) F
  obtain ⟨r2, h2, e2, e3, e4⟩ := S_X8_save (E := E) (h := h1') (am := x + 444) (M := M)
  rw [← g1, e3, e4, ← sm_3 hO.1.1] at e2
  exact ⟨_, e2, rfl, rm_of k3 F (ob_sav hO k1)⟩
theorem P_restore (hR : RM T x h M) : Bo E T x h q_m_X7_restore q_m_X8_restore [] [xIS] isI := by
  obtain ⟨hsf, l, ls, nx, ct, kl, n, c, hs, fa, kr, kd_, hC, hO⟩ := hR
  have hct : 0 ≤ M 0 4 ∧ M 0 4 ≤ 8 := by rw [← hO.2.1.2.1]; exact hO.2.1.2.2.1
  have hv := hO.2.2.1
  have hv1 := hv.1
  have hv2 := hv.2.1
  have hs0 : 0 ≤ M 0 2 ∧ M 0 2 ≤ 1 := by rw [← hv.1]; exact hv.2.1
  obtain ⟨r, h1, e1, hM⟩ := S_X7_restore (E := E) hC (st_rg hO.1) hO.2.1.1 hO.2.1.2.2.1 (fun q => kp_rg (hv.2.2 (by omega))) hv.2.1
  rcases hM with ⟨q, l', k1, k2, k3, k4⟩ | ⟨q, k2, k3⟩
  · obtain ⟨o1, o2, o3⟩ := ob_res hO q k1
    refine ⟨r, h1, 0, _, e1, fw_fr k4, .inl ⟨rfl, k2⟩, ⟨_, rfl⟩, fun h1' F => ?_⟩
    have g1 := self_fr hsf (fun a _ _ => k4.2 a (by omega)) F
    obtain ⟨r2, h2, e2, e3, e4⟩ := S_X8_restore (E := E) (h := h1') (am := x + 444) (M := M) hs0
    rw [← g1, e3, e4, if_neg (show ¬ M 0 2 = 0 by omega), o2] at e2
    exact ⟨_, e2, o3, rm_of k3 F o1⟩
  · obtain ⟨o1, o3⟩ := ob_re0 hO q
    rw [k3] at e1
    have hF : Fr x 444 h h := fr_rf
    refine ⟨r, thr_ h, 1, .int (zi 0), e1, fw_thr hF, .inr ⟨xIS, k2, by omega, rfl⟩, ⟨_, rfl⟩, fun h1' F => ?_⟩
    have g1 := self_fr (h1 := thr_ h) hsf (fun a _ _ => rfl) F
    obtain ⟨r2, h2, e2, e3, e4⟩ := S_X8_restore (E := E) (h := h1') (am := x + 444) (M := M) hs0
    rw [← g1, e3, e4, if_pos (show M 0 2 = 0 by omega)] at e2
    exact ⟨_, e2, o3, rm_of (ca_thr hC) F o1⟩
theorem P_undo (hR : RM T x h M) : Bo E T x h q_m_X7_undo q_m_X8_undo [] [xIS] isI := by
  obtain ⟨hsf, l, ls, nx, ct, kl, n, c, hs, fa, kr, kd_, hC, hO⟩ := hR
  have hct : 0 ≤ M 0 4 ∧ M 0 4 ≤ 8 := by rw [← hO.2.1.2.1]; exact hO.2.1.2.2.1
  obtain ⟨u1_, u2, u3, u4⟩ := hO.2.1
  have r0 : rix nx 0 = pvx nx := by unfold rix pvx; split <;> split <;> omega
  obtain ⟨r, h1, e1, hM⟩ := S_X7_undo (E := E) hC (st_rg hO.1) hO.2.1.1 hO.2.1.2.2.1 (fun q => by rw [← r0]; exact kp_rg (u4 0 (by omega) q))
  rcases hM with ⟨q, l', k1, k2, k3, k4⟩ | ⟨q, k2, k3⟩
  · obtain ⟨o1, o3⟩ := ob_und hO q k1
    refine ⟨r, h1, 0, _, e1, fw_fr k4, .inl ⟨rfl, k2⟩, ⟨_, rfl⟩, fun h1' F => ?_⟩
    have g1 := self_fr hsf (fun a _ _ => k4.2 a (by omega)) F
    obtain ⟨r2, h2, e2, e3, e4⟩ := S_X8_undo (E := E) (h := h1') (am := x + 444) (M := M) hct
    rw [← g1, e3, e4, if_neg (show ¬ M 0 4 = 0 by omega), ← u2] at e2
    exact ⟨_, e2, o3, rm_of k3 F o1⟩
  · obtain ⟨o1, o3⟩ := ob_un0 hO q
    rw [k3] at e1
    have hF : Fr x 444 h h := fr_rf
    refine ⟨r, thr_ h, 1, .int (zi 0), e1, fw_thr hF, .inr ⟨xIS, k2, by omega, rfl⟩, ⟨_, rfl⟩, fun h1' F => ?_⟩
    have g1 := self_fr (h1 := thr_ h) hsf (fun a _ _ => rfl) F
    obtain ⟨r2, h2, e2, e3, e4⟩ := S_X8_undo (E := E) (h := h1') (am := x + 444) (M := M) hct
    rw [← g1, e3, e4, if_pos (show M 0 4 = 0 by omega)] at e2
    exact ⟨_, e2, o3, rm_of (ca_thr hC) F o1⟩
theorem P_append (hR : RM T x h M) (hy : 0 ≤ y ∧ y < 65536) : Bo E T x h q_m_X7_append q_m_X8_append [.int (zi y)] [xIS] isI := by
  obtain ⟨hsf, l, ls, nx, ct, kl, n, c, hs, fa, kr, kd_, hC, hO⟩ := hR
  have hct : 0 ≤ M 0 4 ∧ M 0 4 ≤ 8 := by rw [← hO.2.1.2.1]; exact hO.2.1.2.2.1
  obtain ⟨i1, i2, i3, i4⟩ := hO.2.2.2.1
  have hn : 0 ≤ M 0 16 ∧ M 0 16 ≤ 60 := by rw [← i1]; exact i2
  obtain ⟨r, h1, e1, hM⟩ := S_X7_append (E := E) hC (st_rg hO.1) hO.2.1.1 hO.2.1.2.2.1 i2 hy
  rcases hM with ⟨q, k2, k3, k4⟩ | ⟨q, k2, k3⟩
  · obtain ⟨o1, o3⟩ := ob_app hO q hy
    refine ⟨r, h1, 0, _, e1, fw_fr k4, .inl ⟨rfl, k2⟩, ⟨_, rfl⟩, fun h1' F => ?_⟩
    have g1 := self_fr hsf (fun a _ _ => k4.2 a (by omega)) F
    obtain ⟨r2, h2, e2, e3, e4⟩ := S_X8_append (E := E) (h := h1') (am := x + 444) (M := M) hn hy
    rw [← g1, e3, e4, if_neg (show ¬ M 0 16 = 60 by omega), ← i1] at e2
    exact ⟨_, e2, o3, rm_of k3 F o1⟩
  · obtain ⟨o1, o3⟩ := ob_ap0 (y := y) hO q
    rw [k3] at e1
    have hF : Fr x 444 h h := fr_rf
    refine ⟨r, thr_ h, 1, .int (zi 0), e1, fw_thr hF, .inr ⟨xIS, k2, by omega, rfl⟩, ⟨_, rfl⟩, fun h1' F => ?_⟩
    have g1 := self_fr (h1 := thr_ h) hsf (fun a _ _ => rfl) F
    obtain ⟨r2, h2, e2, e3, e4⟩ := S_X8_append (E := E) (h := h1') (am := x + 444) (M := M) hn hy
    rw [← g1, e3, e4, if_pos (show M 0 16 = 60 by omega)] at e2
    exact ⟨_, e2, o3, rm_of (ca_thr hC) F o1⟩
theorem P_layout (hR : RM T x h M) (h0 : 0 ≤ T) (hE : q_EN E N) (hLo : Lo h N) (hN : N ≤ x) : Bo E T x h q_m_X7_layout q_m_X8_layout [] [xIA] isI := by
  obtain ⟨hsf, l, ls, nx, ct, kl, n, c, hs, fa, kr, kd_, hC, hO⟩ := hR
  have hct : 0 ≤ M 0 4 ∧ M 0 4 ≤ 8 := by rw [← hO.2.1.2.1]; exact hO.2.1.2.2.1
  obtain ⟨i1, i2, i3, i4⟩ := hO.2.2.2.1
  have hn : 0 ≤ M 0 16 ∧ M 0 16 ≤ 60 := by rw [← i1]; exact i2
  obtain ⟨r, h1, e1, hM⟩ := S_X7_layout (E := E) hC (st_rg hO.1) hO.2.1.1 hO.2.1.2.2.1 i2 hE hLo hN (fun i a b => by rw [i3 i a b]; exact i4 i a (by omega))
  rcases hM with ⟨q, k2, _, nx', ct', kl', hP, k3, k4⟩ | ⟨q, k2, g, k3, k4, k5⟩
  · obtain ⟨o1, o2, o3⟩ := ob_lay0 hO q h0 hP
    refine ⟨r, h1, 0, _, e1, fw_fr k4, .inl ⟨rfl, k2⟩, ⟨_, rfl⟩, fun h1' F => ?_⟩
    have g1 := self_fr hsf (fun a _ _ => k4.2 a (by omega)) F
    obtain ⟨r2, h2, e2, e3, e4⟩ := S_X8_layout (E := E) (h := h1') (am := x + 444) (M := M) hE (lo_2 hLo hN (fw_fr k4) F) (by omega) hO.1.2.1.1 hct hn i4
    rw [← g1, e3, e4, o3] at e2
    exact ⟨_, e2, o2, rm_of k3 F o1⟩
  · obtain ⟨o1, o3⟩ := ob_lay1 hO q
    rw [k5] at e1
    have ev : (layM M).1 = 0 := by
      have hr := wpW_r (q := M 11) i2
      obtain ⟨s1, _⟩ := st_lay hO.1 i2 i3
      have em : layM M = (0, layO M 1) := if_pos (by rw [← i1]; omega)
      rw [em]
    refine ⟨r, thr_ g, 1, .int (zi 0), e1, fw_thr k4, .inr ⟨xIA, k2, by omega, rfl⟩, ⟨_, rfl⟩, fun h1' F => ?_⟩
    have g1 := self_fr (h1 := thr_ g) hsf (fun a _ _ => show g.1 a = h.1 a from k4.2 a (by omega)) F
    obtain ⟨r2, h2, e2, e3, e4⟩ := S_X8_layout (E := E) (h := h1') (am := x + 444) (M := M) hE (lo_2 hLo hN (fw_thr k4) F) (by omega) hO.1.2.1.1 hct hn i4
    rw [← g1, e3, e4, ev] at e2
    exact ⟨_, e2, o3, rm_of (ca_thr k3) F o1⟩
end TX_
