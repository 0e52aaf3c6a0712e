/-! what changes the object, as the law calls it (printed by program) -/
section E7
variable {E : q_E} {M : q_M} {h h' h0 : q_H} {x N b : Nat} {l l' ls c m : Int → Int} {kl : Int → Int → Int} {nx ct n hs fa kr kd_ k k' v y z r t i g w a e d T : Int} {vs : List Value} {rf : Int × Int} {PP : Int → Int}
/-- a change as the law sees it: done, or refused -/
def MuP (x : Nat) (l ls : Int → Int) (nx ct : Int) (kl : Int → Int → Int) (n : Int) (c : Int → Int) (hs fa kr kd_ : Int) (h0 : q_H) (k : Int) (rf : Int × Int) (v rv : Int) (l' : Int → Int) (o : Option (q_R × q_H)) : Prop :=
  (rf.1 = 0 ∧ ∃ h' nx' ct' kl', o = some (.inl (some (.int (zi v))), h') ∧ HP l nx ct kl nx' ct' kl' ∧ PX x (l') ls nx' (ct') kl' n c hs fa kr kd_ h0 (k) h') ∨
  (¬ rf.1 = 0 ∧ ∃ h', o = some (.inl (some (.int (zi rv))), h') ∧ PX x l ls nx ct kl n c hs fa rf.1 rf.2 h0 (k + 1) h')
theorem hp_r {kl' : Int → Int → Int} (H : HP l nx ct kl n k kl') (h1 : 0 ≤ nx ∧ nx < 8) (h2 : 0 ≤ ct ∧ ct ≤ 8) : (0 ≤ n ∧ n < 8) ∧ 0 ≤ k ∧ k ≤ 8 := by
  obtain ⟨e1, e2, _⟩ := H
  rw [e1]
  split <;> omega
theorem mut_px {mL : q_M} {rv : Int} (P : PX x l ls nx ct kl n c hs fa kr kd_ h0 (k) h) (H : ∃ r_ h', q_cl E M vs h = some (r_, h') ∧ Mut h x l ls nx ct kl n c hs fa kr kd_ rf v l' r_ h') (hl' : rf.1 = 0 → RgC l') (hk : K20 rf)
    (hr : ∀ h', q_cl E M vs h = some (.inl (some (.int (zi v))), h') → q_cl E mL vs h = some (.inl (some (.int (zi v))), h')) (hx : ∀ h', q_cl E M vs h = some (.inr xUO, h') → q_cl E mL vs h = some (.inl (some (.int (zi rv))), h')) : MuP x l ls nx ct kl n c hs fa kr kd_ h0 k rf v rv l' (q_cl E mL vs h) := by
  obtain ⟨r, h', e, D⟩ := H
  obtain ⟨⟨C, F⟩, hR, ⟨g1, g2, g3⟩, hL⟩ := P
  rcases D with ⟨d1, d2, nx', ct', kl', d3, d4, d5⟩ | ⟨d1, d2, h1, d3, d4, d5⟩
  · rw [d2] at e
    obtain ⟨q1, q2⟩ := hp_r d3 g1 g2
    exact Or.inl ⟨d1, h', nx', ct', kl', hr h' e, d3, ⟨d4, fy_mo (fy_tr F (fy_fr d5)) (by omega)⟩, hl' d1, ⟨q1, q2, g3⟩, hL⟩
  · rw [d2, d5] at e
    obtain ⟨q1, q2⟩ := hk
    exact Or.inr ⟨d1, thr_ h1, hx _ e, ⟨d3, fy_tr F (fy_th d4)⟩, hR, ⟨g1, g2, by omega, by omega⟩, hL⟩
theorem psV_r : ∀ (n : Nat) (T : Int) (l m : Int → Int) (d : Int), StR T l m → 0 ≤ T → T + n ≤ 98000 → d ≤ psV n l d ∧ psV n l d ≤ d + 6 * n
  | 0, T, l, m, d, h, _, _ => ⟨Int.le_refl _, by show d ≤ d + 6 * ((0 : Nat) : Int); omega⟩
  | n + 1, T, l, m, d, h, h0, h1 => by
    obtain ⟨s1, _⟩ := st_pasn 1 T l m 0 h h0 (by omega)
    have g := rg_r (st_rg h)
    have e := tkd_r (l 3).toNat 0 (u1 l 2 (l 2 + 1)) 0
    have ih := psV_r n (T + ((1 : Nat) : Int)) _ _ (d + tkd (l 3).toNat 0 (u1 l 2 (l 2 + 1)) 0) s1 (by omega) (by omega)
    show d ≤ psV n (tkr (l 3).toNat 0 (u1 l 2 (l 2 + 1))) (d + tkd (l 3).toNat 0 (u1 l 2 (l 2 + 1)) 0) ∧ psV n (tkr (l 3).toNat 0 (u1 l 2 (l 2 + 1))) (d + tkd (l 3).toNat 0 (u1 l 2 (l 2 + 1)) 0) ≤ d + 6 * ((n + 1 : Nat) : Int)
    have ih : d + tkd (l 3).toNat 0 (u1 l 2 (l 2 + 1)) 0 ≤ psV n (tkr (l 3).toNat 0 (u1 l 2 (l 2 + 1))) (d + tkd (l 3).toNat 0 (u1 l 2 (l 2 + 1)) 0) ∧ psV n (tkr (l 3).toNat 0 (u1 l 2 (l 2 + 1))) (d + tkd (l 3).toNat 0 (u1 l 2 (l 2 + 1)) 0) ≤ d + tkd (l 3).toNat 0 (u1 l 2 (l 2 + 1)) 0 + 6 * n := ih
    omega
theorem B_add (P : PX x l ls nx ct kl n c hs fa kr kd_ h0 (k) h) (hT : StR T l m)  (y0 : -2147483648 ≤ y) (y1 : y < 2147483648) (z0 : -2147483648 ≤ z) (z1 : z < 2147483648) : MuP x l ls nx ct kl n c hs fa kr kd_ h0 k  (rfAdd l y z) (l 3) (-1) (u1 (rset l (l 3) (bgn (rb l (l 3)) y z)) 3 (l 3 + 1)) (q_cl E q_m_L_add [.ref x, .int (zi y), .int (zi z)] h) ∧ ((rfAdd l y z).1 = 0 → ∃ m', StR T (u1 (rset l (l 3) (bgn (rb l (l 3)) y z)) 3 (l 3 + 1)) m') := by
  have D : (rfAdd l y z).1 = 0 → ∃ m', StR T (u1 (rset l (l 3) (bgn (rb l (l 3)) y z)) 3 (l 3 + 1)) m' := fun q => ⟨_, (d_add hT q).1⟩
  refine ⟨mut_px P (S_X7_add P.1.1 P.2.1 P.2.2.1.1 P.2.2.1.2.1 y0 y1 z0 z1) (fun q => ?_) k20_add (fun h' e => V_add_r (px_o P) e) (fun h' e => V_add_xUO (px_o P) e), D⟩
  obtain ⟨m', q⟩ := D q
  exact st_rg q
theorem B_takeOff (P : PX x l ls nx ct kl n c hs fa kr kd_ h0 (k) h) (hT : StR T l m)  (y0 : -2147483648 ≤ y) (y1 : y < 2147483648) : MuP x l ls nx ct kl n c hs fa kr kd_ h0 k  (rfTak l y) (l 3 - 1) (-1) (dro l y) (q_cl E q_m_L_takeOff [.ref x, .int (zi y)] h) ∧ ((rfTak l y).1 = 0 → ∃ m', StR T (dro l y) m') := by
  have D : (rfTak l y).1 = 0 → ∃ m', StR T (dro l y) m' := fun q => ⟨_, (d_tak hT q).1⟩
  refine ⟨mut_px P (S_X7_takeOff P.1.1 P.2.1 P.2.2.1.1 P.2.2.1.2.1 y0 y1) (fun q => ?_) k20_tak (fun h' e => V_takeOff_r (px_o P) e) (fun h' e => V_takeOff_xUO (px_o P) e), D⟩
  obtain ⟨m', q⟩ := D q
  exact st_rg q
theorem B_order (P : PX x l ls nx ct kl n c hs fa kr kd_ h0 (k) h) (hT : StR T l m)  (d0 : -2147483648 ≤ d) (d1 : d < 2147483648) (a0 : -2147483648 ≤ a) (a1 : a < 2147483648) (w0 : -2147483648 ≤ w) (w1 : w < 2147483648) (e0 : -2147483648 ≤ e) (e1 : e < 2147483648) : MuP x l ls nx ct kl n c hs fa kr kd_ h0 k  (rfOrd l d a w e) (l 4) (-1) (u1 (oset l (l 4) (obg (ob l (l 4)) d a w e)) 4 (l 4 + 1)) (q_cl E q_m_L_order [.ref x, .int (zi d), .int (zi a), .int (zi w), .int (zi e)] h) ∧ ((rfOrd l d a w e).1 = 0 → ∃ m', StR T (u1 (oset l (l 4) (obg (ob l (l 4)) d a w e)) 4 (l 4 + 1)) m') := by
  have D : (rfOrd l d a w e).1 = 0 → ∃ m', StR T (u1 (oset l (l 4) (obg (ob l (l 4)) d a w e)) 4 (l 4 + 1)) m' := fun q => ⟨_, (d_ord (W := fun i => if i = 0 then a else if i = 1 then w else e) hT q rfl rfl rfl).1⟩
  refine ⟨mut_px P (S_X7_order P.1.1 P.2.1 P.2.2.1.1 P.2.2.1.2.1 d0 d1 a0 a1 w0 w1 e0 e1) (fun q => ?_) k20_ord (fun h' e => V_order_r (px_o P) e) (fun h' e => V_order_xUO (px_o P) e), D⟩
  obtain ⟨m', q⟩ := D q
  exact st_rg q
theorem B_assign (P : PX x l ls nx ct kl n c hs fa kr kd_ h0 (k) h) (hT : StR T l m)  (y0 : -2147483648 ≤ y) (y1 : y < 2147483648) (z0 : -2147483648 ≤ z) (z1 : z < 2147483648) : MuP x l ls nx ct kl n c hs fa kr kd_ h0 k  (rfAsg l y z) (ob l z 1 - ob l z 2) (-1) (u1 l (104 + 36 * y + 2) z) (q_cl E q_m_L_assign [.ref x, .int (zi y), .int (zi z)] h) ∧ ((rfAsg l y z).1 = 0 → ∃ m', StR T (u1 l (104 + 36 * y + 2) z) m') := by
  have D : (rfAsg l y z).1 = 0 → ∃ m', StR T (u1 l (104 + 36 * y + 2) z) m' := fun q => ⟨_, (d_asg hT q).1⟩
  refine ⟨mut_px P (S_X7_assign P.1.1 P.2.1 P.2.2.1.1 P.2.2.1.2.1 y0 y1 z0 z1) (fun q => ?_) k20_asg (fun h' e => V_assign_r (px_o P) e) (fun h' e => V_assign_xUO (px_o P) e), D⟩
  obtain ⟨m', q⟩ := D q
  exact st_rg q
theorem B_release (P : PX x l ls nx ct kl n c hs fa kr kd_ h0 (k) h) (hT : StR T l m)  (y0 : -2147483648 ≤ y) (y1 : y < 2147483648) : MuP x l ls nx ct kl n c hs fa kr kd_ h0 k  (rfRel l y) (rb l y 2) (-2) (frl l y) (q_cl E q_m_L_release [.ref x, .int (zi y)] h) ∧ ((rfRel l y).1 = 0 → ∃ m', StR T (frl l y) m') := by
  have D : (rfRel l y).1 = 0 → ∃ m', StR T (frl l y) m' := fun q => ⟨_, (d_rel hT q).1⟩
  refine ⟨mut_px P (S_X7_release P.1.1 P.2.1 P.2.2.1.1 P.2.2.1.2.1 y0 y1) (fun q => ?_) k20_rel (fun h' e => V_release_r (px_o P) e) (fun h' e => V_release_xUO (px_o P) e), D⟩
  obtain ⟨m', q⟩ := D q
  exact st_rg q
theorem B_close (P : PX x l ls nx ct kl n c hs fa kr kd_ h0 (k) h) (hT : StR T l m)  (y0 : -2147483648 ≤ y) (y1 : y < 2147483648) : MuP x l ls nx ct kl n c hs fa kr kd_ h0 k  (rfClo l y) (ccl (u1 l (56 + y) 1)) (-1) (u1 l (56 + y) 1) (q_cl E q_m_L_close [.ref x, .int (zi y)] h) ∧ ((rfClo l y).1 = 0 → ∃ m', StR T (u1 l (56 + y) 1) m') := by
  have D : (rfClo l y).1 = 0 → ∃ m', StR T (u1 l (56 + y) 1) m' := fun q => ⟨_, (d_clo hT q).1⟩
  refine ⟨mut_px P (S_X7_close P.1.1 P.2.1 P.2.2.1.1 P.2.2.1.2.1 y0 y1) (fun q => ?_) k20_clo (fun h' e => V_close_r (px_o P) e) (fun h' e => V_close_xUO (px_o P) e), D⟩
  obtain ⟨m', q⟩ := D q
  exact st_rg q
theorem B_open (P : PX x l ls nx ct kl n c hs fa kr kd_ h0 (k) h) (hT : StR T l m)  (y0 : -2147483648 ≤ y) (y1 : y < 2147483648) : MuP x l ls nx ct kl n c hs fa kr kd_ h0 k  (rfOpn l y) (ccl (u1 l (56 + y) 0)) (-1) (u1 l (56 + y) 0) (q_cl E q_m_L_open [.ref x, .int (zi y)] h) ∧ ((rfOpn l y).1 = 0 → ∃ m', StR T (u1 l (56 + y) 0) m') := by
  have D : (rfOpn l y).1 = 0 → ∃ m', StR T (u1 l (56 + y) 0) m' := fun q => ⟨_, (d_opn hT q).1⟩
  refine ⟨mut_px P (S_X7_open P.1.1 P.2.1 P.2.2.1.1 P.2.2.1.2.1 y0 y1) (fun q => ?_) k20_opn (fun h' e => V_open_r (px_o P) e) (fun h' e => V_open_xUO (px_o P) e), D⟩
  obtain ⟨m', q⟩ := D q
  exact st_rg q
theorem B_cancel (P : PX x l ls nx ct kl n c hs fa kr kd_ h0 (k) h) (hT : StR T l m)  (y0 : -2147483648 ≤ y) (y1 : y < 2147483648) : MuP x l ls nx ct kl n c hs fa kr kd_ h0 k  (rfCan l y) (rb l y 3) (-1) (u1 l (104 + 36 * y + 3) 0) (q_cl E q_m_L_cancel [.ref x, .int (zi y)] h) ∧ ((rfCan l y).1 = 0 → ∃ m', StR T (u1 l (104 + 36 * y + 3) 0) m') := by
  have D : (rfCan l y).1 = 0 → ∃ m', StR T (u1 l (104 + 36 * y + 3) 0) m' := fun q => ⟨_, (d_can hT q).1⟩
  refine ⟨mut_px P (S_X7_cancel P.1.1 P.2.1 P.2.2.1.1 P.2.2.1.2.1 y0 y1) (fun q => ?_) k20_can (fun h' e => V_cancel_r (px_o P) e) (fun h' e => V_cancel_xUO (px_o P) e), D⟩
  obtain ⟨m', q⟩ := D q
  exact st_rg q
theorem B_set (P : PX x l ls nx ct kl n c hs fa kr kd_ h0 (k) h) (hT : StR T l m) (hE : q_EN E x)  (y0 : -2147483648 ≤ y) (y1 : y < 2147483648) (z0 : -2147483648 ≤ z) (z1 : z < 2147483648) : MuP x l ls nx ct kl n c hs fa kr kd_ h0 k  (rfSet y z) (l (5 + y)) (-1) (u1 l (5 + y) z) (q_cl E q_m_L_set [.ref x, .int (zi y), .int (zi z)] h) ∧ ((rfSet y z).1 = 0 → ∃ m', StR T (u1 l (5 + y) z) m') := by
  have D : (rfSet y z).1 = 0 → ∃ m', StR T (u1 l (5 + y) z) m' := fun q => ⟨_, (d_set hT q).1⟩
  refine ⟨mut_px P (S_X7_set P.1.1 P.2.1 P.2.2.1.1 P.2.2.1.2.1 y0 y1 z0 z1 hE (px_lo P)) (fun q => ?_) k20_set (fun h' e => V_set_r (px_o P) e) (fun h' e => V_set_xUO (px_o P) e), D⟩
  obtain ⟨m', q⟩ := D q
  exact st_rg q
theorem B_pass (P : PX x l ls nx ct kl n c hs fa kr kd_ h0 (k) h) (hT : StR T l m) (hT0 : 0 ≤ T) (hT1 : T ≤ 90000)  (y0 : -2147483648 ≤ y) (y1 : y < 2147483648) : MuP x l ls nx ct kl n c hs fa kr kd_ h0 k  (rfPas y) (psV y.toNat l 0) (-1) (psL y.toNat l) (q_cl E q_m_L_pass [.ref x, .int (zi y)] h) ∧ ((rfPas y).1 = 0 → ∃ m', StR (T + 99) (psL y.toNat l) m') := by
  have D : (rfPas y).1 = 0 → ∃ m', StR (T + 99) (psL y.toNat l) m' := fun q => ⟨_, (d_pas hT hT0 hT1 q).1⟩
  refine ⟨mut_px P (S_X7_pass P.1.1 P.2.1 P.2.2.1.1 P.2.2.1.2.1 y0 y1 (sm_tb hT.1 hT.2.2.2) hT0 hT1) (fun q => ?_) k20_pas (fun h' e => V_pass_r (px_o P) e) (fun h' e => V_pass_xUO (px_o P) e), D⟩
  obtain ⟨m', q⟩ := D q
  exact st_rg q
theorem B_plan (P : PX x l ls nx ct kl n c hs fa kr kd_ h0 (k) h) (hT : StR T l m) (y0 : -2147483648 ≤ y) (y1 : y < 2147483648) (z0 : -2147483648 ≤ z) (z1 : z < 2147483648) : ∃ PP, ((rfGoa l y z).1 = 0 → ¬ fT l y z = -1 → Grd l y z (fT l y z) (fun t => if t = 0 then rb l y 0 else PP (t - 1))) ∧ MuP x l ls nx ct kl n c hs fa kr kd_ h0 k  (rfPln l y z PP) (fT l y z) (-1) (rset l y (fol (rb l y) PP (fT l y z) (stp l y))) (q_cl E q_m_L_plan [.ref x, .int (zi y), .int (zi z)] h) ∧ ((rfPln l y z PP).1 = 0 → ∃ m', StR T (rset l y (fol (rb l y) PP (fT l y z) (stp l y))) m') := by
  obtain ⟨r, h', e, PP, G, D⟩ := S_X7_plan (E := E) P.1.1 P.2.1 P.2.2.1.1 P.2.2.1.2.1 y0 y1 z0 z1
  have D2 : (rfPln l y z PP).1 = 0 → ∃ m', StR T (rset l y (fol (rb l y) PP (fT l y z) (stp l y))) m' := fun q => ⟨_, (d_pln hT G q).1⟩
  refine ⟨PP, G, mut_px P ⟨r, h', e, D⟩ (fun q => ?_) k20_pln (fun h' e => V_plan_r (px_o P) e) (fun h' e => V_plan_xUO (px_o P) e), D2⟩
  obtain ⟨m', q⟩ := D2 q
  exact st_rg q
theorem B_undo (P : PX x l ls nx ct kl n c hs fa kr kd_ h0 (k) h) (hR : 0 < ct → RgC (kl (pvx nx))) (h0c : 0 < ct) : ∃ h' l', q_cl E q_m_L_undo [.ref x] h = some (.inl (some (.int (zi (ct - 1)))), h') ∧ Lc l' (kl (pvx nx)) ∧ PX x (l') ls (pvx nx) (ct - 1) kl n c hs fa kr kd_ h0 (k) h' := by
  obtain ⟨⟨C, F⟩, hR0, ⟨g1, g2, g3⟩, hL⟩ := id P
  obtain ⟨r, h', e, D⟩ := S_X7_undo (E := E) P.1.1 P.2.1 P.2.2.1.1 P.2.2.1.2.1 hR
  rcases D with ⟨_, l', d1, d2, d3, d4⟩ | ⟨d1, _⟩
  · rw [d2] at e
    refine ⟨h', l', V_undo_r (px_o P) e, d1, ⟨d3, fy_mo (fy_tr F (fy_fr d4)) (by omega)⟩, lc_rgc (hR h0c) d1, ⟨?_, by omega, g3⟩, hL⟩
    unfold pvx
    split <;> omega
  · omega
end E7
