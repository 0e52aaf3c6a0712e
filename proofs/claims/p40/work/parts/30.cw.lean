/-! the class's robots, orders and warehouse: what writes (printed by program) -/
def cseg (g : Int → Int) (a b : Int) (l : Int → Int) : Int → Int := fun i => if a ≤ i ∧ i < b then g i else l i
theorem cseg_i {g l : Int → Int} {a b i : Int} (h : a ≤ i) (k : i < b) : cseg g a b l i = g i := if_pos ⟨h, k⟩
theorem cseg_o {g l : Int → Int} {a b i : Int} (h : i < a ∨ b ≤ i) : cseg g a b l i = l i := if_neg (by omega)
/-- a robot's row a tick later -/
def gon (f : Int → Int) : Int → Int := fun i => if i = 0 then ahf f 1 else if i = 1 then (if ahf f 1 = f 0 then f 1 else f 1 - f 4) else if i = 3 then f 3 - 1 else if i = 5 then (if ahf f 1 = f 0 then f 5 else f 5 + 1) else if 6 ≤ i ∧ i < 6 + (f 3 - 1) then f (i + 1) else f i
def shf (k : Int) (m : Int → Int) : Int → Int := fun i => if 6 ≤ i ∧ i < 6 + k then m (i + 1) else m i
def fol (f c : Int → Int) (t z : Int) : Int → Int := fun i => if i = 3 then t else if i = 4 then z else if 6 ≤ i ∧ i < 6 + t then c (i - 6) else f i
def bgn (f : Int → Int) (c b : Int) : Int → Int := u1 (u1 (u1 (u1 (u1 (u1 f 0 c) 1 b) 2 (-1)) 5 0) 3 0) 4 0
def obg (f : Int → Int) (d a b c : Int) : Int → Int := fun i => if i = 0 then d else if i = 1 then (if b = -1 then 1 else if c = -1 then 2 else 3) else if i = 2 then 0 else if i = 4 then -1 else if i = 5 then a else if i = 6 then b else if i = 7 then c else f i
section WC
variable {h h' : q_H} {w b n a : Nat} {l l' g f lo : Int → Int} {p p2 : Int → Nat} {z v r : Int} {E : q_E}
theorem rb_cp (B : RB h b g) (H : RB h a f) : ∃ h', q_cpy E h (b + 1) (zi 0) (a + 1) (zi 0) (zi 30) = some h' ∧ RB h' a (cseg g 6 36 f) ∧ Fr a 2 h h' := by
  obtain ⟨h', e, A, F⟩ := ai_c (E := E) (sp := 0) (dp := 0) (m := 30) B.2 H.2 (by omega) (by omega) (by omega) (by omega) (by omega) (by decide) (by decide)
  refine ⟨h', e, ⟨?_, ai_cg A fun i k1 k2 => ?_⟩, fr_in F (by omega) (by omega)⟩
  · rw [F.2 a (by omega), H.1, cseg_o (by omega), cseg_o (by omega), cseg_o (by omega), cseg_o (by omega), cseg_o (by omega), cseg_o (by omega)]
  · rw [cseg_i (by omega) (by omega)]
    exact (if_pos (by omega)).trans (congrArg g (by omega))
theorem ob_cp (B : OB h b g) (H : OB h a f) : ∃ h', q_cpy E h (b + 1) (zi 0) (a + 1) (zi 0) (zi 3) = some h' ∧ OB h' a (cseg g 5 8 f) ∧ Fr a 2 h h' := by
  obtain ⟨h', e, A, F⟩ := ai_c (E := E) (sp := 0) (dp := 0) (m := 3) B.2 H.2 (by omega) (by omega) (by omega) (by omega) (by omega) (by decide) (by decide)
  refine ⟨h', e, ⟨?_, ai_cg A fun i k1 k2 => ?_⟩, fr_in F (by omega) (by omega)⟩
  · rw [F.2 a (by omega), H.1, cseg_o (by omega), cseg_o (by omega), cseg_o (by omega), cseg_o (by omega)]
  · rw [cseg_i (by omega) (by omega)]
    exact (if_pos (by omega)).trans (congrArg g (by omega))
theorem wh_kc (B : WH h b lo p2) (H : WH h w l p) : ∃ h', q_cpy E h (b + 1) (zi 0) (w + 1) (zi 0) (zi 48) = some h' ∧ WH h' w (cseg lo 8 56 l) p ∧ Fr w 38 h h' := by
  obtain ⟨h', e, A, F⟩ := ai_c (E := E) (sp := 0) (dp := 0) (m := 48) (wh_k B) (wh_k H) (by omega) (by omega) (by omega) (by omega) (by omega) (by decide) (by decide)
  obtain ⟨k0, k1, k2, k3, k4, ⟨g, k5, k5'⟩, ⟨g', k6, k6'⟩, k7, k8⟩ := H
  refine ⟨h', e, ⟨k0, ?_, ai_cg A fun i j1 j2 => ?_, ai_cg (ai_fr k3 F (by omega)) fun i j1 j2 => (cseg_o (by omega)).symm, ai_cg (ai_fr k4 F (by omega)) fun i j1 j2 => (cseg_o (by omega)).symm, ⟨g, (F.2 _ (by omega)).trans k5, k5'⟩, ⟨g', (F.2 _ (by omega)).trans k6, k6'⟩, fun r' j1 j2 => ?_, fun o' j1 j2 => ?_⟩, fr_in F (by omega) (by omega)⟩
  · rw [F.2 _ (by omega), k1, cseg_o (by omega), cseg_o (by omega), cseg_o (by omega), cseg_o (by omega), cseg_o (by omega)]
  · rw [cseg_i (by omega) (by omega)]
    exact (if_pos (by omega)).trans (congrArg lo (by omega))
  · have := wh_pb k0 j1 j2
    exact rb_cg (rb_fr (k7 r' j1 j2) F (by omega)) fun i q1 q2 => (cseg_o (i := 104 + 36 * r' + i) (by omega)).symm
  · have := oa_b (w := w) j1 j2
    exact ob_cg (ob_fr (k8 o' j1 j2) F (by omega)) fun i q1 q2 _ => (cseg_o (i := 320 + 8 * o' + i) (by omega)).symm
theorem wh_cc (B : WH h b lo p2) (H : WH h w l p) (hb : ∀ k, 0 ≤ k → k < 48 → 0 ≤ lo (56 + k) ∧ lo (56 + k) ≤ 1) : ∃ h', q_cpy E h (b + 2) (zi 0) (w + 2) (zi 0) (zi 48) = some h' ∧ WH h' w (cseg lo 56 104 l) p ∧ Fr w 38 h h' := by
  obtain ⟨h', e, A, F⟩ := ai_cz (E := E) (wh_c B) (wh_c H) (fun i a b => by have := hb i (by omega) (by omega); omega) (by decide)
  obtain ⟨k0, k1, k2, k3, k4, ⟨g, k5, k5'⟩, ⟨g', k6, k6'⟩, k7, k8⟩ := H
  refine ⟨h', e, ⟨k0, ?_, ai_cg (ai_fr k2 F (by omega)) fun i j1 j2 => (cseg_o (by omega)).symm, ai_cg A fun i j1 j2 => (cseg_i (by omega) (by omega)).symm, ai_cg (ai_fr k4 F (by omega)) fun i j1 j2 => (cseg_o (by omega)).symm, ⟨g, (F.2 _ (by omega)).trans k5, k5'⟩, ⟨g', (F.2 _ (by omega)).trans k6, k6'⟩, fun r' j1 j2 => ?_, fun o' j1 j2 => ?_⟩, fr_in F (by omega) (by omega)⟩
  · rw [F.2 _ (by omega), k1, cseg_o (by omega), cseg_o (by omega), cseg_o (by omega), cseg_o (by omega), cseg_o (by omega)]
  · have := wh_pb k0 j1 j2
    exact rb_cg (rb_fr (k7 r' j1 j2) F (by omega)) fun i q1 q2 => (cseg_o (i := 104 + 36 * r' + i) (by omega)).symm
  · have := oa_b (w := w) j1 j2
    exact ob_cg (ob_fr (k8 o' j1 j2) F (by omega)) fun i q1 q2 _ => (cseg_o (i := 320 + 8 * o' + i) (by omega)).symm
theorem wh_sc (B : WH h b lo p2) (H : WH h w l p) : ∃ h', q_cpy E h (b + 37) (zi 0) (w + 37) (zi 0) (zi 3) = some h' ∧ WH h' w (cseg lo 5 8 l) p ∧ Fr w 38 h h' := by
  obtain ⟨h', e, A, F⟩ := ai_c (E := E) (sp := 0) (dp := 0) (m := 3) (wh_s B) (wh_s H) (by omega) (by omega) (by omega) (by omega) (by omega) (by decide) (by decide)
  obtain ⟨k0, k1, k2, k3, k4, ⟨g, k5, k5'⟩, ⟨g', k6, k6'⟩, k7, k8⟩ := H
  refine ⟨h', e, ⟨k0, ?_, ai_cg (ai_fr k2 F (by omega)) fun i j1 j2 => (cseg_o (by omega)).symm, ai_cg (ai_fr k3 F (by omega)) fun i j1 j2 => (cseg_o (by omega)).symm, ai_cg A fun i j1 j2 => ?_, ⟨g, (F.2 _ (by omega)).trans k5, k5'⟩, ⟨g', (F.2 _ (by omega)).trans k6, k6'⟩, fun r' j1 j2 => ?_, fun o' j1 j2 => ?_⟩, fr_in F (by omega) (by omega)⟩
  · rw [F.2 _ (by omega), k1, cseg_o (by omega), cseg_o (by omega), cseg_o (by omega), cseg_o (by omega), cseg_o (by omega)]
  · rw [cseg_i (by omega) (by omega)]
    exact (if_pos (by omega)).trans (congrArg lo (by omega))
  · have := wh_pb k0 j1 j2
    exact rb_cg (rb_fr (k7 r' j1 j2) F (by omega)) fun i q1 q2 => (cseg_o (i := 104 + 36 * r' + i) (by omega)).symm
  · have := oa_b (w := w) j1 j2
    exact ob_cg (ob_fr (k8 o' j1 j2) F (by omega)) fun i q1 q2 _ => (cseg_o (i := 320 + 8 * o' + i) (by omega)).symm
theorem rset_seg {m : Int → Int} {k : Int} (hk : 0 ≤ k) : rset (cseg lo 104 (104 + 36 * k) m) k (rb lo k) = cseg lo 104 (104 + 36 * (k + 1)) m := by
  funext i
  show (if 104 + 36 * k ≤ i ∧ i < 140 + 36 * k then lo (104 + 36 * k + (i - (104 + 36 * k))) else if 104 ≤ i ∧ i < 104 + 36 * k then lo i else m i) = if 104 ≤ i ∧ i < 104 + 36 * (k + 1) then lo i else m i
  rw [show 104 + 36 * k + (i - (104 + 36 * k)) = i by omega]
  by_cases q : 104 + 36 * k ≤ i ∧ i < 140 + 36 * k
  · rw [if_pos q, if_pos (by omega)]
  · rw [if_neg q]
    by_cases q2 : 104 ≤ i ∧ i < 104 + 36 * k
    · rw [if_pos q2, if_pos (by omega)]
    · rw [if_neg q2, if_neg (by omega)]
theorem oset_seg {m : Int → Int} {k : Int} (hk : 0 ≤ k) : oset (cseg lo 320 (320 + 8 * k) m) k (ob lo k) = cseg lo 320 (320 + 8 * (k + 1)) m := by
  funext i
  show (if 320 + 8 * k ≤ i ∧ i < 328 + 8 * k then lo (320 + 8 * k + (i - (320 + 8 * k))) else if 320 ≤ i ∧ i < 320 + 8 * k then lo i else m i) = if 320 ≤ i ∧ i < 320 + 8 * (k + 1) then lo i else m i
  rw [show 320 + 8 * k + (i - (320 + 8 * k)) = i by omega]
  by_cases q : 320 + 8 * k ≤ i ∧ i < 328 + 8 * k
  · rw [if_pos q, if_pos (by omega)]
  · rw [if_neg q]
    by_cases q2 : 320 ≤ i ∧ i < 320 + 8 * k
    · rw [if_pos q2, if_pos (by omega)]
    · rw [if_neg q2, if_neg (by omega)]
end WC
/-- a row that was copied from another: what lives of it -/
def Lc (l lo : Int → Int) : Prop := (∀ i, 0 ≤ i → i < 104 → l i = lo i) ∧ (∀ r, 0 ≤ r → r < lo 3 → ∀ k, 0 ≤ k → k < 36 → rb l r k = rb lo r k) ∧ ∀ o, 0 ≤ o → o < lo 4 → ∀ k, 0 ≤ k → k < 8 → ob l o k = ob lo o k
section CW
variable {E : q_E} {h : q_H} {w v a b : Nat} {l lo f g : Int → Int} {p p2 : Int → Nat}
theorem S_X5_begin (hA : RB h a f) {x y : Int} : ∃ r_ h', q_cl E q_m_X5_begin [Value.ref a, Value.int (zi x), Value.int (zi y)] h = some (r_, h') ∧ (r_ = .inl none ∧ RB h' a (bgn f x y) ∧ Fr a 2 h h') := by
  suffices K : ∀ Q : q_R → q_H → Prop, (∀ r_ h', (r_ = .inl none ∧ RB h' a (bgn f x y) ∧ Fr a 2 h h') → Q r_ h') → Xv E q_m_X5_begin 0 [Value.ref a, Value.int (zi x), Value.int (zi y)] [] h Q from K _ fun _ _ p => p
  intro Q hQ
  refine xv (x_aload_n 1 d_X5_begin_0 rfl rfl) ?_
  refine xv (x_iload_n 2 d_X5_begin_1 rfl rfl) ?_
  obtain ⟨h2, e2, w2, f2⟩ := rb_pf0 (v := x) hA
  have F2 : Fr a 2 h h2 := fr_tr fr_rf (fr_in f2 (by omega) (by omega))
  refine xv (x_putfield 5 d_X5_begin_2 rfl f_5_19 (Nat.le_of_ble_eq_true rfl) e2 rfl rfl (fun e => absurd e (by decide))) ?_
  show Xv E q_m_X5_begin 5 [Value.ref a, Value.int (zi x), Value.int (zi y)] [] h2 Q
  refine xv (x_aload_n 6 d_X5_begin_5 rfl rfl) ?_
  refine xv (x_iload_n 7 d_X5_begin_6 rfl rfl) ?_
  obtain ⟨h7, e7, w7, f7⟩ := rb_pf1 (v := y) w2
  have F7 : Fr a 2 h h7 := fr_tr F2 (fr_in f7 (by omega) (by omega))
  refine xv (x_putfield 10 d_X5_begin_7 rfl f_5_22 (Nat.le_of_ble_eq_true rfl) e7 rfl rfl (fun e => absurd e (by decide))) ?_
  show Xv E q_m_X5_begin 10 [Value.ref a, Value.int (zi x), Value.int (zi y)] [] h7 Q
  refine xv (x_aload_n 11 d_X5_begin_10 rfl rfl) ?_
  refine xv (x_iconst 12 d_X5_begin_11 rfl) ?_
  obtain ⟨h12, e12, w12, f12⟩ := rb_pf2 (v := (-1)) w7
  have F12 : Fr a 2 h h12 := fr_tr F7 (fr_in f12 (by omega) (by omega))
  refine xv (x_putfield 15 d_X5_begin_12 rfl f_5_15 (Nat.le_of_ble_eq_true rfl) e12 rfl rfl (fun e => absurd e (by decide))) ?_
  show Xv E q_m_X5_begin 15 [Value.ref a, Value.int (zi x), Value.int (zi y)] [] h12 Q
  refine xv (x_aload_n 16 d_X5_begin_15 rfl rfl) ?_
  refine xv (x_iconst 17 d_X5_begin_16 rfl) ?_
  obtain ⟨h17, e17, w17, f17⟩ := rb_pf3 (v := 0) w12
  have F17 : Fr a 2 h h17 := fr_tr F12 (fr_in f17 (by omega) (by omega))
  refine xv (x_putfield 20 d_X5_begin_17 rfl f_5_25 (Nat.le_of_ble_eq_true rfl) e17 rfl rfl (fun e => absurd e (by decide))) ?_
  show Xv E q_m_X5_begin 20 [Value.ref a, Value.int (zi x), Value.int (zi y)] [] h17 Q
  refine xv (x_aload_n 21 d_X5_begin_20 rfl rfl) ?_
  refine xv (x_iconst 22 d_X5_begin_21 rfl) ?_
  obtain ⟨h22, e22, w22, f22⟩ := rb_pf4 (v := 0) w17
  have F22 : Fr a 2 h h22 := fr_tr F17 (fr_in f22 (by omega) (by omega))
  refine xv (x_putfield 25 d_X5_begin_22 rfl f_5_28 (Nat.le_of_ble_eq_true rfl) e22 rfl rfl (fun e => absurd e (by decide))) ?_
  show Xv E q_m_X5_begin 25 [Value.ref a, Value.int (zi x), Value.int (zi y)] [] h22 Q
  refine xv (x_aload_n 26 d_X5_begin_25 rfl rfl) ?_
  refine xv (x_iconst 27 d_X5_begin_26 rfl) ?_
  obtain ⟨h27, e27, w27, f27⟩ := rb_pf5 (v := 0) w22
  have F27 : Fr a 2 h h27 := fr_tr F22 (fr_in f27 (by omega) (by omega))
  refine xv (x_putfield 30 d_X5_begin_27 rfl f_5_31 (Nat.le_of_ble_eq_true rfl) e27 rfl rfl (fun e => absurd e (by decide))) ?_
  show Xv E q_m_X5_begin 30 [Value.ref a, Value.int (zi x), Value.int (zi y)] [] h27 Q
  refine xv_r (x_return d_X5_begin_30 rfl) ?_
  exact hQ _ _ ⟨rfl, w27, F27⟩
theorem S_X5_copyFrom (hA : RB h a f) (hB : RB h b g) (sp : a + 2 ≤ b ∨ b + 2 ≤ a) : ∃ r_ h', q_cl E q_m_X5_copyFrom [Value.ref a, Value.ref b] h = some (r_, h') ∧ (r_ = .inl none ∧ RB h' a g ∧ Fr a 2 h h') := by
  suffices K : ∀ Q : q_R → q_H → Prop, (∀ r_ h', (r_ = .inl none ∧ RB h' a g ∧ Fr a 2 h h') → Q r_ h') → Xv E q_m_X5_copyFrom 0 [Value.ref a, Value.ref b] [] h Q from K _ fun _ _ p => p
  intro Q hQ
  refine xv (x_aload_n 1 d_X5_copyFrom_0 rfl rfl) ?_
  refine xv (x_aload_n 2 d_X5_copyFrom_1 rfl rfl) ?_
  refine xv (x_getfield 5 d_X5_copyFrom_2 rfl f_5_19 (Nat.le_of_ble_eq_true rfl) (Nat.le_of_ble_eq_true rfl) (q_gf_of hB.1 rfl)) ?_
  obtain ⟨h5, e5, w5, f5⟩ := rb_pf0 (v := g 0) hA
  have B_5 := rb_fr hB f5 (by omega)
  have F5 : Fr a 2 h h5 := fr_tr fr_rf (fr_in f5 (by omega) (by omega))
  refine xv (x_putfield 8 d_X5_copyFrom_5 rfl f_5_19 (Nat.le_of_ble_eq_true rfl) e5 rfl rfl (fun e => absurd e (by decide))) ?_
  show Xv E q_m_X5_copyFrom 8 [Value.ref a, Value.ref b] [] h5 Q
  refine xv (x_aload_n 9 d_X5_copyFrom_8 rfl rfl) ?_
  refine xv (x_aload_n 10 d_X5_copyFrom_9 rfl rfl) ?_
  refine xv (x_getfield 13 d_X5_copyFrom_10 rfl f_5_22 (Nat.le_of_ble_eq_true rfl) (Nat.le_of_ble_eq_true rfl) (q_gf_of B_5.1 rfl)) ?_
  obtain ⟨h13, e13, w13, f13⟩ := rb_pf1 (v := g 1) w5
  have B_13 := rb_fr B_5 f13 (by omega)
  have F13 : Fr a 2 h h13 := fr_tr F5 (fr_in f13 (by omega) (by omega))
  refine xv (x_putfield 16 d_X5_copyFrom_13 rfl f_5_22 (Nat.le_of_ble_eq_true rfl) e13 rfl rfl (fun e => absurd e (by decide))) ?_
  show Xv E q_m_X5_copyFrom 16 [Value.ref a, Value.ref b] [] h13 Q
  refine xv (x_aload_n 17 d_X5_copyFrom_16 rfl rfl) ?_
  refine xv (x_aload_n 18 d_X5_copyFrom_17 rfl rfl) ?_
  refine xv (x_getfield 21 d_X5_copyFrom_18 rfl f_5_15 (Nat.le_of_ble_eq_true rfl) (Nat.le_of_ble_eq_true rfl) (q_gf_of B_13.1 rfl)) ?_
  obtain ⟨h21, e21, w21, f21⟩ := rb_pf2 (v := g 2) w13
  have B_21 := rb_fr B_13 f21 (by omega)
  have F21 : Fr a 2 h h21 := fr_tr F13 (fr_in f21 (by omega) (by omega))
  refine xv (x_putfield 24 d_X5_copyFrom_21 rfl f_5_15 (Nat.le_of_ble_eq_true rfl) e21 rfl rfl (fun e => absurd e (by decide))) ?_
  show Xv E q_m_X5_copyFrom 24 [Value.ref a, Value.ref b] [] h21 Q
  refine xv (x_aload_n 25 d_X5_copyFrom_24 rfl rfl) ?_
  refine xv (x_aload_n 26 d_X5_copyFrom_25 rfl rfl) ?_
  refine xv (x_getfield 29 d_X5_copyFrom_26 rfl f_5_25 (Nat.le_of_ble_eq_true rfl) (Nat.le_of_ble_eq_true rfl) (q_gf_of B_21.1 rfl)) ?_
  obtain ⟨h29, e29, w29, f29⟩ := rb_pf3 (v := g 5) w21
  have B_29 := rb_fr B_21 f29 (by omega)
  have F29 : Fr a 2 h h29 := fr_tr F21 (fr_in f29 (by omega) (by omega))
  refine xv (x_putfield 32 d_X5_copyFrom_29 rfl f_5_25 (Nat.le_of_ble_eq_true rfl) e29 rfl rfl (fun e => absurd e (by decide))) ?_
  show Xv E q_m_X5_copyFrom 32 [Value.ref a, Value.ref b] [] h29 Q
  refine xv (x_aload_n 33 d_X5_copyFrom_32 rfl rfl) ?_
  refine xv (x_aload_n 34 d_X5_copyFrom_33 rfl rfl) ?_
  refine xv (x_getfield 37 d_X5_copyFrom_34 rfl f_5_28 (Nat.le_of_ble_eq_true rfl) (Nat.le_of_ble_eq_true rfl) (q_gf_of B_29.1 rfl)) ?_
  obtain ⟨h37, e37, w37, f37⟩ := rb_pf4 (v := g 3) w29
  have B_37 := rb_fr B_29 f37 (by omega)
  have F37 : Fr a 2 h h37 := fr_tr F29 (fr_in f37 (by omega) (by omega))
  refine xv (x_putfield 40 d_X5_copyFrom_37 rfl f_5_28 (Nat.le_of_ble_eq_true rfl) e37 rfl rfl (fun e => absurd e (by decide))) ?_
  show Xv E q_m_X5_copyFrom 40 [Value.ref a, Value.ref b] [] h37 Q
  refine xv (x_aload_n 41 d_X5_copyFrom_40 rfl rfl) ?_
  refine xv (x_aload_n 42 d_X5_copyFrom_41 rfl rfl) ?_
  refine xv (x_getfield 45 d_X5_copyFrom_42 rfl f_5_31 (Nat.le_of_ble_eq_true rfl) (Nat.le_of_ble_eq_true rfl) (q_gf_of B_37.1 rfl)) ?_
  obtain ⟨h45, e45, w45, f45⟩ := rb_pf5 (v := g 4) w37
  have B_45 := rb_fr B_37 f45 (by omega)
  have F45 : Fr a 2 h h45 := fr_tr F37 (fr_in f45 (by omega) (by omega))
  refine xv (x_putfield 48 d_X5_copyFrom_45 rfl f_5_31 (Nat.le_of_ble_eq_true rfl) e45 rfl rfl (fun e => absurd e (by decide))) ?_
  show Xv E q_m_X5_copyFrom 48 [Value.ref a, Value.ref b] [] h45 Q
  refine xv (x_aload_n 49 d_X5_copyFrom_48 rfl rfl) ?_
  refine xv (x_getfield 52 d_X5_copyFrom_49 rfl f_5_9 (Nat.le_of_ble_eq_true rfl) (Nat.le_of_ble_eq_true rfl) (q_gf_of B_45.1 rfl)) ?_
  refine xv (x_iconst 53 d_X5_copyFrom_52 rfl) ?_
  refine xv (x_aload_n 54 d_X5_copyFrom_53 rfl rfl) ?_
  refine xv (x_getfield 57 d_X5_copyFrom_54 rfl f_5_9 (Nat.le_of_ble_eq_true rfl) (Nat.le_of_ble_eq_true rfl) (q_gf_of w45.1 rfl)) ?_
  refine xv (x_iconst 58 d_X5_copyFrom_57 rfl) ?_
  refine xv (x_bipush 60 d_X5_copyFrom_58 rfl rfl) ?_
  obtain ⟨h60, e60, w60, f60⟩ := rb_cp (E := E) B_45 w45
  have B_60 := rb_fr B_45 f60 (by omega)
  have F60 : Fr a 2 h h60 := fr_tr F45 (fr_in f60 (by omega) (by omega))
  refine xv (x_copy 63 d_X5_copyFrom_60 rfl rfl rfl (Nat.le_of_ble_eq_true rfl) (Nat.le_of_ble_eq_true rfl) (Nat.le_of_ble_eq_true rfl) e60) ?_
  show Xv E q_m_X5_copyFrom 63 [Value.ref a, Value.ref b] [] h60 Q
  refine xv_r (x_return d_X5_copyFrom_63 rfl) ?_
  refine hQ _ _ ⟨rfl, rb_cg w60 fun i i0 i1 => ?_, F60⟩
  by_cases z : 6 ≤ i
  · exact cseg_i z i1
  · rcases (by omega : i = 0 ∨ i = 1 ∨ i = 2 ∨ i = 3 ∨ i = 4 ∨ i = 5) with e | e | e | e | e | e <;> subst e <;> rfl
theorem S_X5_charge (hA : RB h a f) {x : Int} (hx : 0 ≤ x ∧ x ≤ 20) (hf : -300000 ≤ f 1 ∧ f 1 ≤ 99) : ∃ r_ h', q_cl E q_m_X5_charge [Value.ref a, Value.int (zi x)] h = some (r_, h') ∧ (r_ = .inl none ∧ RB h' a (u1 f 1 (min 99 (f 1 + x))) ∧ Fr a 2 h h') := by
  suffices K : ∀ Q : q_R → q_H → Prop, (∀ r_ h', (r_ = .inl none ∧ RB h' a (u1 f 1 (min 99 (f 1 + x))) ∧ Fr a 2 h h') → Q r_ h') → Xv E q_m_X5_charge 0 [Value.ref a, Value.int (zi x)] [] h Q from K _ fun _ _ p => p
  intro Q hQ
  refine xv (x_aload_n 1 d_X5_charge_0 rfl rfl) ?_
  refine xv (x_bipush 3 d_X5_charge_1 rfl rfl) ?_
  refine xv (x_aload_n 4 d_X5_charge_3 rfl rfl) ?_
  refine xv (x_getfield 7 d_X5_charge_4 rfl f_5_22 (Nat.le_of_ble_eq_true rfl) (Nat.le_of_ble_eq_true rfl) (q_gf_of hA.1 rfl)) ?_
  refine xv (x_iload_n 8 d_X5_charge_7 rfl rfl) ?_
  refine xv (x_iadd 9 d_X5_charge_8 rfl) ?_
  refine xv (x_mmin 12 d_X5_charge_9 rfl rfl rfl rfl (Nat.le_of_ble_eq_true rfl) (Nat.le_of_ble_eq_true rfl) (Nat.le_of_ble_eq_true rfl) (by omega) (by omega) (by omega) (by omega)) ?_
  obtain ⟨h12, e12, w12, f12⟩ := rb_pf1 (v := min 99 ((f 1) + x)) hA
  have F12 : Fr a 2 h h12 := fr_tr fr_rf (fr_in f12 (by omega) (by omega))
  refine xv (x_putfield 15 d_X5_charge_12 rfl f_5_22 (Nat.le_of_ble_eq_true rfl) e12 rfl rfl (fun e => absurd e (by decide))) ?_
  show Xv E q_m_X5_charge 15 [Value.ref a, Value.int (zi x)] [] h12 Q
  refine xv_r (x_return d_X5_charge_15 rfl) ?_
  exact hQ _ _ ⟨rfl, w12, F12⟩
/-- a robot's row ahead of its path's shift -/
abbrev GonM (f m : Int → Int) : Prop := m 3 = f 3 - 1 ∧ ∀ i, 0 ≤ i → i < 36 → gon f i = shf (m 3) m i
theorem gon_s {f m : Int → Int} (hm : GonM f m) (i : Int) (i0 : 0 ≤ i) (i1 : i < 36) : gon f i = shf (m 3) m i := hm.2 i i0 i1
theorem gon_a {f : Int → Int} (e : ahf f 1 = f 0) : GonM f (u1 f 3 (f 3 - 1)) := by
  refine ⟨rfl, fun i i0 i1 => ?_⟩
  show gon f i = if 6 ≤ i ∧ i < 6 + (f 3 - 1) then u1 f 3 (f 3 - 1) (i + 1) else u1 f 3 (f 3 - 1) i
  by_cases z : 6 ≤ i
  · unfold gon
    rw [if_neg (by omega), if_neg (by omega), if_neg (by omega), if_neg (by omega), u1_ne (by omega), u1_ne (by omega)]
  · rcases (by omega : i = 0 ∨ i = 1 ∨ i = 2 ∨ i = 3 ∨ i = 4 ∨ i = 5) with q | q | q | q | q | q <;> subst q <;> (rw [if_neg (by omega)]) <;> simp [gon, u1, e]
theorem gon_b {f : Int → Int} (e : ¬ ahf f 1 = f 0) : GonM f (u1 (u1 (u1 (u1 f 0 (ahf f 1)) 1 (f 1 - f 4)) 5 (f 5 + 1)) 3 (f 3 - 1)) := by
  refine ⟨rfl, fun i i0 i1 => ?_⟩
  show gon f i = if 6 ≤ i ∧ i < 6 + (f 3 - 1) then u1 (u1 (u1 (u1 f 0 (ahf f 1)) 1 (f 1 - f 4)) 5 (f 5 + 1)) 3 (f 3 - 1) (i + 1) else u1 (u1 (u1 (u1 f 0 (ahf f 1)) 1 (f 1 - f 4)) 5 (f 5 + 1)) 3 (f 3 - 1) i
  by_cases z : 6 ≤ i
  · unfold gon
    rw [if_neg (by omega), if_neg (by omega), if_neg (by omega), if_neg (by omega), u1_ne (by omega), u1_ne (by omega), u1_ne (by omega), u1_ne (by omega), u1_ne (by omega), u1_ne (by omega), u1_ne (by omega), u1_ne (by omega)]
  · rcases (by omega : i = 0 ∨ i = 1 ∨ i = 2 ∨ i = 3 ∨ i = 4 ∨ i = 5) with q | q | q | q | q | q <;> subst q <;> (rw [if_neg (by omega)]) <;> simp [gon, u1, e]
theorem shf_s {m : Int → Int} {k : Int} (k0 : 0 ≤ k) (i : Int) : u1 (shf k m) (6 + k) (shf k m (6 + (k + 1))) i = shf (k + 1) m i := by
  by_cases e : i = 6 + k
  · subst e
    rw [u1_eq]
    show (if _ then _ else _) = (if _ then _ else _)
    rw [if_neg (by omega), if_pos (by omega), show 6 + (k + 1) = 6 + k + 1 by omega]
  · rw [u1_ne e]
    show (if _ then _ else _) = (if _ then _ else _)
    by_cases q : 6 ≤ i ∧ i < 6 + k
    · rw [if_pos q, if_pos (by omega)]
    · rw [if_neg q, if_neg (by omega)]
theorem S_X5_goOn (hA : RB h a f) {n o : Int} (hf : Rf n o f) (hn : n ≤ 48) (hl : 0 < f 3) : ∃ r_ h', q_cl E q_m_X5_goOn [Value.ref a] h = some (r_, h') ∧ (r_ = .inl none ∧ RB h' a (gon f) ∧ Fr a 2 h h') := by
  suffices K : ∀ Q : q_R → q_H → Prop, (∀ r_ h', (r_ = .inl none ∧ RB h' a (gon f) ∧ Fr a 2 h h') → Q r_ h') → Xv E q_m_X5_goOn 0 [Value.ref a, Value.null, Value.null] [] h Q from K _ fun _ _ p => p
  intro Q hQ
  obtain ⟨e0, e1, e2, e3, e4, e5, e6⟩ := id hf
  refine xv (x_aload_n 1 d_X5_goOn_0 rfl rfl) ?_
  refine xv (x_iconst 2 d_X5_goOn_1 rfl) ?_
  refine xv (x_inv1 5 (as := [Value.int (zi 1)]) d_X5_goOn_2 rfl c_5_40 rfl (Nat.le_of_ble_eq_true rfl) (Nat.le_of_ble_eq_true rfl) hA.1 (Nat.le_of_ble_eq_true rfl) (Nat.le_of_ble_eq_true rfl) rfl (S_X5_cellAhead hA hf (by omega) (by omega))) ?_
  have q2 := ahf_r (t := 1) hf (by omega)
  show Xv E q_m_X5_goOn 5 [Value.ref a, Value.null, Value.null] [Value.int (zi (ahf (f) 1))] h Q
  refine xv (x_istore_n 6 d_X5_goOn_5 rfl (Nat.le_of_ble_eq_true rfl)) ?_
  show Xv E q_m_X5_goOn 6 [Value.ref a, Value.int (zi (ahf (f) 1)), Value.null] [] h Q
  refine xv (x_iload_n 7 d_X5_goOn_6 rfl rfl) ?_
  refine xv (x_aload_n 8 d_X5_goOn_7 rfl rfl) ?_
  refine xv (x_getfield 11 d_X5_goOn_8 rfl f_5_19 (Nat.le_of_ble_eq_true rfl) (Nat.le_of_ble_eq_true rfl) (q_gf_of hA.1 rfl)) ?_
  refine v_icmp_eq 42 14 d_X5_goOn_11 rfl rfl (by omega) (by omega) (by omega) (by omega) (fun k11 => ?_) (fun k11 => ?_)
  · refine xv (x_aload_n 43 d_X5_goOn_42 rfl rfl) ?_
    refine xv (x_dup 44 d_X5_goOn_43 rfl rfl) ?_
    refine xv (x_getfield 47 d_X5_goOn_44 rfl f_5_28 (Nat.le_of_ble_eq_true rfl) (Nat.le_of_ble_eq_true rfl) (q_gf_of hA.1 rfl)) ?_
    refine xv (x_iconst 48 d_X5_goOn_47 rfl) ?_
    refine xv (x_isub 49 d_X5_goOn_48 rfl) ?_
    obtain ⟨h49, e49, w49, f49⟩ := rb_pf4 (v := (f 3) - 1) hA
    have F49 : Fr a 2 h h49 := fr_tr fr_rf (fr_in f49 (by omega) (by omega))
    refine xv (x_putfield 52 d_X5_goOn_49 rfl f_5_28 (Nat.le_of_ble_eq_true rfl) e49 rfl rfl (fun e => absurd e (by decide))) ?_
    show Xv E q_m_X5_goOn 52 [Value.ref a, Value.int (zi (ahf (f) 1)), Value.null] [] h49 Q
    refine xv (x_iconst 53 d_X5_goOn_52 rfl) ?_
    refine xv (x_istore_n 54 d_X5_goOn_53 rfl (Nat.le_of_ble_eq_true rfl)) ?_
    show Xv E q_m_X5_goOn 54 [Value.ref a, Value.int (zi (ahf (f) 1)), Value.int (zi 0)] [] h49 Q
    have L54 : ∀ (n : Nat) (m : Int → Int) (k : Int) (H : q_H), (GonM f m) → (0 ≤ k) → (k ≤ m 3) → (RB H a (shf k m)) → (Fr a 2 h H) → (m 3 - k).toNat = n → Xv E q_m_X5_goOn 54 [Value.ref a, Value.int (zi (ahf (f) 1)), Value.int (zi k)] [] H Q := by
      intro n
      induction n using Nat.strongRecOn with
      | _ n ih54 =>
        intro m k H hm k0 k1 hA2 hF2 em
        have e3 : shf k m 3 = m 3 := if_neg (by omega)
        have m3 := hm.1
        refine xv (x_iload_n 55 d_X5_goOn_54 rfl rfl) ?_
        refine xv (x_aload_n 56 d_X5_goOn_55 rfl rfl) ?_
        refine xv (x_getfield 59 d_X5_goOn_56 rfl f_5_28 (Nat.le_of_ble_eq_true rfl) (Nat.le_of_ble_eq_true rfl) (q_gf_of hA2.1 rfl)) ?_
        refine v_icmp_ge 93 62 d_X5_goOn_59 rfl rfl (by omega) (by omega) (by omega) (by omega) (fun k59 => ?_) (fun k59 => ?_)
        · refine xv_r (x_return d_X5_goOn_93 rfl) ?_
          refine hQ _ _ ⟨rfl, rb_cg hA2 fun i i0 i1 => ?_, hF2⟩
          have ek : k = m 3 := by omega
          rw [gon_s hm i i0 i1, ← ek]
        · refine xv (x_iload_n 63 d_X5_goOn_62 rfl rfl) ?_
          refine xv (x_iconst 64 d_X5_goOn_63 rfl) ?_
          refine xv (x_iadd 65 d_X5_goOn_64 rfl) ?_
          refine xv (x_aload_n 66 d_X5_goOn_65 rfl rfl) ?_
          refine xv (x_getfield 69 d_X5_goOn_66 rfl f_5_9 (Nat.le_of_ble_eq_true rfl) (Nat.le_of_ble_eq_true rfl) (q_gf_of hA2.1 rfl)) ?_
          refine xv (x_arraylength 70 d_X5_goOn_69 rfl (ai_l hA2.2 (by decide))) ?_
          refine v_icmp_ge 93 73 d_X5_goOn_70 rfl rfl (by omega) (by omega) (by omega) (by omega) (fun k70 => ?_) (fun k70 => ?_)
          · refine xv_r (x_return d_X5_goOn_93 rfl) ?_
            refine hQ _ _ ⟨rfl, rb_cg hA2 fun i i0 i1 => ?_, hF2⟩
            have ek : k = m 3 := by omega
            rw [gon_s hm i i0 i1, ← ek]
          · refine xv (x_aload_n 74 d_X5_goOn_73 rfl rfl) ?_
            refine xv (x_getfield 77 d_X5_goOn_74 rfl f_5_9 (Nat.le_of_ble_eq_true rfl) (Nat.le_of_ble_eq_true rfl) (q_gf_of hA2.1 rfl)) ?_
            refine xv (x_iload_n 78 d_X5_goOn_77 rfl rfl) ?_
            refine xv (x_aload_n 79 d_X5_goOn_78 rfl rfl) ?_
            refine xv (x_getfield 82 d_X5_goOn_79 rfl f_5_9 (Nat.le_of_ble_eq_true rfl) (Nat.le_of_ble_eq_true rfl) (q_gf_of hA2.1 rfl)) ?_
            refine xv (x_iload_n 83 d_X5_goOn_82 rfl rfl) ?_
            refine xv (x_iconst 84 d_X5_goOn_83 rfl) ?_
            refine xv (x_iadd 85 d_X5_goOn_84 rfl) ?_
            refine xv (x_iaload 86 d_X5_goOn_85 rfl (ai_g hA2.2 (by omega) (by omega) (by decide))) ?_
            obtain ⟨h86, e86, w86, f86⟩ := rb_ps (z := k) (v := (shf k m) (6 + (k + 1))) hA2 (by omega) (by omega)
            have F86 : Fr a 2 h h86 := fr_tr hF2 (fr_in f86 (by omega) (by omega))
            refine xv (x_iastore 87 d_X5_goOn_86 rfl e86) ?_
            show Xv E q_m_X5_goOn 87 [Value.ref a, Value.int (zi (ahf (f) 1)), Value.int (zi k)] [] h86 Q
            refine xv (x_iinc 90 d_X5_goOn_87 rfl rfl) ?_
            show Xv E q_m_X5_goOn 90 [Value.ref a, Value.int (zi (ahf (f) 1)), Value.int (zi (k + 1))] [] h86 Q
            refine xv (x_goto 54 d_X5_goOn_90 rfl) ?_
            refine ih54 _ (by omega) m (k + 1) _ hm (by omega) (by omega) (rb_cg w86 fun i i0 i1 => ?_) F86 rfl
            exact shf_s (by omega) i
    exact L54 _ (u1 f 3 ((f 3) - 1)) 0 _ (gon_a k11) (by omega) (by show (0:Int) ≤ f 3 - 1; omega) (rb_cg w49 fun i i0 i1 => (if_neg (by omega)).symm) F49 rfl
  · refine xv (x_aload_n 15 d_X5_goOn_14 rfl rfl) ?_
    refine xv (x_iload_n 16 d_X5_goOn_15 rfl rfl) ?_
    obtain ⟨h16, e16, w16, f16⟩ := rb_pf0 (v := ahf (f) 1) hA
    have F16 : Fr a 2 h h16 := fr_tr fr_rf (fr_in f16 (by omega) (by omega))
    refine xv (x_putfield 19 d_X5_goOn_16 rfl f_5_19 (Nat.le_of_ble_eq_true rfl) e16 rfl rfl (fun e => absurd e (by decide))) ?_
    show Xv E q_m_X5_goOn 19 [Value.ref a, Value.int (zi (ahf (f) 1)), Value.null] [] h16 Q
    refine xv (x_aload_n 20 d_X5_goOn_19 rfl rfl) ?_
    refine xv (x_dup 21 d_X5_goOn_20 rfl rfl) ?_
    refine xv (x_getfield 24 d_X5_goOn_21 rfl f_5_22 (Nat.le_of_ble_eq_true rfl) (Nat.le_of_ble_eq_true rfl) ((q_gf_of w16.1 rfl).trans (cz (u1_ne (by omega))))) ?_
    refine xv (x_aload_n 25 d_X5_goOn_24 rfl rfl) ?_
    refine xv (x_getfield 28 d_X5_goOn_25 rfl f_5_31 (Nat.le_of_ble_eq_true rfl) (Nat.le_of_ble_eq_true rfl) ((q_gf_of w16.1 rfl).trans (cz (u1_ne (by omega))))) ?_
    refine xv (x_isub 29 d_X5_goOn_28 rfl) ?_
    obtain ⟨h29, e29, w29, f29⟩ := rb_pf1 (v := (f 1) - (f 4)) w16
    have F29 : Fr a 2 h h29 := fr_tr F16 (fr_in f29 (by omega) (by omega))
    refine xv (x_putfield 32 d_X5_goOn_29 rfl f_5_22 (Nat.le_of_ble_eq_true rfl) e29 rfl rfl (fun e => absurd e (by decide))) ?_
    show Xv E q_m_X5_goOn 32 [Value.ref a, Value.int (zi (ahf (f) 1)), Value.null] [] h29 Q
    refine xv (x_aload_n 33 d_X5_goOn_32 rfl rfl) ?_
    refine xv (x_dup 34 d_X5_goOn_33 rfl rfl) ?_
    refine xv (x_getfield 37 d_X5_goOn_34 rfl f_5_25 (Nat.le_of_ble_eq_true rfl) (Nat.le_of_ble_eq_true rfl) ((q_gf_of w29.1 rfl).trans (cz ((u1_ne (by omega)).trans (u1_ne (by omega)))))) ?_
    refine xv (x_iconst 38 d_X5_goOn_37 rfl) ?_
    refine xv (x_iadd 39 d_X5_goOn_38 rfl) ?_
    obtain ⟨h39, e39, w39, f39⟩ := rb_pf3 (v := (f 5) + 1) w29
    have F39 : Fr a 2 h h39 := fr_tr F29 (fr_in f39 (by omega) (by omega))
    refine xv (x_putfield 42 d_X5_goOn_39 rfl f_5_25 (Nat.le_of_ble_eq_true rfl) e39 rfl rfl (fun e => absurd e (by decide))) ?_
    show Xv E q_m_X5_goOn 42 [Value.ref a, Value.int (zi (ahf (f) 1)), Value.null] [] h39 Q
    refine xv (x_aload_n 43 d_X5_goOn_42 rfl rfl) ?_
    refine xv (x_dup 44 d_X5_goOn_43 rfl rfl) ?_
    refine xv (x_getfield 47 d_X5_goOn_44 rfl f_5_28 (Nat.le_of_ble_eq_true rfl) (Nat.le_of_ble_eq_true rfl) ((q_gf_of w39.1 rfl).trans (cz ((u1_ne (by omega)).trans ((u1_ne (by omega)).trans (u1_ne (by omega))))))) ?_
    refine xv (x_iconst 48 d_X5_goOn_47 rfl) ?_
    refine xv (x_isub 49 d_X5_goOn_48 rfl) ?_
    obtain ⟨h49, e49, w49, f49⟩ := rb_pf4 (v := (f 3) - 1) w39
    have F49 : Fr a 2 h h49 := fr_tr F39 (fr_in f49 (by omega) (by omega))
    refine xv (x_putfield 52 d_X5_goOn_49 rfl f_5_28 (Nat.le_of_ble_eq_true rfl) e49 rfl rfl (fun e => absurd e (by decide))) ?_
    show Xv E q_m_X5_goOn 52 [Value.ref a, Value.int (zi (ahf (f) 1)), Value.null] [] h49 Q
    refine xv (x_iconst 53 d_X5_goOn_52 rfl) ?_
    refine xv (x_istore_n 54 d_X5_goOn_53 rfl (Nat.le_of_ble_eq_true rfl)) ?_
    show Xv E q_m_X5_goOn 54 [Value.ref a, Value.int (zi (ahf (f) 1)), Value.int (zi 0)] [] h49 Q
    have L54 : ∀ (n : Nat) (m : Int → Int) (k : Int) (H : q_H), (GonM f m) → (0 ≤ k) → (k ≤ m 3) → (RB H a (shf k m)) → (Fr a 2 h H) → (m 3 - k).toNat = n → Xv E q_m_X5_goOn 54 [Value.ref a, Value.int (zi (ahf (f) 1)), Value.int (zi k)] [] H Q := by
      intro n
      induction n using Nat.strongRecOn with
      | _ n ih54 =>
        intro m k H hm k0 k1 hA2 hF2 em
        have e3 : shf k m 3 = m 3 := if_neg (by omega)
        have m3 := hm.1
        refine xv (x_iload_n 55 d_X5_goOn_54 rfl rfl) ?_
        refine xv (x_aload_n 56 d_X5_goOn_55 rfl rfl) ?_
        refine xv (x_getfield 59 d_X5_goOn_56 rfl f_5_28 (Nat.le_of_ble_eq_true rfl) (Nat.le_of_ble_eq_true rfl) (q_gf_of hA2.1 rfl)) ?_
        refine v_icmp_ge 93 62 d_X5_goOn_59 rfl rfl (by omega) (by omega) (by omega) (by omega) (fun k59 => ?_) (fun k59 => ?_)
        · refine xv_r (x_return d_X5_goOn_93 rfl) ?_
          refine hQ _ _ ⟨rfl, rb_cg hA2 fun i i0 i1 => ?_, hF2⟩
          have ek : k = m 3 := by omega
          rw [gon_s hm i i0 i1, ← ek]
        · refine xv (x_iload_n 63 d_X5_goOn_62 rfl rfl) ?_
          refine xv (x_iconst 64 d_X5_goOn_63 rfl) ?_
          refine xv (x_iadd 65 d_X5_goOn_64 rfl) ?_
          refine xv (x_aload_n 66 d_X5_goOn_65 rfl rfl) ?_
          refine xv (x_getfield 69 d_X5_goOn_66 rfl f_5_9 (Nat.le_of_ble_eq_true rfl) (Nat.le_of_ble_eq_true rfl) (q_gf_of hA2.1 rfl)) ?_
          refine xv (x_arraylength 70 d_X5_goOn_69 rfl (ai_l hA2.2 (by decide))) ?_
          refine v_icmp_ge 93 73 d_X5_goOn_70 rfl rfl (by omega) (by omega) (by omega) (by omega) (fun k70 => ?_) (fun k70 => ?_)
          · refine xv_r (x_return d_X5_goOn_93 rfl) ?_
            refine hQ _ _ ⟨rfl, rb_cg hA2 fun i i0 i1 => ?_, hF2⟩
            have ek : k = m 3 := by omega
            rw [gon_s hm i i0 i1, ← ek]
          · refine xv (x_aload_n 74 d_X5_goOn_73 rfl rfl) ?_
            refine xv (x_getfield 77 d_X5_goOn_74 rfl f_5_9 (Nat.le_of_ble_eq_true rfl) (Nat.le_of_ble_eq_true rfl) (q_gf_of hA2.1 rfl)) ?_
            refine xv (x_iload_n 78 d_X5_goOn_77 rfl rfl) ?_
            refine xv (x_aload_n 79 d_X5_goOn_78 rfl rfl) ?_
            refine xv (x_getfield 82 d_X5_goOn_79 rfl f_5_9 (Nat.le_of_ble_eq_true rfl) (Nat.le_of_ble_eq_true rfl) (q_gf_of hA2.1 rfl)) ?_
            refine xv (x_iload_n 83 d_X5_goOn_82 rfl rfl) ?_
            refine xv (x_iconst 84 d_X5_goOn_83 rfl) ?_
            refine xv (x_iadd 85 d_X5_goOn_84 rfl) ?_
            refine xv (x_iaload 86 d_X5_goOn_85 rfl (ai_g hA2.2 (by omega) (by omega) (by decide))) ?_
            obtain ⟨h86, e86, w86, f86⟩ := rb_ps (z := k) (v := (shf k m) (6 + (k + 1))) hA2 (by omega) (by omega)
            have F86 : Fr a 2 h h86 := fr_tr hF2 (fr_in f86 (by omega) (by omega))
            refine xv (x_iastore 87 d_X5_goOn_86 rfl e86) ?_
            show Xv E q_m_X5_goOn 87 [Value.ref a, Value.int (zi (ahf (f) 1)), Value.int (zi k)] [] h86 Q
            refine xv (x_iinc 90 d_X5_goOn_87 rfl rfl) ?_
            show Xv E q_m_X5_goOn 90 [Value.ref a, Value.int (zi (ahf (f) 1)), Value.int (zi (k + 1))] [] h86 Q
            refine xv (x_goto 54 d_X5_goOn_90 rfl) ?_
            refine ih54 _ (by omega) m (k + 1) _ hm (by omega) (by omega) (rb_cg w86 fun i i0 i1 => ?_) F86 rfl
            exact shf_s (by omega) i
    exact L54 _ (u1 (u1 (u1 (u1 f 0 (ahf (f) 1)) 1 ((f 1) - (f 4))) 5 ((f 5) + 1)) 3 ((f 3) - 1)) 0 _ (gon_b k11) (by omega) (by show (0:Int) ≤ f 3 - 1; omega) (rb_cg w49 fun i i0 i1 => (if_neg (by omega)).symm) F49 rfl
end CW
