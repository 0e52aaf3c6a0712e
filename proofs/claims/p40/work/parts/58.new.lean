/-! constructors (printed by program) -/
section QXA
variable {E : q_E} {M M' : q_M} {pc pc' t len k : Nat} {i : Instr} {ls ls' st st' vs : List Value} {h h' h'' : q_H} {a b m n c s : Nat}
theorem zi_nn {z : Int} (h1 : 0 ≤ z) (h2 : z < 2147483648) : ¬ zi z < 0 := by
  rw [show (0 : Int32) = zi 0 from rfl, zi_lt (by omega) (by omega) (by omega) (by omega)]
  omega
theorem xA_newarray (pc' : Nat) {ty : ArrayType} {ft : FieldType} {n : Nat} (hd : decode M.2.1 pc = .ok (.newarray ty, 2)) (hp : pc + 2 = pc') (ht : q_na ty = some (t, ft)) (hn : n ≤ 1000000) (ha : h.2.1 = some a) (he : q_al h a (.inl (t, n, q_z t)) n = h') : q_ex E M pc ls (.int (zi (n : Int)) :: st) h = q_ex E M pc' ls (.ref a :: st) h' := by
  subst hp; subst he
  have e : (zi (n : Int)).toNatClampNeg = n := by rw [zi_nat (by omega) (by omega)]; omega
  refine x_go (f := (pc + 2, ls, .ref a :: st, q_al h a (.inl (t, n, q_z t)) n)) hd ?_
  simp only [q_stepI, ha, ht, e]
  rw [if_pos ⟨trivial, zi_nn (by omega) (by omega), hn⟩]
  rfl
theorem xA_anewarray (pc' : Nat) {ix : Nat} {ps : Nat × Nat} {n : Nat} (hd : decode M.2.1 pc = .ok (.anewarray ix, 3)) (hp : pc + 3 = pc') (ht : q_lk (q_anw (q_own M)) ix = some (t, ps)) (ho : q_own M < 10) (hn : n ≤ 1000000) (ha : h.2.1 = some a) (he : q_al h a (.inl (t, n, .inr (.inr (.inr (.inr fun _ => none))))) n = h') : q_ex E M pc ls (.int (zi (n : Int)) :: st) h = q_ex E M pc' ls (.ref a :: st) h' := by
  subst hp; subst he
  have e : (zi (n : Int)).toNatClampNeg = n := by rw [zi_nat (by omega) (by omega)]; omega
  refine x_go (f := (pc + 3, ls, .ref a :: st, q_al h a (.inl (t, n, .inr (.inr (.inr (.inr fun _ => none))))) n)) hd ?_
  simp only [q_stepI, ha, ht, e]
  rw [if_pos ⟨⟨trivial, ho⟩, zi_nn (by omega) (by omega), hn⟩]
  rfl
theorem xA_multi (pc' : Nat) {ix : Nat} {pq : Nat × Nat} {n k : Nat} (hd : decode M.2.1 pc = .ok (.multianewarray ix 2, 4)) (hp : pc + 4 = pc') (ht : q_lk (q_mna (q_own M)) ix = some pq) (ho : q_own M < 10) (hn : n ≤ 1000) (hk : k ≤ 1000) (ha : h.2.1 = some a) (he : q_alm h a n k = h') : q_ex E M pc ls (.int (zi (k : Int)) :: .int (zi (n : Int)) :: st) h = q_ex E M pc' ls (.ref a :: st) h' := by
  subst hp; subst he
  have e : (zi (n : Int)).toNatClampNeg = n := by rw [zi_nat (by omega) (by omega)]; omega
  have e2 : (zi (k : Int)).toNatClampNeg = k := by rw [zi_nat (by omega) (by omega)]; omega
  refine x_go (f := (pc + 4, ls, .ref a :: st, q_alm h a n k)) hd ?_
  simp only [q_stepI, ha, ht, e, e2]
  rw [if_pos ⟨⟨⟨trivial, ho⟩, trivial⟩, ⟨zi_nn (by omega) (by omega), zi_nn (by omega) (by omega)⟩, hn, hk⟩]
  rfl
theorem xA_new (pc' : Nat) {ix ci : Nat} {ps : Nat × Nat × Nat} (hd : decode M.2.1 pc = .ok (.new ix, 3)) (hp : pc + 3 = pc') (ht : q_lk (q_new (q_own M)) ix = some (ci, ps)) (ho : q_own M < 17) (ha : h.2.1 = some a) (he : q_al h a (.inr (ci, q_df ci)) (q_N ci) = h') : q_ex E M pc ls st h = q_ex E M pc' ls (.ref a :: st) h' := by
  subst hp; subst he
  refine x_go (f := (pc + 3, ls, .ref a :: st, q_al h a (.inr (ci, q_df ci)) (q_N ci))) hd ?_
  simp only [q_stepI, ha, ht]
  rw [if_pos ⟨trivial, ho⟩]
  rfl
theorem al_x {e : va_E} (hs : h.2 = (some a, c, s)) : ∃ h', q_al h a e n = h' ∧ h'.1 a = some e ∧ Fr a 1 h (h'.1, h.2) ∧ h'.2 = (some (a + 1), c + 1, s + n) := ⟨_, rfl, if_pos rfl, ⟨rfl, fun b k => if_neg (by omega)⟩, by show (some (a + 1), h.2.2.1 + 1, h.2.2.2 + n) = _; rw [hs]⟩
theorem sz_1 (hs : h.2 = (some a, c, s)) : h.2.1 = some a := by rw [hs]
theorem sz_eq {a' c' s' : Nat} (H : h.2 = (some a, c, s)) (e1 : a = a') (e2 : c = c') (e3 : s = s') : h.2 = (some a', c', s') := by
  subst e1; subst e2; subst e3; exact H
theorem fc_rf : Fr a n h (h.1, h.2) := ⟨rfl, fun _ _ => rfl⟩
theorem fc_tr (p : Fr a n h (h'.1, h.2)) (f : ∀ x, x < b ∨ b + m ≤ x → h''.1 x = h'.1 x) (k : a ≤ b ∧ b + m ≤ a + n) : Fr a n h (h''.1, h.2) := ⟨rfl, fun x q => (f x (by omega)).trans (p.2 x q)⟩
theorem ai_new {t : Nat} {f : Nat → Int32} (e : h.1 a = some (.inl (t, n, .inl f))) (hf : f = fun _ => 0) : AI h a t n (fun _ => 0) := ⟨f, e, fun k _ => by rw [hf]; rfl⟩
theorem al_new (e : h.1 a = some (.inl (1, n, .inr (.inl fun _ => 0)))) : AL h a n (fun _ => 0) := ⟨_, e, fun k _ => rfl⟩
/-- a row of references -/
def AQ (h : q_H) (a t n : Nat) (g : Nat → Option Nat) : Prop := ∃ g', h.1 a = some (.inl (t, n, .inr (.inr (.inr (.inr g'))))) ∧ ∀ i, i < n → g' i = g i
theorem aq_fr {g : Nat → Option Nat} {t : Nat} (H : AQ h a t n g) (F : Fr b m h h') (k : a < b ∨ b + m ≤ a) : AQ h' a t n g := by
  obtain ⟨g', e1, e2⟩ := H
  exact ⟨g', (F.2 _ (by omega)).trans e1, e2⟩
theorem aq_l {g : Nat → Option Nat} {t : Nat} (H : AQ h a t n g) (ht : t ≤ 8) : q_len E h a = some (zi (n : Int)) := by
  obtain ⟨g', e1, e2⟩ := H
  unfold q_len
  rw [e1]
  simp only
  rw [if_pos ht]
  rfl
theorem aq_s {g : Nat → Option Nat} {t v ci : Nat} {fs : List Value} {z : Int} (H : AQ h a t n g) (hv : h.1 v = some (.inr (ci, fs))) (ht : 5 ≤ t ∧ t ≤ 7) (hc : ci = q_ec t) (h1 : 0 ≤ z) (h2 : z < n) (hn : n < 2147483648) : ∃ h', q_sQ h a (zi z) v = some h' ∧ AQ h' a t n (fun i => if i = z.toNat then some v else g i) ∧ Fr a 1 h h' := by
  obtain ⟨g', e1, e2⟩ := H
  refine ⟨q_up h a (.inl (t, n, .inr (.inr (.inr (.inr (va_up g' z.toNat (some v))))))), ?_, ⟨_, q_up_eq, fun i hi => ?_⟩, fr_up⟩
  · unfold q_sQ
    rw [e1, hv]
    simp only
    rw [if_pos ⟨ht, hc, zi_in h1 h2 hn⟩, zi_nat h1 (by omega)]
  · show (if i = z.toNat then some v else g' i) = if i = z.toNat then some v else g i
    rw [e2 i hi]
theorem aq_cg {g g2 : Nat → Option Nat} {t : Nat} (H : AQ h a t n g) (e : ∀ i, i < n → g i = g2 i) : AQ h a t n g2 := by
  obtain ⟨g', e1, e2⟩ := H
  exact ⟨g', e1, fun i hi => (e2 i hi).trans (e i hi)⟩
end QXA
section CTO
variable {E : q_E} {h h' : q_H} {x w v a b t N k d c s : Nat}
def bg5 : Int → Int := fun i => if i = 2 then -1 else 0
def bg3 : Int → Int := fun i => if i = 4 then -1 else 0
theorem S_X5_init (hO : h.1 a = some (.inr (5, q_df 5))) (hs : h.2 = (some (a + 1), c, s))  : ∃ r_ h', q_cl E q_m_X5_init [Value.ref a] h = some (r_, h') ∧ (r_ = .inl none ∧ RB h' a bg5 ∧ h'.2 = (some (a + 2), c + 1, s + 30) ∧ Fr a 2 h (h'.1, h.2)) := by
  suffices K : ∀ Q : q_R → q_H → Prop, (∀ r_ h', (r_ = .inl none ∧ RB h' a bg5 ∧ h'.2 = (some (a + 2), c + 1, s + 30) ∧ Fr a 2 h (h'.1, h.2)) → Q r_ h') → Xv E q_m_X5_init 0 [Value.ref a] [] h Q from K _ fun _ _ p => p
  intro Q hQ
  replace hO : h.1 a = some (.inr (5, [Value.int (zi 0), Value.int (zi 0), Value.int (zi 0), Value.int (zi 0), Value.int (zi 0), Value.int (zi 0), Value.null])) := hO
  refine xv (x_aload_n 1 d_X5_init_0 rfl rfl) ?_
  refine xv (x_obj 4 d_X5_init_1 rfl rfl rfl (Nat.le_of_ble_eq_true rfl) (Nat.le_of_ble_eq_true rfl) (Nat.le_of_ble_eq_true rfl)) ?_
  refine xv (x_aload_n 5 d_X5_init_4 rfl rfl) ?_
  refine xv (x_bipush 7 d_X5_init_5 rfl rfl) ?_
  obtain ⟨h7, e7, a7, f7, z7⟩ := al_x (h := h) (e := .inl (0, 30, q_z 0)) (n := 30) hs
  have O_7 : h7.1 a = some (.inr (5, [Value.int (zi 0), Value.int (zi 0), Value.int (zi 0), Value.int (zi 0), Value.int (zi 0), Value.int (zi 0), Value.null])) := by have z_ := (f7.2 _ (by omega)).trans hO; exact z_
  have F7 : Fr a 2 h (h7.1, h.2) := fc_tr fc_rf f7.2 (by omega)
  refine xv (xA_newarray (n := 30) 9 d_X5_init_7 rfl rfl (by decide) (sz_1 hs) e7) ?_
  have r7 := ai_new a7 rfl
  show Xv E q_m_X5_init 9 [Value.ref a] [Value.ref (a + 1), Value.ref a] h7 Q
  obtain ⟨h9, e9, w9, f9⟩ := obj_pf (k := 6) (v := Value.ref (a + 1)) O_7 (Nat.le_of_ble_eq_true rfl)
  have SZ_9 := f9.1.trans z7
  have N7_9 := ai_fr r7 f9 (by omega)
  have F9 : Fr a 2 h (h9.1, h.2) := fc_tr F7 f9.2 (by omega)
  replace w9 : h9.1 a = some (.inr (5, [Value.int (zi 0), Value.int (zi 0), Value.int (zi 0), Value.int (zi 0), Value.int (zi 0), Value.int (zi 0), Value.ref (a + 1)])) := w9
  refine xv (x_putfield 12 d_X5_init_9 rfl f_5_9 (Nat.le_of_ble_eq_true rfl) e9 rfl rfl (fun _ => ⟨rfl, rfl⟩)) ?_
  show Xv E q_m_X5_init 12 [Value.ref a] [] h9 Q
  refine xv (x_aload_n 13 d_X5_init_12 rfl rfl) ?_
  refine xv (x_iconst 14 d_X5_init_13 rfl) ?_
  obtain ⟨h14, e14, w14, f14⟩ := obj_pf (k := 2) (v := Value.int (zi (-1))) w9 (Nat.le_of_ble_eq_true rfl)
  have SZ_14 := f14.1.trans SZ_9
  have N7_14 := ai_fr N7_9 f14 (by omega)
  have F14 : Fr a 2 h (h14.1, h.2) := fc_tr F9 f14.2 (by omega)
  replace w14 : h14.1 a = some (.inr (5, [Value.int (zi 0), Value.int (zi 0), Value.int (zi (-1)), Value.int (zi 0), Value.int (zi 0), Value.int (zi 0), Value.ref (a + 1)])) := w14
  refine xv (x_putfield 17 d_X5_init_14 rfl f_5_15 (Nat.le_of_ble_eq_true rfl) e14 rfl rfl (fun e => absurd e (by decide))) ?_
  show Xv E q_m_X5_init 17 [Value.ref a] [] h14 Q
  refine xv_r (x_return d_X5_init_17 rfl) ?_
  exact hQ _ _ ⟨rfl, ⟨w14, ai_cg N7_14 fun i a_ b_ => (if_neg (by omega)).symm⟩, SZ_14, F14⟩
theorem S_X3_init (hO : h.1 a = some (.inr (3, q_df 3))) (hs : h.2 = (some (a + 1), c, s))  : ∃ r_ h', q_cl E q_m_X3_init [Value.ref a] h = some (r_, h') ∧ (r_ = .inl none ∧ OB h' a bg3 ∧ h'.2 = (some (a + 2), c + 1, s + 3) ∧ Fr a 2 h (h'.1, h.2)) := by
  suffices K : ∀ Q : q_R → q_H → Prop, (∀ r_ h', (r_ = .inl none ∧ OB h' a bg3 ∧ h'.2 = (some (a + 2), c + 1, s + 3) ∧ Fr a 2 h (h'.1, h.2)) → Q r_ h') → Xv E q_m_X3_init 0 [Value.ref a] [] h Q from K _ fun _ _ p => p
  intro Q hQ
  replace hO : h.1 a = some (.inr (3, [Value.int (zi 0), Value.int (zi 0), Value.int (zi 0), Value.int (zi 0), Value.null])) := hO
  refine xv (x_aload_n 1 d_X3_init_0 rfl rfl) ?_
  refine xv (x_obj 4 d_X3_init_1 rfl rfl rfl (Nat.le_of_ble_eq_true rfl) (Nat.le_of_ble_eq_true rfl) (Nat.le_of_ble_eq_true rfl)) ?_
  refine xv (x_aload_n 5 d_X3_init_4 rfl rfl) ?_
  refine xv (x_iconst 6 d_X3_init_5 rfl) ?_
  obtain ⟨h6, e6, a6, f6, z6⟩ := al_x (h := h) (e := .inl (0, 3, q_z 0)) (n := 3) hs
  have O_6 : h6.1 a = some (.inr (3, [Value.int (zi 0), Value.int (zi 0), Value.int (zi 0), Value.int (zi 0), Value.null])) := by have z_ := (f6.2 _ (by omega)).trans hO; exact z_
  have F6 : Fr a 2 h (h6.1, h.2) := fc_tr fc_rf f6.2 (by omega)
  refine xv (xA_newarray (n := 3) 8 d_X3_init_6 rfl rfl (by decide) (sz_1 hs) e6) ?_
  have r6 := ai_new a6 rfl
  show Xv E q_m_X3_init 8 [Value.ref a] [Value.ref (a + 1), Value.ref a] h6 Q
  obtain ⟨h8, e8, w8, f8⟩ := obj_pf (k := 4) (v := Value.ref (a + 1)) O_6 (Nat.le_of_ble_eq_true rfl)
  have SZ_8 := f8.1.trans z6
  have N6_8 := ai_fr r6 f8 (by omega)
  have F8 : Fr a 2 h (h8.1, h.2) := fc_tr F6 f8.2 (by omega)
  replace w8 : h8.1 a = some (.inr (3, [Value.int (zi 0), Value.int (zi 0), Value.int (zi 0), Value.int (zi 0), Value.ref (a + 1)])) := w8
  refine xv (x_putfield 11 d_X3_init_8 rfl f_3_9 (Nat.le_of_ble_eq_true rfl) e8 rfl rfl (fun _ => ⟨rfl, rfl⟩)) ?_
  show Xv E q_m_X3_init 11 [Value.ref a] [] h8 Q
  refine xv (x_aload_n 12 d_X3_init_11 rfl rfl) ?_
  refine xv (x_iconst 13 d_X3_init_12 rfl) ?_
  obtain ⟨h13, e13, w13, f13⟩ := obj_pf (k := 3) (v := Value.int (zi (-1))) w8 (Nat.le_of_ble_eq_true rfl)
  have SZ_13 := f13.1.trans SZ_8
  have N6_13 := ai_fr N6_8 f13 (by omega)
  have F13 : Fr a 2 h (h13.1, h.2) := fc_tr F8 f13.2 (by omega)
  replace w13 : h13.1 a = some (.inr (3, [Value.int (zi 0), Value.int (zi 0), Value.int (zi 0), Value.int (zi (-1)), Value.ref (a + 1)])) := w13
  refine xv (x_putfield 16 d_X3_init_13 rfl f_3_15 (Nat.le_of_ble_eq_true rfl) e13 rfl rfl (fun e => absurd e (by decide))) ?_
  show Xv E q_m_X3_init 16 [Value.ref a] [] h13 Q
  refine xv_r (x_return d_X3_init_16 rfl) ?_
  exact hQ _ _ ⟨rfl, ⟨w13, ai_cg N6_13 fun i a_ b_ => (if_neg (by omega)).symm⟩, SZ_13, F13⟩
theorem S_X2_init (hO : h.1 a = some (.inr (2, q_df 2))) (hs : h.2 = (some (a + 1), c, s))  : ∃ r_ h', q_cl E q_m_X2_init [Value.ref a] h = some (r_, h') ∧ (r_ = .inl none ∧ (LTo h' a 0 0 0 ∧ AI h' (a + 1) 3 60 (fun _ => 0)) ∧ h'.2 = (some (a + 2), c + 1, s + 60) ∧ Fr a 2 h (h'.1, h.2)) := by
  suffices K : ∀ Q : q_R → q_H → Prop, (∀ r_ h', (r_ = .inl none ∧ (LTo h' a 0 0 0 ∧ AI h' (a + 1) 3 60 (fun _ => 0)) ∧ h'.2 = (some (a + 2), c + 1, s + 60) ∧ Fr a 2 h (h'.1, h.2)) → Q r_ h') → Xv E q_m_X2_init 0 [Value.ref a] [] h Q from K _ fun _ _ p => p
  intro Q hQ
  replace hO : h.1 a = some (.inr (2, [Value.null, Value.int (zi 0), Value.int (zi 0), Value.int (zi 0)])) := hO
  refine xv (x_aload_n 1 d_X2_init_0 rfl rfl) ?_
  refine xv (x_obj 4 d_X2_init_1 rfl rfl rfl (Nat.le_of_ble_eq_true rfl) (Nat.le_of_ble_eq_true rfl) (Nat.le_of_ble_eq_true rfl)) ?_
  refine xv (x_aload_n 5 d_X2_init_4 rfl rfl) ?_
  refine xv (x_bipush 7 d_X2_init_5 rfl rfl) ?_
  obtain ⟨h7, e7, a7, f7, z7⟩ := al_x (h := h) (e := .inl (3, 60, q_z 3)) (n := 60) hs
  have O_7 : h7.1 a = some (.inr (2, [Value.null, Value.int (zi 0), Value.int (zi 0), Value.int (zi 0)])) := by have z_ := (f7.2 _ (by omega)).trans hO; exact z_
  have F7 : Fr a 2 h (h7.1, h.2) := fc_tr fc_rf f7.2 (by omega)
  refine xv (xA_newarray (n := 60) 9 d_X2_init_7 rfl rfl (by decide) (sz_1 hs) e7) ?_
  have r7 := ai_new a7 rfl
  show Xv E q_m_X2_init 9 [Value.ref a] [Value.ref (a + 1), Value.ref a] h7 Q
  obtain ⟨h9, e9, w9, f9⟩ := obj_pf (k := 0) (v := Value.ref (a + 1)) O_7 (Nat.le_of_ble_eq_true rfl)
  have SZ_9 := f9.1.trans z7
  have N7_9 := ai_fr r7 f9 (by omega)
  have F9 : Fr a 2 h (h9.1, h.2) := fc_tr F7 f9.2 (by omega)
  replace w9 : h9.1 a = some (.inr (2, [Value.ref (a + 1), Value.int (zi 0), Value.int (zi 0), Value.int (zi 0)])) := w9
  refine xv (x_putfield 12 d_X2_init_9 rfl f_2_9 (Nat.le_of_ble_eq_true rfl) e9 rfl rfl (fun _ => ⟨rfl, rfl⟩)) ?_
  show Xv E q_m_X2_init 12 [Value.ref a] [] h9 Q
  refine xv_r (x_return d_X2_init_12 rfl) ?_
  exact hQ _ _ ⟨rfl, ⟨w9, N7_9⟩, SZ_9, F9⟩
theorem S_X4_init (hO : h.1 a = some (.inr (4, q_df 4))) (hs : h.2 = (some (a + 1), c, s))  : ∃ r_ h', q_cl E q_m_X4_init [Value.ref a, Value.ref w] h = some (r_, h') ∧ (r_ = .inl none ∧ ((PLo h' a w 0 0 0 ∧ AL h' (a + 3) 31 (fun _ => 0)) ∧ AI h' (a + 1) 0 1488 (fun _ => 0) ∧ AI h' (a + 2) 0 1488 (fun _ => 0) ∧ AI h' (a + 4) 0 30 (fun _ => 0)) ∧ h'.2 = (some (a + 5), c + 4, s + 3037) ∧ Fr a 5 h (h'.1, h.2)) := by
  suffices K : ∀ Q : q_R → q_H → Prop, (∀ r_ h', (r_ = .inl none ∧ ((PLo h' a w 0 0 0 ∧ AL h' (a + 3) 31 (fun _ => 0)) ∧ AI h' (a + 1) 0 1488 (fun _ => 0) ∧ AI h' (a + 2) 0 1488 (fun _ => 0) ∧ AI h' (a + 4) 0 30 (fun _ => 0)) ∧ h'.2 = (some (a + 5), c + 4, s + 3037) ∧ Fr a 5 h (h'.1, h.2)) → Q r_ h') → Xv E q_m_X4_init 0 [Value.ref a, Value.ref w] [] h Q from K _ fun _ _ p => p
  intro Q hQ
  replace hO : h.1 a = some (.inr (4, [Value.null, Value.null, Value.null, Value.null, Value.null, Value.int (zi 0), Value.int (zi 0), Value.int (zi 0)])) := hO
  refine xv (x_aload_n 1 d_X4_init_0 rfl rfl) ?_
  refine xv (x_obj 4 d_X4_init_1 rfl rfl rfl (Nat.le_of_ble_eq_true rfl) (Nat.le_of_ble_eq_true rfl) (Nat.le_of_ble_eq_true rfl)) ?_
  refine xv (x_aload_n 5 d_X4_init_4 rfl rfl) ?_
  refine xv (x_aload_n 6 d_X4_init_5 rfl rfl) ?_
  obtain ⟨h6, e6, w6, f6⟩ := obj_pf (k := 0) (v := Value.ref w) hO (Nat.le_of_ble_eq_true rfl)
  have SZ_6 := f6.1.trans hs
  have F6 : Fr a 5 h (h6.1, h.2) := fc_tr fc_rf f6.2 (by omega)
  replace w6 : h6.1 a = some (.inr (4, [Value.ref w, Value.null, Value.null, Value.null, Value.null, Value.int (zi 0), Value.int (zi 0), Value.int (zi 0)])) := w6
  refine xv (x_putfield 9 d_X4_init_6 rfl f_4_9 (Nat.le_of_ble_eq_true rfl) e6 rfl rfl (fun _ => ⟨rfl, rfl⟩)) ?_
  show Xv E q_m_X4_init 9 [Value.ref a, Value.ref w] [] h6 Q
  refine xv (x_aload_n 10 d_X4_init_9 rfl rfl) ?_
  refine xv (x_sipush 13 d_X4_init_10 rfl rfl) ?_
  obtain ⟨h13, e13, a13, f13, z13⟩ := al_x (h := h6) (e := .inl (0, 1488, q_z 0)) (n := 1488) SZ_6
  have O_13 : h13.1 a = some (.inr (4, [Value.ref w, Value.null, Value.null, Value.null, Value.null, Value.int (zi 0), Value.int (zi 0), Value.int (zi 0)])) := by have z_ := (f13.2 _ (by omega)).trans w6; exact z_
  have F13 : Fr a 5 h (h13.1, h.2) := fc_tr F6 f13.2 (by omega)
  refine xv (xA_newarray (n := 1488) 15 d_X4_init_13 rfl rfl (by decide) (sz_1 SZ_6) e13) ?_
  have r13 := ai_new a13 rfl
  show Xv E q_m_X4_init 15 [Value.ref a, Value.ref w] [Value.ref (a + 1), Value.ref a] h13 Q
  obtain ⟨h15, e15, w15, f15⟩ := obj_pf (k := 1) (v := Value.ref (a + 1)) O_13 (Nat.le_of_ble_eq_true rfl)
  have SZ_15 := f15.1.trans z13
  have N13_15 := ai_fr r13 f15 (by omega)
  have F15 : Fr a 5 h (h15.1, h.2) := fc_tr F13 f15.2 (by omega)
  replace w15 : h15.1 a = some (.inr (4, [Value.ref w, Value.ref (a + 1), Value.null, Value.null, Value.null, Value.int (zi 0), Value.int (zi 0), Value.int (zi 0)])) := w15
  refine xv (x_putfield 18 d_X4_init_15 rfl f_4_15 (Nat.le_of_ble_eq_true rfl) e15 rfl rfl (fun _ => ⟨rfl, rfl⟩)) ?_
  show Xv E q_m_X4_init 18 [Value.ref a, Value.ref w] [] h15 Q
  refine xv (x_aload_n 19 d_X4_init_18 rfl rfl) ?_
  refine xv (x_sipush 22 d_X4_init_19 rfl rfl) ?_
  obtain ⟨h22, e22, a22, f22, z22⟩ := al_x (h := h15) (e := .inl (0, 1488, q_z 0)) (n := 1488) SZ_15
  have O_22 : h22.1 a = some (.inr (4, [Value.ref w, Value.ref (a + 1), Value.null, Value.null, Value.null, Value.int (zi 0), Value.int (zi 0), Value.int (zi 0)])) := by have z_ := (f22.2 _ (by omega)).trans w15; exact z_
  have N13_22 : AI h22 (a + 1) 0 1488 (fun _ => 0) := by have z_ := ai_fr N13_15 f22 (by omega); exact z_
  have F22 : Fr a 5 h (h22.1, h.2) := fc_tr F15 f22.2 (by omega)
  refine xv (xA_newarray (n := 1488) 24 d_X4_init_22 rfl rfl (by decide) (sz_1 SZ_15) e22) ?_
  have r22 := ai_new a22 rfl
  show Xv E q_m_X4_init 24 [Value.ref a, Value.ref w] [Value.ref (a + 2), Value.ref a] h22 Q
  obtain ⟨h24, e24, w24, f24⟩ := obj_pf (k := 2) (v := Value.ref (a + 2)) O_22 (Nat.le_of_ble_eq_true rfl)
  have SZ_24 := f24.1.trans z22
  have N13_24 := ai_fr N13_22 f24 (by omega)
  have N22_24 := ai_fr r22 f24 (by omega)
  have F24 : Fr a 5 h (h24.1, h.2) := fc_tr F22 f24.2 (by omega)
  replace w24 : h24.1 a = some (.inr (4, [Value.ref w, Value.ref (a + 1), Value.ref (a + 2), Value.null, Value.null, Value.int (zi 0), Value.int (zi 0), Value.int (zi 0)])) := w24
  refine xv (x_putfield 27 d_X4_init_24 rfl f_4_19 (Nat.le_of_ble_eq_true rfl) e24 rfl rfl (fun _ => ⟨rfl, rfl⟩)) ?_
  show Xv E q_m_X4_init 27 [Value.ref a, Value.ref w] [] h24 Q
  refine xv (x_aload_n 28 d_X4_init_27 rfl rfl) ?_
  refine xv (x_bipush 30 d_X4_init_28 rfl rfl) ?_
  obtain ⟨h30, e30, a30, f30, z30⟩ := al_x (h := h24) (e := .inl (1, 31, q_z 1)) (n := 31) SZ_24
  have O_30 : h30.1 a = some (.inr (4, [Value.ref w, Value.ref (a + 1), Value.ref (a + 2), Value.null, Value.null, Value.int (zi 0), Value.int (zi 0), Value.int (zi 0)])) := by have z_ := (f30.2 _ (by omega)).trans w24; exact z_
  have N13_30 : AI h30 (a + 1) 0 1488 (fun _ => 0) := by have z_ := ai_fr N13_24 f30 (by omega); exact z_
  have N22_30 : AI h30 (a + 2) 0 1488 (fun _ => 0) := by have z_ := ai_fr N22_24 f30 (by omega); exact z_
  have F30 : Fr a 5 h (h30.1, h.2) := fc_tr F24 f30.2 (by omega)
  refine xv (xA_newarray (n := 31) 32 d_X4_init_30 rfl rfl (by decide) (sz_1 SZ_24) e30) ?_
  have r30 := al_new a30
  show Xv E q_m_X4_init 32 [Value.ref a, Value.ref w] [Value.ref (a + 3), Value.ref a] h30 Q
  obtain ⟨h32, e32, w32, f32⟩ := obj_pf (k := 3) (v := Value.ref (a + 3)) O_30 (Nat.le_of_ble_eq_true rfl)
  have SZ_32 := f32.1.trans z30
  have N13_32 := ai_fr N13_30 f32 (by omega)
  have N22_32 := ai_fr N22_30 f32 (by omega)
  have N30_32 := al_fr r30 f32 (by omega)
  have F32 : Fr a 5 h (h32.1, h.2) := fc_tr F30 f32.2 (by omega)
  replace w32 : h32.1 a = some (.inr (4, [Value.ref w, Value.ref (a + 1), Value.ref (a + 2), Value.ref (a + 3), Value.null, Value.int (zi 0), Value.int (zi 0), Value.int (zi 0)])) := w32
  refine xv (x_putfield 35 d_X4_init_32 rfl f_4_22 (Nat.le_of_ble_eq_true rfl) e32 rfl rfl (fun _ => ⟨rfl, rfl⟩)) ?_
  show Xv E q_m_X4_init 35 [Value.ref a, Value.ref w] [] h32 Q
  refine xv (x_aload_n 36 d_X4_init_35 rfl rfl) ?_
  refine xv (x_bipush 38 d_X4_init_36 rfl rfl) ?_
  obtain ⟨h38, e38, a38, f38, z38⟩ := al_x (h := h32) (e := .inl (0, 30, q_z 0)) (n := 30) SZ_32
  have O_38 : h38.1 a = some (.inr (4, [Value.ref w, Value.ref (a + 1), Value.ref (a + 2), Value.ref (a + 3), Value.null, Value.int (zi 0), Value.int (zi 0), Value.int (zi 0)])) := by have z_ := (f38.2 _ (by omega)).trans w32; exact z_
  have N13_38 : AI h38 (a + 1) 0 1488 (fun _ => 0) := by have z_ := ai_fr N13_32 f38 (by omega); exact z_
  have N22_38 : AI h38 (a + 2) 0 1488 (fun _ => 0) := by have z_ := ai_fr N22_32 f38 (by omega); exact z_
  have N30_38 : AL h38 (a + 3) 31 (fun _ => 0) := by have z_ := al_fr N30_32 f38 (by omega); exact z_
  have F38 : Fr a 5 h (h38.1, h.2) := fc_tr F32 f38.2 (by omega)
  refine xv (xA_newarray (n := 30) 40 d_X4_init_38 rfl rfl (by decide) (sz_1 SZ_32) e38) ?_
  have r38 := ai_new a38 rfl
  show Xv E q_m_X4_init 40 [Value.ref a, Value.ref w] [Value.ref (a + 4), Value.ref a] h38 Q
  obtain ⟨h40, e40, w40, f40⟩ := obj_pf (k := 4) (v := Value.ref (a + 4)) O_38 (Nat.le_of_ble_eq_true rfl)
  have SZ_40 := f40.1.trans z38
  have N13_40 := ai_fr N13_38 f40 (by omega)
  have N22_40 := ai_fr N22_38 f40 (by omega)
  have N30_40 := al_fr N30_38 f40 (by omega)
  have N38_40 := ai_fr r38 f40 (by omega)
  have F40 : Fr a 5 h (h40.1, h.2) := fc_tr F38 f40.2 (by omega)
  replace w40 : h40.1 a = some (.inr (4, [Value.ref w, Value.ref (a + 1), Value.ref (a + 2), Value.ref (a + 3), Value.ref (a + 4), Value.int (zi 0), Value.int (zi 0), Value.int (zi 0)])) := w40
  refine xv (x_putfield 43 d_X4_init_40 rfl f_4_26 (Nat.le_of_ble_eq_true rfl) e40 rfl rfl (fun _ => ⟨rfl, rfl⟩)) ?_
  show Xv E q_m_X4_init 43 [Value.ref a, Value.ref w] [] h40 Q
  refine xv_r (x_return d_X4_init_43 rfl) ?_
  exact hQ _ _ ⟨rfl, ⟨⟨w40, N30_40⟩, N13_40, N22_40, N38_40⟩, sz_eq SZ_40 (by omega) (by omega) (by omega), F40⟩
end CTO
