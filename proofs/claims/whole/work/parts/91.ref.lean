/-! the reference: its constructor (printed by program) -/
section RB8
variable {E : q_E} {h h' : q_H} {am N a t n c s : Nat} {M : q_Im} {f : Int → Int} {z v : Int}
theorem ex_s (ha : h.1 a = some (.inl (t, n, .inl fun k => zi (f k)))) (h1 : 0 ≤ z) (h2 : z < n) (hn : n < 2147483648) : ∃ h', q_sI h t a (zi z) (zi v) = some h' ∧ h'.1 a = some (.inl (t, n, .inl fun k => zi (u1 f z v k))) ∧ Fr a 1 h h' := by
  refine ⟨_, q_sI_of ha h1 h2 hn, ?_, fr_up⟩
  rw [u1_toNat h1]
  exact q_up_eq
def mIn : q_Im := fun j => if j = 0 then (fun k => if k = 17 then -1 else 0) else if j = 1 then u1 (u1 (u1 (u1 (u1 (fun _ => 0) 0 1) 1 2) 5 5) 6 2) 7 30 else fun _ => 0
theorem mw_self (H : ∀ j, j < 12 → h.1 (am + j) = some (mA am M j)) : h = q_mw h am M := by
  refine Prod.ext ?_ rfl
  funext x
  show h.1 x = if am ≤ x ∧ x < am + 12 then some (mA am M (x - am)) else h.1 x
  by_cases q : am ≤ x ∧ x < am + 12
  · rw [if_pos q]
    have := H (x - am) (by omega)
    rw [show am + (x - am) = x by omega] at this
    exact this
  · rw [if_neg q]
theorem S_X8_init (hO : h.1 am = some (.inr (8, q_df 8))) (hs : h.2 = (some (am + 1), c, s)) : ∃ r_ h', q_cl E q_m_X8_init [Value.ref am] h = some (r_, h') ∧ (r_ = .inl none ∧ h' = q_mw h' am mIn ∧ h'.2 = (some (am + 12), c + 11, s + 9469) ∧ Fr am 12 h (h'.1, h.2)) := by
  suffices K : ∀ Q : q_R → q_H → Prop, (∀ r_ h', (r_ = .inl none ∧ h' = q_mw h' am mIn ∧ h'.2 = (some (am + 12), c + 11, s + 9469) ∧ Fr am 12 h (h'.1, h.2)) → Q r_ h') → Xv E q_m_X8_init 0 [Value.ref am] [] h Q from K _ fun _ _ p => p
  intro Q hQ
  replace hO : h.1 am = some (.inr (8, [Value.null, Value.null, Value.int (zi 0), Value.null, Value.int (zi 0), Value.int (zi 0), Value.int (zi 0), Value.int (zi 0), Value.null, Value.null, Value.null, Value.null, Value.null, Value.null, Value.null, Value.null, Value.int (zi 0), Value.int (zi 0), Value.int (zi 0), Value.int (zi 0)])) := hO
  refine xv (x_aload_n 1 d_X8_init_0 rfl rfl) ?_
  refine xv (x_obj 4 d_X8_init_1 rfl rfl rfl (Nat.le_of_ble_eq_true rfl) (Nat.le_of_ble_eq_true rfl) (Nat.le_of_ble_eq_true rfl)) ?_
  refine xv (x_aload_n 5 d_X8_init_4 rfl rfl) ?_
  refine xv (x_sipush 8 d_X8_init_5 rfl rfl) ?_
  obtain ⟨h8, e8, a8, f8, z8⟩ := al_x (h := h) (e := .inl (0, 400, q_z 0)) (n := 400) hs
  have O_8 : h8.1 am = some (.inr (8, [Value.null, Value.null, Value.int (zi 0), Value.null, Value.int (zi 0), Value.int (zi 0), Value.int (zi 0), Value.int (zi 0), Value.null, Value.null, Value.null, Value.null, Value.null, Value.null, Value.null, Value.null, Value.int (zi 0), Value.int (zi 0), Value.int (zi 0), Value.int (zi 0)])) := by have z_ := (f8.2 _ (by omega)).trans hO; exact z_
  have F8 : Fr am 12 h (h8.1, h.2) := fc_tr fc_rf f8.2 (by omega)
  refine xv (xA_newarray (n := 400) 10 d_X8_init_8 rfl rfl (by decide) (sz_1 hs) e8) ?_
  have r8 : h8.1 (am + 1) = some (.inl (0, 400, .inl fun k => zi ((fun _ => 0) k))) := a8
  show Xv E q_m_X8_init 10 [Value.ref am] [Value.ref (am + 1), Value.ref am] h8 Q
  obtain ⟨h10, e10, w10, f10⟩ := obj_pf (k := 0) (v := Value.ref (am + 1)) O_8 (Nat.le_of_ble_eq_true rfl)
  have SZ_10 := f10.1.trans z8
  have N8_10 := (f10.2 _ (by omega)).trans r8
  have F10 : Fr am 12 h (h10.1, h.2) := fc_tr F8 f10.2 (by omega)
  replace w10 : h10.1 am = some (.inr (8, [Value.ref (am + 1), Value.null, Value.int (zi 0), Value.null, Value.int (zi 0), Value.int (zi 0), Value.int (zi 0), Value.int (zi 0), Value.null, Value.null, Value.null, Value.null, Value.null, Value.null, Value.null, Value.null, Value.int (zi 0), Value.int (zi 0), Value.int (zi 0), Value.int (zi 0)])) := w10
  refine xv (x_putfield 13 d_X8_init_10 rfl f_8_9 (Nat.le_of_ble_eq_true rfl) e10 rfl rfl (fun _ => ⟨rfl, rfl⟩)) ?_
  show Xv E q_m_X8_init 13 [Value.ref am] [] h10 Q
  refine xv (x_aload_n 14 d_X8_init_13 rfl rfl) ?_
  refine xv (x_sipush 17 d_X8_init_14 rfl rfl) ?_
  obtain ⟨h17, e17, a17, f17, z17⟩ := al_x (h := h10) (e := .inl (0, 400, q_z 0)) (n := 400) SZ_10
  have O_17 : h17.1 am = some (.inr (8, [Value.ref (am + 1), Value.null, Value.int (zi 0), Value.null, Value.int (zi 0), Value.int (zi 0), Value.int (zi 0), Value.int (zi 0), Value.null, Value.null, Value.null, Value.null, Value.null, Value.null, Value.null, Value.null, Value.int (zi 0), Value.int (zi 0), Value.int (zi 0), Value.int (zi 0)])) := by have z_ := (f17.2 _ (by omega)).trans w10; exact z_
  have N8_17 : h17.1 (am + 1) = some (.inl (0, 400, .inl fun k => zi ((fun _ => 0) k))) := by have z_ := (f17.2 _ (by omega)).trans N8_10; exact z_
  have F17 : Fr am 12 h (h17.1, h.2) := fc_tr F10 f17.2 (by omega)
  refine xv (xA_newarray (n := 400) 19 d_X8_init_17 rfl rfl (by decide) (sz_1 SZ_10) e17) ?_
  have r17 : h17.1 (am + 2) = some (.inl (0, 400, .inl fun k => zi ((fun _ => 0) k))) := a17
  show Xv E q_m_X8_init 19 [Value.ref am] [Value.ref (am + 2), Value.ref am] h17 Q
  obtain ⟨h19, e19, w19, f19⟩ := obj_pf (k := 1) (v := Value.ref (am + 2)) O_17 (Nat.le_of_ble_eq_true rfl)
  have SZ_19 := f19.1.trans z17
  have N8_19 := (f19.2 _ (by omega)).trans N8_17
  have N17_19 := (f19.2 _ (by omega)).trans r17
  have F19 : Fr am 12 h (h19.1, h.2) := fc_tr F17 f19.2 (by omega)
  replace w19 : h19.1 am = some (.inr (8, [Value.ref (am + 1), Value.ref (am + 2), Value.int (zi 0), Value.null, Value.int (zi 0), Value.int (zi 0), Value.int (zi 0), Value.int (zi 0), Value.null, Value.null, Value.null, Value.null, Value.null, Value.null, Value.null, Value.null, Value.int (zi 0), Value.int (zi 0), Value.int (zi 0), Value.int (zi 0)])) := w19
  refine xv (x_putfield 22 d_X8_init_19 rfl f_8_13 (Nat.le_of_ble_eq_true rfl) e19 rfl rfl (fun _ => ⟨rfl, rfl⟩)) ?_
  show Xv E q_m_X8_init 22 [Value.ref am] [] h19 Q
  refine xv (x_aload_n 23 d_X8_init_22 rfl rfl) ?_
  refine xv (x_sipush 26 d_X8_init_23 rfl rfl) ?_
  obtain ⟨h26, e26, a26, f26, z26⟩ := al_x (h := h19) (e := .inl (0, 3200, q_z 0)) (n := 3200) SZ_19
  have O_26 : h26.1 am = some (.inr (8, [Value.ref (am + 1), Value.ref (am + 2), Value.int (zi 0), Value.null, Value.int (zi 0), Value.int (zi 0), Value.int (zi 0), Value.int (zi 0), Value.null, Value.null, Value.null, Value.null, Value.null, Value.null, Value.null, Value.null, Value.int (zi 0), Value.int (zi 0), Value.int (zi 0), Value.int (zi 0)])) := by have z_ := (f26.2 _ (by omega)).trans w19; exact z_
  have N8_26 : h26.1 (am + 1) = some (.inl (0, 400, .inl fun k => zi ((fun _ => 0) k))) := by have z_ := (f26.2 _ (by omega)).trans N8_19; exact z_
  have N17_26 : h26.1 (am + 2) = some (.inl (0, 400, .inl fun k => zi ((fun _ => 0) k))) := by have z_ := (f26.2 _ (by omega)).trans N17_19; exact z_
  have F26 : Fr am 12 h (h26.1, h.2) := fc_tr F19 f26.2 (by omega)
  refine xv (xA_newarray (n := 3200) 28 d_X8_init_26 rfl rfl (by decide) (sz_1 SZ_19) e26) ?_
  have r26 : h26.1 (am + 3) = some (.inl (0, 3200, .inl fun k => zi ((fun _ => 0) k))) := a26
  show Xv E q_m_X8_init 28 [Value.ref am] [Value.ref (am + 3), Value.ref am] h26 Q
  obtain ⟨h28, e28, w28, f28⟩ := obj_pf (k := 3) (v := Value.ref (am + 3)) O_26 (Nat.le_of_ble_eq_true rfl)
  have SZ_28 := f28.1.trans z26
  have N8_28 := (f28.2 _ (by omega)).trans N8_26
  have N17_28 := (f28.2 _ (by omega)).trans N17_26
  have N26_28 := (f28.2 _ (by omega)).trans r26
  have F28 : Fr am 12 h (h28.1, h.2) := fc_tr F26 f28.2 (by omega)
  replace w28 : h28.1 am = some (.inr (8, [Value.ref (am + 1), Value.ref (am + 2), Value.int (zi 0), Value.ref (am + 3), Value.int (zi 0), Value.int (zi 0), Value.int (zi 0), Value.int (zi 0), Value.null, Value.null, Value.null, Value.null, Value.null, Value.null, Value.null, Value.null, Value.int (zi 0), Value.int (zi 0), Value.int (zi 0), Value.int (zi 0)])) := w28
  refine xv (x_putfield 31 d_X8_init_28 rfl f_8_16 (Nat.le_of_ble_eq_true rfl) e28 rfl rfl (fun _ => ⟨rfl, rfl⟩)) ?_
  show Xv E q_m_X8_init 31 [Value.ref am] [] h28 Q
  refine xv (x_aload_n 32 d_X8_init_31 rfl rfl) ?_
  refine xv (x_iconst 33 d_X8_init_32 rfl) ?_
  obtain ⟨h33, e33, a33, f33, z33⟩ := al_x (h := h28) (e := .inl (0, 3, q_z 0)) (n := 3) SZ_28
  have O_33 : h33.1 am = some (.inr (8, [Value.ref (am + 1), Value.ref (am + 2), Value.int (zi 0), Value.ref (am + 3), Value.int (zi 0), Value.int (zi 0), Value.int (zi 0), Value.int (zi 0), Value.null, Value.null, Value.null, Value.null, Value.null, Value.null, Value.null, Value.null, Value.int (zi 0), Value.int (zi 0), Value.int (zi 0), Value.int (zi 0)])) := by have z_ := (f33.2 _ (by omega)).trans w28; exact z_
  have N8_33 : h33.1 (am + 1) = some (.inl (0, 400, .inl fun k => zi ((fun _ => 0) k))) := by have z_ := (f33.2 _ (by omega)).trans N8_28; exact z_
  have N17_33 : h33.1 (am + 2) = some (.inl (0, 400, .inl fun k => zi ((fun _ => 0) k))) := by have z_ := (f33.2 _ (by omega)).trans N17_28; exact z_
  have N26_33 : h33.1 (am + 3) = some (.inl (0, 3200, .inl fun k => zi ((fun _ => 0) k))) := by have z_ := (f33.2 _ (by omega)).trans N26_28; exact z_
  have F33 : Fr am 12 h (h33.1, h.2) := fc_tr F28 f33.2 (by omega)
  refine xv (xA_newarray (n := 3) 35 d_X8_init_33 rfl rfl (by decide) (sz_1 SZ_28) e33) ?_
  have r33 : h33.1 (am + 4) = some (.inl (0, 3, .inl fun k => zi ((fun _ => 0) k))) := a33
  show Xv E q_m_X8_init 35 [Value.ref am] [Value.ref (am + 4), Value.ref am] h33 Q
  obtain ⟨h35, e35, w35, f35⟩ := obj_pf (k := 8) (v := Value.ref (am + 4)) O_33 (Nat.le_of_ble_eq_true rfl)
  have SZ_35 := f35.1.trans z33
  have N8_35 := (f35.2 _ (by omega)).trans N8_33
  have N17_35 := (f35.2 _ (by omega)).trans N17_33
  have N26_35 := (f35.2 _ (by omega)).trans N26_33
  have N33_35 := (f35.2 _ (by omega)).trans r33
  have F35 : Fr am 12 h (h35.1, h.2) := fc_tr F33 f35.2 (by omega)
  replace w35 : h35.1 am = some (.inr (8, [Value.ref (am + 1), Value.ref (am + 2), Value.int (zi 0), Value.ref (am + 3), Value.int (zi 0), Value.int (zi 0), Value.int (zi 0), Value.int (zi 0), Value.ref (am + 4), Value.null, Value.null, Value.null, Value.null, Value.null, Value.null, Value.null, Value.int (zi 0), Value.int (zi 0), Value.int (zi 0), Value.int (zi 0)])) := w35
  refine xv (x_putfield 38 d_X8_init_35 rfl f_8_19 (Nat.le_of_ble_eq_true rfl) e35 rfl rfl (fun _ => ⟨rfl, rfl⟩)) ?_
  show Xv E q_m_X8_init 38 [Value.ref am] [] h35 Q
  refine xv (x_aload_n 39 d_X8_init_38 rfl rfl) ?_
  refine xv (x_sipush 42 d_X8_init_39 rfl rfl) ?_
  obtain ⟨h42, e42, a42, f42, z42⟩ := al_x (h := h35) (e := .inl (2, 1488, q_z 2)) (n := 1488) SZ_35
  have O_42 : h42.1 am = some (.inr (8, [Value.ref (am + 1), Value.ref (am + 2), Value.int (zi 0), Value.ref (am + 3), Value.int (zi 0), Value.int (zi 0), Value.int (zi 0), Value.int (zi 0), Value.ref (am + 4), Value.null, Value.null, Value.null, Value.null, Value.null, Value.null, Value.null, Value.int (zi 0), Value.int (zi 0), Value.int (zi 0), Value.int (zi 0)])) := by have z_ := (f42.2 _ (by omega)).trans w35; exact z_
  have N8_42 : h42.1 (am + 1) = some (.inl (0, 400, .inl fun k => zi ((fun _ => 0) k))) := by have z_ := (f42.2 _ (by omega)).trans N8_35; exact z_
  have N17_42 : h42.1 (am + 2) = some (.inl (0, 400, .inl fun k => zi ((fun _ => 0) k))) := by have z_ := (f42.2 _ (by omega)).trans N17_35; exact z_
  have N26_42 : h42.1 (am + 3) = some (.inl (0, 3200, .inl fun k => zi ((fun _ => 0) k))) := by have z_ := (f42.2 _ (by omega)).trans N26_35; exact z_
  have N33_42 : h42.1 (am + 4) = some (.inl (0, 3, .inl fun k => zi ((fun _ => 0) k))) := by have z_ := (f42.2 _ (by omega)).trans N33_35; exact z_
  have F42 : Fr am 12 h (h42.1, h.2) := fc_tr F35 f42.2 (by omega)
  refine xv (xA_newarray (n := 1488) 44 d_X8_init_42 rfl rfl (by decide) (sz_1 SZ_35) e42) ?_
  have r42 : h42.1 (am + 5) = some (.inl (2, 1488, .inl fun k => zi ((fun _ => 0) k))) := a42
  show Xv E q_m_X8_init 44 [Value.ref am] [Value.ref (am + 5), Value.ref am] h42 Q
  obtain ⟨h44, e44, w44, f44⟩ := obj_pf (k := 9) (v := Value.ref (am + 5)) O_42 (Nat.le_of_ble_eq_true rfl)
  have SZ_44 := f44.1.trans z42
  have N8_44 := (f44.2 _ (by omega)).trans N8_42
  have N17_44 := (f44.2 _ (by omega)).trans N17_42
  have N26_44 := (f44.2 _ (by omega)).trans N26_42
  have N33_44 := (f44.2 _ (by omega)).trans N33_42
  have N42_44 := (f44.2 _ (by omega)).trans r42
  have F44 : Fr am 12 h (h44.1, h.2) := fc_tr F42 f44.2 (by omega)
  replace w44 : h44.1 am = some (.inr (8, [Value.ref (am + 1), Value.ref (am + 2), Value.int (zi 0), Value.ref (am + 3), Value.int (zi 0), Value.int (zi 0), Value.int (zi 0), Value.int (zi 0), Value.ref (am + 4), Value.ref (am + 5), Value.null, Value.null, Value.null, Value.null, Value.null, Value.null, Value.int (zi 0), Value.int (zi 0), Value.int (zi 0), Value.int (zi 0)])) := w44
  refine xv (x_putfield 47 d_X8_init_44 rfl f_8_22 (Nat.le_of_ble_eq_true rfl) e44 rfl rfl (fun _ => ⟨rfl, rfl⟩)) ?_
  show Xv E q_m_X8_init 47 [Value.ref am] [] h44 Q
  refine xv (x_aload_n 48 d_X8_init_47 rfl rfl) ?_
  refine xv (x_sipush 51 d_X8_init_48 rfl rfl) ?_
  obtain ⟨h51, e51, a51, f51, z51⟩ := al_x (h := h44) (e := .inl (2, 1488, q_z 2)) (n := 1488) SZ_44
  have O_51 : h51.1 am = some (.inr (8, [Value.ref (am + 1), Value.ref (am + 2), Value.int (zi 0), Value.ref (am + 3), Value.int (zi 0), Value.int (zi 0), Value.int (zi 0), Value.int (zi 0), Value.ref (am + 4), Value.ref (am + 5), Value.null, Value.null, Value.null, Value.null, Value.null, Value.null, Value.int (zi 0), Value.int (zi 0), Value.int (zi 0), Value.int (zi 0)])) := by have z_ := (f51.2 _ (by omega)).trans w44; exact z_
  have N8_51 : h51.1 (am + 1) = some (.inl (0, 400, .inl fun k => zi ((fun _ => 0) k))) := by have z_ := (f51.2 _ (by omega)).trans N8_44; exact z_
  have N17_51 : h51.1 (am + 2) = some (.inl (0, 400, .inl fun k => zi ((fun _ => 0) k))) := by have z_ := (f51.2 _ (by omega)).trans N17_44; exact z_
  have N26_51 : h51.1 (am + 3) = some (.inl (0, 3200, .inl fun k => zi ((fun _ => 0) k))) := by have z_ := (f51.2 _ (by omega)).trans N26_44; exact z_
  have N33_51 : h51.1 (am + 4) = some (.inl (0, 3, .inl fun k => zi ((fun _ => 0) k))) := by have z_ := (f51.2 _ (by omega)).trans N33_44; exact z_
  have N42_51 : h51.1 (am + 5) = some (.inl (2, 1488, .inl fun k => zi ((fun _ => 0) k))) := by have z_ := (f51.2 _ (by omega)).trans N42_44; exact z_
  have F51 : Fr am 12 h (h51.1, h.2) := fc_tr F44 f51.2 (by omega)
  refine xv (xA_newarray (n := 1488) 53 d_X8_init_51 rfl rfl (by decide) (sz_1 SZ_44) e51) ?_
  have r51 : h51.1 (am + 6) = some (.inl (2, 1488, .inl fun k => zi ((fun _ => 0) k))) := a51
  show Xv E q_m_X8_init 53 [Value.ref am] [Value.ref (am + 6), Value.ref am] h51 Q
  obtain ⟨h53, e53, w53, f53⟩ := obj_pf (k := 10) (v := Value.ref (am + 6)) O_51 (Nat.le_of_ble_eq_true rfl)
  have SZ_53 := f53.1.trans z51
  have N8_53 := (f53.2 _ (by omega)).trans N8_51
  have N17_53 := (f53.2 _ (by omega)).trans N17_51
  have N26_53 := (f53.2 _ (by omega)).trans N26_51
  have N33_53 := (f53.2 _ (by omega)).trans N33_51
  have N42_53 := (f53.2 _ (by omega)).trans N42_51
  have N51_53 := (f53.2 _ (by omega)).trans r51
  have F53 : Fr am 12 h (h53.1, h.2) := fc_tr F51 f53.2 (by omega)
  replace w53 : h53.1 am = some (.inr (8, [Value.ref (am + 1), Value.ref (am + 2), Value.int (zi 0), Value.ref (am + 3), Value.int (zi 0), Value.int (zi 0), Value.int (zi 0), Value.int (zi 0), Value.ref (am + 4), Value.ref (am + 5), Value.ref (am + 6), Value.null, Value.null, Value.null, Value.null, Value.null, Value.int (zi 0), Value.int (zi 0), Value.int (zi 0), Value.int (zi 0)])) := w53
  refine xv (x_putfield 56 d_X8_init_53 rfl f_8_26 (Nat.le_of_ble_eq_true rfl) e53 rfl rfl (fun _ => ⟨rfl, rfl⟩)) ?_
  show Xv E q_m_X8_init 56 [Value.ref am] [] h53 Q
  refine xv (x_aload_n 57 d_X8_init_56 rfl rfl) ?_
  refine xv (x_bipush 59 d_X8_init_57 rfl rfl) ?_
  obtain ⟨h59, e59, a59, f59, z59⟩ := al_x (h := h53) (e := .inl (0, 30, q_z 0)) (n := 30) SZ_53
  have O_59 : h59.1 am = some (.inr (8, [Value.ref (am + 1), Value.ref (am + 2), Value.int (zi 0), Value.ref (am + 3), Value.int (zi 0), Value.int (zi 0), Value.int (zi 0), Value.int (zi 0), Value.ref (am + 4), Value.ref (am + 5), Value.ref (am + 6), Value.null, Value.null, Value.null, Value.null, Value.null, Value.int (zi 0), Value.int (zi 0), Value.int (zi 0), Value.int (zi 0)])) := by have z_ := (f59.2 _ (by omega)).trans w53; exact z_
  have N8_59 : h59.1 (am + 1) = some (.inl (0, 400, .inl fun k => zi ((fun _ => 0) k))) := by have z_ := (f59.2 _ (by omega)).trans N8_53; exact z_
  have N17_59 : h59.1 (am + 2) = some (.inl (0, 400, .inl fun k => zi ((fun _ => 0) k))) := by have z_ := (f59.2 _ (by omega)).trans N17_53; exact z_
  have N26_59 : h59.1 (am + 3) = some (.inl (0, 3200, .inl fun k => zi ((fun _ => 0) k))) := by have z_ := (f59.2 _ (by omega)).trans N26_53; exact z_
  have N33_59 : h59.1 (am + 4) = some (.inl (0, 3, .inl fun k => zi ((fun _ => 0) k))) := by have z_ := (f59.2 _ (by omega)).trans N33_53; exact z_
  have N42_59 : h59.1 (am + 5) = some (.inl (2, 1488, .inl fun k => zi ((fun _ => 0) k))) := by have z_ := (f59.2 _ (by omega)).trans N42_53; exact z_
  have N51_59 : h59.1 (am + 6) = some (.inl (2, 1488, .inl fun k => zi ((fun _ => 0) k))) := by have z_ := (f59.2 _ (by omega)).trans N51_53; exact z_
  have F59 : Fr am 12 h (h59.1, h.2) := fc_tr F53 f59.2 (by omega)
  refine xv (xA_newarray (n := 30) 61 d_X8_init_59 rfl rfl (by decide) (sz_1 SZ_53) e59) ?_
  have r59 : h59.1 (am + 7) = some (.inl (0, 30, .inl fun k => zi ((fun _ => 0) k))) := a59
  show Xv E q_m_X8_init 61 [Value.ref am] [Value.ref (am + 7), Value.ref am] h59 Q
  obtain ⟨h61, e61, w61, f61⟩ := obj_pf (k := 11) (v := Value.ref (am + 7)) O_59 (Nat.le_of_ble_eq_true rfl)
  have SZ_61 := f61.1.trans z59
  have N8_61 := (f61.2 _ (by omega)).trans N8_59
  have N17_61 := (f61.2 _ (by omega)).trans N17_59
  have N26_61 := (f61.2 _ (by omega)).trans N26_59
  have N33_61 := (f61.2 _ (by omega)).trans N33_59
  have N42_61 := (f61.2 _ (by omega)).trans N42_59
  have N51_61 := (f61.2 _ (by omega)).trans N51_59
  have N59_61 := (f61.2 _ (by omega)).trans r59
  have F61 : Fr am 12 h (h61.1, h.2) := fc_tr F59 f61.2 (by omega)
  replace w61 : h61.1 am = some (.inr (8, [Value.ref (am + 1), Value.ref (am + 2), Value.int (zi 0), Value.ref (am + 3), Value.int (zi 0), Value.int (zi 0), Value.int (zi 0), Value.int (zi 0), Value.ref (am + 4), Value.ref (am + 5), Value.ref (am + 6), Value.ref (am + 7), Value.null, Value.null, Value.null, Value.null, Value.int (zi 0), Value.int (zi 0), Value.int (zi 0), Value.int (zi 0)])) := w61
  refine xv (x_putfield 64 d_X8_init_61 rfl f_8_29 (Nat.le_of_ble_eq_true rfl) e61 rfl rfl (fun _ => ⟨rfl, rfl⟩)) ?_
  show Xv E q_m_X8_init 64 [Value.ref am] [] h61 Q
  refine xv (x_aload_n 65 d_X8_init_64 rfl rfl) ?_
  refine xv (x_bipush 67 d_X8_init_65 rfl rfl) ?_
  obtain ⟨h67, e67, a67, f67, z67⟩ := al_x (h := h61) (e := .inl (0, 48, q_z 0)) (n := 48) SZ_61
  have O_67 : h67.1 am = some (.inr (8, [Value.ref (am + 1), Value.ref (am + 2), Value.int (zi 0), Value.ref (am + 3), Value.int (zi 0), Value.int (zi 0), Value.int (zi 0), Value.int (zi 0), Value.ref (am + 4), Value.ref (am + 5), Value.ref (am + 6), Value.ref (am + 7), Value.null, Value.null, Value.null, Value.null, Value.int (zi 0), Value.int (zi 0), Value.int (zi 0), Value.int (zi 0)])) := by have z_ := (f67.2 _ (by omega)).trans w61; exact z_
  have N8_67 : h67.1 (am + 1) = some (.inl (0, 400, .inl fun k => zi ((fun _ => 0) k))) := by have z_ := (f67.2 _ (by omega)).trans N8_61; exact z_
  have N17_67 : h67.1 (am + 2) = some (.inl (0, 400, .inl fun k => zi ((fun _ => 0) k))) := by have z_ := (f67.2 _ (by omega)).trans N17_61; exact z_
  have N26_67 : h67.1 (am + 3) = some (.inl (0, 3200, .inl fun k => zi ((fun _ => 0) k))) := by have z_ := (f67.2 _ (by omega)).trans N26_61; exact z_
  have N33_67 : h67.1 (am + 4) = some (.inl (0, 3, .inl fun k => zi ((fun _ => 0) k))) := by have z_ := (f67.2 _ (by omega)).trans N33_61; exact z_
  have N42_67 : h67.1 (am + 5) = some (.inl (2, 1488, .inl fun k => zi ((fun _ => 0) k))) := by have z_ := (f67.2 _ (by omega)).trans N42_61; exact z_
  have N51_67 : h67.1 (am + 6) = some (.inl (2, 1488, .inl fun k => zi ((fun _ => 0) k))) := by have z_ := (f67.2 _ (by omega)).trans N51_61; exact z_
  have N59_67 : h67.1 (am + 7) = some (.inl (0, 30, .inl fun k => zi ((fun _ => 0) k))) := by have z_ := (f67.2 _ (by omega)).trans N59_61; exact z_
  have F67 : Fr am 12 h (h67.1, h.2) := fc_tr F61 f67.2 (by omega)
  refine xv (xA_newarray (n := 48) 69 d_X8_init_67 rfl rfl (by decide) (sz_1 SZ_61) e67) ?_
  have r67 : h67.1 (am + 8) = some (.inl (0, 48, .inl fun k => zi ((fun _ => 0) k))) := a67
  show Xv E q_m_X8_init 69 [Value.ref am] [Value.ref (am + 8), Value.ref am] h67 Q
  obtain ⟨h69, e69, w69, f69⟩ := obj_pf (k := 12) (v := Value.ref (am + 8)) O_67 (Nat.le_of_ble_eq_true rfl)
  have SZ_69 := f69.1.trans z67
  have N8_69 := (f69.2 _ (by omega)).trans N8_67
  have N17_69 := (f69.2 _ (by omega)).trans N17_67
  have N26_69 := (f69.2 _ (by omega)).trans N26_67
  have N33_69 := (f69.2 _ (by omega)).trans N33_67
  have N42_69 := (f69.2 _ (by omega)).trans N42_67
  have N51_69 := (f69.2 _ (by omega)).trans N51_67
  have N59_69 := (f69.2 _ (by omega)).trans N59_67
  have N67_69 := (f69.2 _ (by omega)).trans r67
  have F69 : Fr am 12 h (h69.1, h.2) := fc_tr F67 f69.2 (by omega)
  replace w69 : h69.1 am = some (.inr (8, [Value.ref (am + 1), Value.ref (am + 2), Value.int (zi 0), Value.ref (am + 3), Value.int (zi 0), Value.int (zi 0), Value.int (zi 0), Value.int (zi 0), Value.ref (am + 4), Value.ref (am + 5), Value.ref (am + 6), Value.ref (am + 7), Value.ref (am + 8), Value.null, Value.null, Value.null, Value.int (zi 0), Value.int (zi 0), Value.int (zi 0), Value.int (zi 0)])) := w69
  refine xv (x_putfield 72 d_X8_init_69 rfl f_8_32 (Nat.le_of_ble_eq_true rfl) e69 rfl rfl (fun _ => ⟨rfl, rfl⟩)) ?_
  show Xv E q_m_X8_init 72 [Value.ref am] [] h69 Q
  refine xv (x_aload_n 73 d_X8_init_72 rfl rfl) ?_
  refine xv (x_bipush 75 d_X8_init_73 rfl rfl) ?_
  obtain ⟨h75, e75, a75, f75, z75⟩ := al_x (h := h69) (e := .inl (0, 48, q_z 0)) (n := 48) SZ_69
  have O_75 : h75.1 am = some (.inr (8, [Value.ref (am + 1), Value.ref (am + 2), Value.int (zi 0), Value.ref (am + 3), Value.int (zi 0), Value.int (zi 0), Value.int (zi 0), Value.int (zi 0), Value.ref (am + 4), Value.ref (am + 5), Value.ref (am + 6), Value.ref (am + 7), Value.ref (am + 8), Value.null, Value.null, Value.null, Value.int (zi 0), Value.int (zi 0), Value.int (zi 0), Value.int (zi 0)])) := by have z_ := (f75.2 _ (by omega)).trans w69; exact z_
  have N8_75 : h75.1 (am + 1) = some (.inl (0, 400, .inl fun k => zi ((fun _ => 0) k))) := by have z_ := (f75.2 _ (by omega)).trans N8_69; exact z_
  have N17_75 : h75.1 (am + 2) = some (.inl (0, 400, .inl fun k => zi ((fun _ => 0) k))) := by have z_ := (f75.2 _ (by omega)).trans N17_69; exact z_
  have N26_75 : h75.1 (am + 3) = some (.inl (0, 3200, .inl fun k => zi ((fun _ => 0) k))) := by have z_ := (f75.2 _ (by omega)).trans N26_69; exact z_
  have N33_75 : h75.1 (am + 4) = some (.inl (0, 3, .inl fun k => zi ((fun _ => 0) k))) := by have z_ := (f75.2 _ (by omega)).trans N33_69; exact z_
  have N42_75 : h75.1 (am + 5) = some (.inl (2, 1488, .inl fun k => zi ((fun _ => 0) k))) := by have z_ := (f75.2 _ (by omega)).trans N42_69; exact z_
  have N51_75 : h75.1 (am + 6) = some (.inl (2, 1488, .inl fun k => zi ((fun _ => 0) k))) := by have z_ := (f75.2 _ (by omega)).trans N51_69; exact z_
  have N59_75 : h75.1 (am + 7) = some (.inl (0, 30, .inl fun k => zi ((fun _ => 0) k))) := by have z_ := (f75.2 _ (by omega)).trans N59_69; exact z_
  have N67_75 : h75.1 (am + 8) = some (.inl (0, 48, .inl fun k => zi ((fun _ => 0) k))) := by have z_ := (f75.2 _ (by omega)).trans N67_69; exact z_
  have F75 : Fr am 12 h (h75.1, h.2) := fc_tr F69 f75.2 (by omega)
  refine xv (xA_newarray (n := 48) 77 d_X8_init_75 rfl rfl (by decide) (sz_1 SZ_69) e75) ?_
  have r75 : h75.1 (am + 9) = some (.inl (0, 48, .inl fun k => zi ((fun _ => 0) k))) := a75
  show Xv E q_m_X8_init 77 [Value.ref am] [Value.ref (am + 9), Value.ref am] h75 Q
  obtain ⟨h77, e77, w77, f77⟩ := obj_pf (k := 13) (v := Value.ref (am + 9)) O_75 (Nat.le_of_ble_eq_true rfl)
  have SZ_77 := f77.1.trans z75
  have N8_77 := (f77.2 _ (by omega)).trans N8_75
  have N17_77 := (f77.2 _ (by omega)).trans N17_75
  have N26_77 := (f77.2 _ (by omega)).trans N26_75
  have N33_77 := (f77.2 _ (by omega)).trans N33_75
  have N42_77 := (f77.2 _ (by omega)).trans N42_75
  have N51_77 := (f77.2 _ (by omega)).trans N51_75
  have N59_77 := (f77.2 _ (by omega)).trans N59_75
  have N67_77 := (f77.2 _ (by omega)).trans N67_75
  have N75_77 := (f77.2 _ (by omega)).trans r75
  have F77 : Fr am 12 h (h77.1, h.2) := fc_tr F75 f77.2 (by omega)
  replace w77 : h77.1 am = some (.inr (8, [Value.ref (am + 1), Value.ref (am + 2), Value.int (zi 0), Value.ref (am + 3), Value.int (zi 0), Value.int (zi 0), Value.int (zi 0), Value.int (zi 0), Value.ref (am + 4), Value.ref (am + 5), Value.ref (am + 6), Value.ref (am + 7), Value.ref (am + 8), Value.ref (am + 9), Value.null, Value.null, Value.int (zi 0), Value.int (zi 0), Value.int (zi 0), Value.int (zi 0)])) := w77
  refine xv (x_putfield 80 d_X8_init_77 rfl f_8_35 (Nat.le_of_ble_eq_true rfl) e77 rfl rfl (fun _ => ⟨rfl, rfl⟩)) ?_
  show Xv E q_m_X8_init 80 [Value.ref am] [] h77 Q
  refine xv (x_aload_n 81 d_X8_init_80 rfl rfl) ?_
  refine xv (x_sipush 84 d_X8_init_81 rfl rfl) ?_
  obtain ⟨h84, e84, a84, f84, z84⟩ := al_x (h := h77) (e := .inl (0, 2304, q_z 0)) (n := 2304) SZ_77
  have O_84 : h84.1 am = some (.inr (8, [Value.ref (am + 1), Value.ref (am + 2), Value.int (zi 0), Value.ref (am + 3), Value.int (zi 0), Value.int (zi 0), Value.int (zi 0), Value.int (zi 0), Value.ref (am + 4), Value.ref (am + 5), Value.ref (am + 6), Value.ref (am + 7), Value.ref (am + 8), Value.ref (am + 9), Value.null, Value.null, Value.int (zi 0), Value.int (zi 0), Value.int (zi 0), Value.int (zi 0)])) := by have z_ := (f84.2 _ (by omega)).trans w77; exact z_
  have N8_84 : h84.1 (am + 1) = some (.inl (0, 400, .inl fun k => zi ((fun _ => 0) k))) := by have z_ := (f84.2 _ (by omega)).trans N8_77; exact z_
  have N17_84 : h84.1 (am + 2) = some (.inl (0, 400, .inl fun k => zi ((fun _ => 0) k))) := by have z_ := (f84.2 _ (by omega)).trans N17_77; exact z_
  have N26_84 : h84.1 (am + 3) = some (.inl (0, 3200, .inl fun k => zi ((fun _ => 0) k))) := by have z_ := (f84.2 _ (by omega)).trans N26_77; exact z_
  have N33_84 : h84.1 (am + 4) = some (.inl (0, 3, .inl fun k => zi ((fun _ => 0) k))) := by have z_ := (f84.2 _ (by omega)).trans N33_77; exact z_
  have N42_84 : h84.1 (am + 5) = some (.inl (2, 1488, .inl fun k => zi ((fun _ => 0) k))) := by have z_ := (f84.2 _ (by omega)).trans N42_77; exact z_
  have N51_84 : h84.1 (am + 6) = some (.inl (2, 1488, .inl fun k => zi ((fun _ => 0) k))) := by have z_ := (f84.2 _ (by omega)).trans N51_77; exact z_
  have N59_84 : h84.1 (am + 7) = some (.inl (0, 30, .inl fun k => zi ((fun _ => 0) k))) := by have z_ := (f84.2 _ (by omega)).trans N59_77; exact z_
  have N67_84 : h84.1 (am + 8) = some (.inl (0, 48, .inl fun k => zi ((fun _ => 0) k))) := by have z_ := (f84.2 _ (by omega)).trans N67_77; exact z_
  have N75_84 : h84.1 (am + 9) = some (.inl (0, 48, .inl fun k => zi ((fun _ => 0) k))) := by have z_ := (f84.2 _ (by omega)).trans N75_77; exact z_
  have F84 : Fr am 12 h (h84.1, h.2) := fc_tr F77 f84.2 (by omega)
  refine xv (xA_newarray (n := 2304) 86 d_X8_init_84 rfl rfl (by decide) (sz_1 SZ_77) e84) ?_
  have r84 : h84.1 (am + 10) = some (.inl (0, 2304, .inl fun k => zi ((fun _ => 0) k))) := a84
  show Xv E q_m_X8_init 86 [Value.ref am] [Value.ref (am + 10), Value.ref am] h84 Q
  obtain ⟨h86, e86, w86, f86⟩ := obj_pf (k := 14) (v := Value.ref (am + 10)) O_84 (Nat.le_of_ble_eq_true rfl)
  have SZ_86 := f86.1.trans z84
  have N8_86 := (f86.2 _ (by omega)).trans N8_84
  have N17_86 := (f86.2 _ (by omega)).trans N17_84
  have N26_86 := (f86.2 _ (by omega)).trans N26_84
  have N33_86 := (f86.2 _ (by omega)).trans N33_84
  have N42_86 := (f86.2 _ (by omega)).trans N42_84
  have N51_86 := (f86.2 _ (by omega)).trans N51_84
  have N59_86 := (f86.2 _ (by omega)).trans N59_84
  have N67_86 := (f86.2 _ (by omega)).trans N67_84
  have N75_86 := (f86.2 _ (by omega)).trans N75_84
  have N84_86 := (f86.2 _ (by omega)).trans r84
  have F86 : Fr am 12 h (h86.1, h.2) := fc_tr F84 f86.2 (by omega)
  replace w86 : h86.1 am = some (.inr (8, [Value.ref (am + 1), Value.ref (am + 2), Value.int (zi 0), Value.ref (am + 3), Value.int (zi 0), Value.int (zi 0), Value.int (zi 0), Value.int (zi 0), Value.ref (am + 4), Value.ref (am + 5), Value.ref (am + 6), Value.ref (am + 7), Value.ref (am + 8), Value.ref (am + 9), Value.ref (am + 10), Value.null, Value.int (zi 0), Value.int (zi 0), Value.int (zi 0), Value.int (zi 0)])) := w86
  refine xv (x_putfield 89 d_X8_init_86 rfl f_8_38 (Nat.le_of_ble_eq_true rfl) e86 rfl rfl (fun _ => ⟨rfl, rfl⟩)) ?_
  show Xv E q_m_X8_init 89 [Value.ref am] [] h86 Q
  refine xv (x_aload_n 90 d_X8_init_89 rfl rfl) ?_
  refine xv (x_bipush 92 d_X8_init_90 rfl rfl) ?_
  obtain ⟨h92, e92, a92, f92, z92⟩ := al_x (h := h86) (e := .inl (3, 60, q_z 3)) (n := 60) SZ_86
  have O_92 : h92.1 am = some (.inr (8, [Value.ref (am + 1), Value.ref (am + 2), Value.int (zi 0), Value.ref (am + 3), Value.int (zi 0), Value.int (zi 0), Value.int (zi 0), Value.int (zi 0), Value.ref (am + 4), Value.ref (am + 5), Value.ref (am + 6), Value.ref (am + 7), Value.ref (am + 8), Value.ref (am + 9), Value.ref (am + 10), Value.null, Value.int (zi 0), Value.int (zi 0), Value.int (zi 0), Value.int (zi 0)])) := by have z_ := (f92.2 _ (by omega)).trans w86; exact z_
  have N8_92 : h92.1 (am + 1) = some (.inl (0, 400, .inl fun k => zi ((fun _ => 0) k))) := by have z_ := (f92.2 _ (by omega)).trans N8_86; exact z_
  have N17_92 : h92.1 (am + 2) = some (.inl (0, 400, .inl fun k => zi ((fun _ => 0) k))) := by have z_ := (f92.2 _ (by omega)).trans N17_86; exact z_
  have N26_92 : h92.1 (am + 3) = some (.inl (0, 3200, .inl fun k => zi ((fun _ => 0) k))) := by have z_ := (f92.2 _ (by omega)).trans N26_86; exact z_
  have N33_92 : h92.1 (am + 4) = some (.inl (0, 3, .inl fun k => zi ((fun _ => 0) k))) := by have z_ := (f92.2 _ (by omega)).trans N33_86; exact z_
  have N42_92 : h92.1 (am + 5) = some (.inl (2, 1488, .inl fun k => zi ((fun _ => 0) k))) := by have z_ := (f92.2 _ (by omega)).trans N42_86; exact z_
  have N51_92 : h92.1 (am + 6) = some (.inl (2, 1488, .inl fun k => zi ((fun _ => 0) k))) := by have z_ := (f92.2 _ (by omega)).trans N51_86; exact z_
  have N59_92 : h92.1 (am + 7) = some (.inl (0, 30, .inl fun k => zi ((fun _ => 0) k))) := by have z_ := (f92.2 _ (by omega)).trans N59_86; exact z_
  have N67_92 : h92.1 (am + 8) = some (.inl (0, 48, .inl fun k => zi ((fun _ => 0) k))) := by have z_ := (f92.2 _ (by omega)).trans N67_86; exact z_
  have N75_92 : h92.1 (am + 9) = some (.inl (0, 48, .inl fun k => zi ((fun _ => 0) k))) := by have z_ := (f92.2 _ (by omega)).trans N75_86; exact z_
  have N84_92 : h92.1 (am + 10) = some (.inl (0, 2304, .inl fun k => zi ((fun _ => 0) k))) := by have z_ := (f92.2 _ (by omega)).trans N84_86; exact z_
  have F92 : Fr am 12 h (h92.1, h.2) := fc_tr F86 f92.2 (by omega)
  refine xv (xA_newarray (n := 60) 94 d_X8_init_92 rfl rfl (by decide) (sz_1 SZ_86) e92) ?_
  have r92 : h92.1 (am + 11) = some (.inl (3, 60, .inl fun k => zi ((fun _ => 0) k))) := a92
  show Xv E q_m_X8_init 94 [Value.ref am] [Value.ref (am + 11), Value.ref am] h92 Q
  obtain ⟨h94, e94, w94, f94⟩ := obj_pf (k := 15) (v := Value.ref (am + 11)) O_92 (Nat.le_of_ble_eq_true rfl)
  have SZ_94 := f94.1.trans z92
  have N8_94 := (f94.2 _ (by omega)).trans N8_92
  have N17_94 := (f94.2 _ (by omega)).trans N17_92
  have N26_94 := (f94.2 _ (by omega)).trans N26_92
  have N33_94 := (f94.2 _ (by omega)).trans N33_92
  have N42_94 := (f94.2 _ (by omega)).trans N42_92
  have N51_94 := (f94.2 _ (by omega)).trans N51_92
  have N59_94 := (f94.2 _ (by omega)).trans N59_92
  have N67_94 := (f94.2 _ (by omega)).trans N67_92
  have N75_94 := (f94.2 _ (by omega)).trans N75_92
  have N84_94 := (f94.2 _ (by omega)).trans N84_92
  have N92_94 := (f94.2 _ (by omega)).trans r92
  have F94 : Fr am 12 h (h94.1, h.2) := fc_tr F92 f94.2 (by omega)
  replace w94 : h94.1 am = some (.inr (8, [Value.ref (am + 1), Value.ref (am + 2), Value.int (zi 0), Value.ref (am + 3), Value.int (zi 0), Value.int (zi 0), Value.int (zi 0), Value.int (zi 0), Value.ref (am + 4), Value.ref (am + 5), Value.ref (am + 6), Value.ref (am + 7), Value.ref (am + 8), Value.ref (am + 9), Value.ref (am + 10), Value.ref (am + 11), Value.int (zi 0), Value.int (zi 0), Value.int (zi 0), Value.int (zi 0)])) := w94
  refine xv (x_putfield 97 d_X8_init_94 rfl f_8_41 (Nat.le_of_ble_eq_true rfl) e94 rfl rfl (fun _ => ⟨rfl, rfl⟩)) ?_
  show Xv E q_m_X8_init 97 [Value.ref am] [] h94 Q
  refine xv (x_aload_n 98 d_X8_init_97 rfl rfl) ?_
  refine xv (x_iconst 99 d_X8_init_98 rfl) ?_
  obtain ⟨h99, e99, w99, f99⟩ := obj_pf (k := 17) (v := Value.int (zi (-1))) w94 (Nat.le_of_ble_eq_true rfl)
  have SZ_99 := f99.1.trans SZ_94
  have N8_99 := (f99.2 _ (by omega)).trans N8_94
  have N17_99 := (f99.2 _ (by omega)).trans N17_94
  have N26_99 := (f99.2 _ (by omega)).trans N26_94
  have N33_99 := (f99.2 _ (by omega)).trans N33_94
  have N42_99 := (f99.2 _ (by omega)).trans N42_94
  have N51_99 := (f99.2 _ (by omega)).trans N51_94
  have N59_99 := (f99.2 _ (by omega)).trans N59_94
  have N67_99 := (f99.2 _ (by omega)).trans N67_94
  have N75_99 := (f99.2 _ (by omega)).trans N75_94
  have N84_99 := (f99.2 _ (by omega)).trans N84_94
  have N92_99 := (f99.2 _ (by omega)).trans N92_94
  have F99 : Fr am 12 h (h99.1, h.2) := fc_tr F94 f99.2 (by omega)
  replace w99 : h99.1 am = some (.inr (8, [Value.ref (am + 1), Value.ref (am + 2), Value.int (zi 0), Value.ref (am + 3), Value.int (zi 0), Value.int (zi 0), Value.int (zi 0), Value.int (zi 0), Value.ref (am + 4), Value.ref (am + 5), Value.ref (am + 6), Value.ref (am + 7), Value.ref (am + 8), Value.ref (am + 9), Value.ref (am + 10), Value.ref (am + 11), Value.int (zi 0), Value.int (zi (-1)), Value.int (zi 0), Value.int (zi 0)])) := w99
  refine xv (x_putfield 102 d_X8_init_99 rfl f_8_45 (Nat.le_of_ble_eq_true rfl) e99 rfl rfl (fun e => absurd e (by decide))) ?_
  show Xv E q_m_X8_init 102 [Value.ref am] [] h99 Q
  refine xv (x_aload_n 103 d_X8_init_102 rfl rfl) ?_
  refine xv (x_getfield 106 d_X8_init_103 rfl f_8_9 (Nat.le_of_ble_eq_true rfl) (Nat.le_of_ble_eq_true rfl) (q_gf_of w99 rfl)) ?_
  refine xv (x_iconst 107 d_X8_init_106 rfl) ?_
  refine xv (x_iconst 108 d_X8_init_107 rfl) ?_
  obtain ⟨h108, e108, w108, f108⟩ := ex_s (f := (fun _ => 0)) (n := 400) (z := 0) (v := 1) N8_99 (by omega) (by omega) (by decide)
  have O_108 := (f108.2 _ (by omega)).trans w99
  have SZ_108 := f108.1.trans SZ_99
  have N17_108 := (f108.2 _ (by omega)).trans N17_99
  have N26_108 := (f108.2 _ (by omega)).trans N26_99
  have N33_108 := (f108.2 _ (by omega)).trans N33_99
  have N42_108 := (f108.2 _ (by omega)).trans N42_99
  have N51_108 := (f108.2 _ (by omega)).trans N51_99
  have N59_108 := (f108.2 _ (by omega)).trans N59_99
  have N67_108 := (f108.2 _ (by omega)).trans N67_99
  have N75_108 := (f108.2 _ (by omega)).trans N75_99
  have N84_108 := (f108.2 _ (by omega)).trans N84_99
  have N92_108 := (f108.2 _ (by omega)).trans N92_99
  have F108 : Fr am 12 h (h108.1, h.2) := fc_tr F99 f108.2 (by omega)
  refine xv (x_iastore 109 d_X8_init_108 rfl e108) ?_
  show Xv E q_m_X8_init 109 [Value.ref am] [] h108 Q
  refine xv (x_aload_n 110 d_X8_init_109 rfl rfl) ?_
  refine xv (x_getfield 113 d_X8_init_110 rfl f_8_9 (Nat.le_of_ble_eq_true rfl) (Nat.le_of_ble_eq_true rfl) (q_gf_of O_108 rfl)) ?_
  refine xv (x_iconst 114 d_X8_init_113 rfl) ?_
  refine xv (x_iconst 115 d_X8_init_114 rfl) ?_
  obtain ⟨h115, e115, w115, f115⟩ := ex_s (f := (u1 (fun _ => 0) 0 1)) (n := 400) (z := 1) (v := 2) w108 (by omega) (by omega) (by decide)
  have O_115 := (f115.2 _ (by omega)).trans O_108
  have SZ_115 := f115.1.trans SZ_108
  have N17_115 := (f115.2 _ (by omega)).trans N17_108
  have N26_115 := (f115.2 _ (by omega)).trans N26_108
  have N33_115 := (f115.2 _ (by omega)).trans N33_108
  have N42_115 := (f115.2 _ (by omega)).trans N42_108
  have N51_115 := (f115.2 _ (by omega)).trans N51_108
  have N59_115 := (f115.2 _ (by omega)).trans N59_108
  have N67_115 := (f115.2 _ (by omega)).trans N67_108
  have N75_115 := (f115.2 _ (by omega)).trans N75_108
  have N84_115 := (f115.2 _ (by omega)).trans N84_108
  have N92_115 := (f115.2 _ (by omega)).trans N92_108
  have F115 : Fr am 12 h (h115.1, h.2) := fc_tr F108 f115.2 (by omega)
  refine xv (x_iastore 116 d_X8_init_115 rfl e115) ?_
  show Xv E q_m_X8_init 116 [Value.ref am] [] h115 Q
  refine xv (x_aload_n 117 d_X8_init_116 rfl rfl) ?_
  refine xv (x_getfield 120 d_X8_init_117 rfl f_8_9 (Nat.le_of_ble_eq_true rfl) (Nat.le_of_ble_eq_true rfl) (q_gf_of O_115 rfl)) ?_
  refine xv (x_iconst 121 d_X8_init_120 rfl) ?_
  refine xv (x_iconst 122 d_X8_init_121 rfl) ?_
  obtain ⟨h122, e122, w122, f122⟩ := ex_s (f := (u1 (u1 (fun _ => 0) 0 1) 1 2)) (n := 400) (z := 5) (v := 5) w115 (by omega) (by omega) (by decide)
  have O_122 := (f122.2 _ (by omega)).trans O_115
  have SZ_122 := f122.1.trans SZ_115
  have N17_122 := (f122.2 _ (by omega)).trans N17_115
  have N26_122 := (f122.2 _ (by omega)).trans N26_115
  have N33_122 := (f122.2 _ (by omega)).trans N33_115
  have N42_122 := (f122.2 _ (by omega)).trans N42_115
  have N51_122 := (f122.2 _ (by omega)).trans N51_115
  have N59_122 := (f122.2 _ (by omega)).trans N59_115
  have N67_122 := (f122.2 _ (by omega)).trans N67_115
  have N75_122 := (f122.2 _ (by omega)).trans N75_115
  have N84_122 := (f122.2 _ (by omega)).trans N84_115
  have N92_122 := (f122.2 _ (by omega)).trans N92_115
  have F122 : Fr am 12 h (h122.1, h.2) := fc_tr F115 f122.2 (by omega)
  refine xv (x_iastore 123 d_X8_init_122 rfl e122) ?_
  show Xv E q_m_X8_init 123 [Value.ref am] [] h122 Q
  refine xv (x_aload_n 124 d_X8_init_123 rfl rfl) ?_
  refine xv (x_getfield 127 d_X8_init_124 rfl f_8_9 (Nat.le_of_ble_eq_true rfl) (Nat.le_of_ble_eq_true rfl) (q_gf_of O_122 rfl)) ?_
  refine xv (x_bipush 129 d_X8_init_127 rfl rfl) ?_
  refine xv (x_iconst 130 d_X8_init_129 rfl) ?_
  obtain ⟨h130, e130, w130, f130⟩ := ex_s (f := (u1 (u1 (u1 (fun _ => 0) 0 1) 1 2) 5 5)) (n := 400) (z := 6) (v := 2) w122 (by omega) (by omega) (by decide)
  have O_130 := (f130.2 _ (by omega)).trans O_122
  have SZ_130 := f130.1.trans SZ_122
  have N17_130 := (f130.2 _ (by omega)).trans N17_122
  have N26_130 := (f130.2 _ (by omega)).trans N26_122
  have N33_130 := (f130.2 _ (by omega)).trans N33_122
  have N42_130 := (f130.2 _ (by omega)).trans N42_122
  have N51_130 := (f130.2 _ (by omega)).trans N51_122
  have N59_130 := (f130.2 _ (by omega)).trans N59_122
  have N67_130 := (f130.2 _ (by omega)).trans N67_122
  have N75_130 := (f130.2 _ (by omega)).trans N75_122
  have N84_130 := (f130.2 _ (by omega)).trans N84_122
  have N92_130 := (f130.2 _ (by omega)).trans N92_122
  have F130 : Fr am 12 h (h130.1, h.2) := fc_tr F122 f130.2 (by omega)
  refine xv (x_iastore 131 d_X8_init_130 rfl e130) ?_
  show Xv E q_m_X8_init 131 [Value.ref am] [] h130 Q
  refine xv (x_aload_n 132 d_X8_init_131 rfl rfl) ?_
  refine xv (x_getfield 135 d_X8_init_132 rfl f_8_9 (Nat.le_of_ble_eq_true rfl) (Nat.le_of_ble_eq_true rfl) (q_gf_of O_130 rfl)) ?_
  refine xv (x_bipush 137 d_X8_init_135 rfl rfl) ?_
  refine xv (x_bipush 139 d_X8_init_137 rfl rfl) ?_
  obtain ⟨h139, e139, w139, f139⟩ := ex_s (f := (u1 (u1 (u1 (u1 (fun _ => 0) 0 1) 1 2) 5 5) 6 2)) (n := 400) (z := 7) (v := 30) w130 (by omega) (by omega) (by decide)
  have O_139 := (f139.2 _ (by omega)).trans O_130
  have SZ_139 := f139.1.trans SZ_130
  have N17_139 := (f139.2 _ (by omega)).trans N17_130
  have N26_139 := (f139.2 _ (by omega)).trans N26_130
  have N33_139 := (f139.2 _ (by omega)).trans N33_130
  have N42_139 := (f139.2 _ (by omega)).trans N42_130
  have N51_139 := (f139.2 _ (by omega)).trans N51_130
  have N59_139 := (f139.2 _ (by omega)).trans N59_130
  have N67_139 := (f139.2 _ (by omega)).trans N67_130
  have N75_139 := (f139.2 _ (by omega)).trans N75_130
  have N84_139 := (f139.2 _ (by omega)).trans N84_130
  have N92_139 := (f139.2 _ (by omega)).trans N92_130
  have F139 : Fr am 12 h (h139.1, h.2) := fc_tr F130 f139.2 (by omega)
  refine xv (x_iastore 140 d_X8_init_139 rfl e139) ?_
  show Xv E q_m_X8_init 140 [Value.ref am] [] h139 Q
  refine xv_r (x_return d_X8_init_140 rfl) ?_
  refine hQ _ _ ⟨rfl, mw_self (fun j hj => ?_), sz_eq SZ_139 (by omega) (by omega) (by omega), F139⟩
  match j, hj with
  | 0, _ => exact O_139
  | 1, _ => exact w139
  | 2, _ => exact N17_139
  | 3, _ => exact N26_139
  | 4, _ => exact N33_139
  | 5, _ => exact N42_139
  | 6, _ => exact N51_139
  | 7, _ => exact N59_139
  | 8, _ => exact N67_139
  | 9, _ => exact N75_139
  | 10, _ => exact N84_139
  | 11, _ => exact N92_139
  | _ + 12, hj => omega
end RB8
