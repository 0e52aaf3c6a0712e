/-! the class's constructors, last (printed by program) -/
section CTZ
variable {E : q_E} {h h' : q_H} {x w v a b t N k d c s : Nat} {f : Int → Int}
theorem alm_x (hs : h.2 = (some (d + 3), c, s)) : ∃ h', q_alm h (d + 3) 48 48 = h' ∧ TB h' d (fun _ _ => 0) ∧ Fr (d + 3) 49 h (h'.1, h.2) ∧ h'.2 = (some (d + 52), c + 49, s + 2352) := by
  refine ⟨_, rfl, ⟨⟨fun i => if i < 48 then some (d + 3 + 1 + i) else none, if_pos rfl, fun i hi => (if_pos hi).trans ?_⟩, fun a h1 h2 => ⟨fun _ => 0, ?_, fun k _ => rfl⟩⟩, ⟨rfl, fun b kb => ?_⟩, ?_⟩
  · unfold tw
    rw [Int.toNat_natCast]
  · show (if tw d a = d + 3 then _ else if d + 3 < tw d a ∧ tw d a ≤ d + 3 + 48 then _ else _) = _
    have := tw_b (d := d) h1 h2
    rw [if_neg (by omega), if_pos (by omega)]
  · show (if b = d + 3 then _ else if d + 3 < b ∧ b ≤ d + 3 + 48 then _ else _) = _
    rw [if_neg (by omega), if_neg (by omega)]
  · show (some (d + 3 + 1 + 48), h.2.2.1 + 1 + 48, h.2.2.2 + 48 + 48 * 48) = _
    rw [hs]
theorem rgc_ini : RgC ini := by
  have e3 : ini 3 = 0 := rfl
  have e4 : ini 4 = 0 := rfl
  have ec : cs ini = 2 := rfl
  have e (i : Int) (h : 8 ≤ i) (h2 : i < 104) : ini i = 0 := by
    unfold ini
    rw [if_neg (by omega), if_neg (by omega), if_neg (by omega), if_neg (by omega), if_neg (by omega), if_neg (by omega), if_neg (by omega)]
  unfold RgC
  rw [ec, e3, e4]
  refine ⟨by decide, by decide, by decide, by decide, by decide, by decide, by decide, by decide, by decide, fun k a b => ?_, fun k a b => ?_, fun r a b => by omega, fun r a b => by omega⟩
  · rw [e _ (by omega) (by omega)]; omega
  · rw [e _ (by omega) (by omega)]; omega
theorem S_X0_init (hO : h.1 d = some (.inr (0, q_df 0))) (hs : h.2 = (some (d + 1), c, s))  : ∃ r_ h', q_cl E q_m_X0_init [Value.ref d, Value.ref w] h = some (r_, h') ∧ (r_ = .inl none ∧ ((DSo h' d w 0 0 0 ∧ AI h' (d + 1) 0 48 (fun _ => 0) ∧ AI h' (d + 2) 0 48 (fun _ => 0)) ∧ TB h' d (fun _ _ => 0) ∧ AL h' (d + 52) 48 (fun _ => 0) ∧ AL h' (d + 53) 48 (fun _ => 0)) ∧ h'.2 = (some (d + 54), c + 53, s + 2544) ∧ Fr d 54 h (h'.1, h.2)) := by
  suffices K : ∀ Q : q_R → q_H → Prop, (∀ r_ h', (r_ = .inl none ∧ ((DSo h' d w 0 0 0 ∧ AI h' (d + 1) 0 48 (fun _ => 0) ∧ AI h' (d + 2) 0 48 (fun _ => 0)) ∧ TB h' d (fun _ _ => 0) ∧ AL h' (d + 52) 48 (fun _ => 0) ∧ AL h' (d + 53) 48 (fun _ => 0)) ∧ h'.2 = (some (d + 54), c + 53, s + 2544) ∧ Fr d 54 h (h'.1, h.2)) → Q r_ h') → Xv E q_m_X0_init 0 [Value.ref d, Value.ref w] [] h Q from K _ fun _ _ p => p
  intro Q hQ
  replace hO : h.1 d = some (.inr (0, [Value.null, Value.null, Value.null, Value.null, Value.null, Value.null, Value.int (zi 0), Value.int (zi 0), Value.long 0])) := hO
  refine xv (x_aload_n 1 d_X0_init_0 rfl rfl) ?_
  refine xv (x_obj 4 d_X0_init_1 rfl rfl rfl (Nat.le_of_ble_eq_true rfl) (Nat.le_of_ble_eq_true rfl) (Nat.le_of_ble_eq_true rfl)) ?_
  refine xv (x_aload_n 5 d_X0_init_4 rfl rfl) ?_
  refine xv (x_aload_n 6 d_X0_init_5 rfl rfl) ?_
  obtain ⟨h6, e6, w6, f6⟩ := obj_pf (k := 0) (v := Value.ref w) hO (Nat.le_of_ble_eq_true rfl)
  have SZ_6 := f6.1.trans hs
  have F6 : Fr d 54 h (h6.1, h.2) := fc_tr fc_rf f6.2 (by omega)
  replace w6 : h6.1 d = some (.inr (0, [Value.ref w, Value.null, Value.null, Value.null, Value.null, Value.null, Value.int (zi 0), Value.int (zi 0), Value.long 0])) := w6
  refine xv (x_putfield 9 d_X0_init_6 rfl f_0_9 (Nat.le_of_ble_eq_true rfl) e6 rfl rfl (fun _ => ⟨rfl, rfl⟩)) ?_
  show Xv E q_m_X0_init 9 [Value.ref d, Value.ref w] [] h6 Q
  refine xv (x_aload_n 10 d_X0_init_9 rfl rfl) ?_
  refine xv (x_bipush 12 d_X0_init_10 rfl rfl) ?_
  obtain ⟨h12, e12, a12, f12, z12⟩ := al_x (h := h6) (e := .inl (0, 48, q_z 0)) (n := 48) SZ_6
  have O_12 : h12.1 d = some (.inr (0, [Value.ref w, Value.null, Value.null, Value.null, Value.null, Value.null, Value.int (zi 0), Value.int (zi 0), Value.long 0])) := by have z_ := (f12.2 _ (by omega)).trans w6; exact z_
  have F12 : Fr d 54 h (h12.1, h.2) := fc_tr F6 f12.2 (by omega)
  refine xv (xA_newarray (n := 48) 14 d_X0_init_12 rfl rfl (by decide) (sz_1 SZ_6) e12) ?_
  have r12 := ai_new a12 rfl
  show Xv E q_m_X0_init 14 [Value.ref d, Value.ref w] [Value.ref (d + 1), Value.ref d] h12 Q
  obtain ⟨h14, e14, w14, f14⟩ := obj_pf (k := 1) (v := Value.ref (d + 1)) O_12 (Nat.le_of_ble_eq_true rfl)
  have SZ_14 := f14.1.trans z12
  have N12_14 := ai_fr r12 f14 (by omega)
  have F14 : Fr d 54 h (h14.1, h.2) := fc_tr F12 f14.2 (by omega)
  replace w14 : h14.1 d = some (.inr (0, [Value.ref w, Value.ref (d + 1), Value.null, Value.null, Value.null, Value.null, Value.int (zi 0), Value.int (zi 0), Value.long 0])) := w14
  refine xv (x_putfield 17 d_X0_init_14 rfl f_0_15 (Nat.le_of_ble_eq_true rfl) e14 rfl rfl (fun _ => ⟨rfl, rfl⟩)) ?_
  show Xv E q_m_X0_init 17 [Value.ref d, Value.ref w] [] h14 Q
  refine xv (x_aload_n 18 d_X0_init_17 rfl rfl) ?_
  refine xv (x_bipush 20 d_X0_init_18 rfl rfl) ?_
  obtain ⟨h20, e20, a20, f20, z20⟩ := al_x (h := h14) (e := .inl (0, 48, q_z 0)) (n := 48) SZ_14
  have O_20 : h20.1 d = some (.inr (0, [Value.ref w, Value.ref (d + 1), Value.null, Value.null, Value.null, Value.null, Value.int (zi 0), Value.int (zi 0), Value.long 0])) := by have z_ := (f20.2 _ (by omega)).trans w14; exact z_
  have N12_20 : AI h20 (d + 1) 0 48 (fun _ => 0) := by have z_ := ai_fr N12_14 f20 (by omega); exact z_
  have F20 : Fr d 54 h (h20.1, h.2) := fc_tr F14 f20.2 (by omega)
  refine xv (xA_newarray (n := 48) 22 d_X0_init_20 rfl rfl (by decide) (sz_1 SZ_14) e20) ?_
  have r20 := ai_new a20 rfl
  show Xv E q_m_X0_init 22 [Value.ref d, Value.ref w] [Value.ref (d + 2), Value.ref d] h20 Q
  obtain ⟨h22, e22, w22, f22⟩ := obj_pf (k := 2) (v := Value.ref (d + 2)) O_20 (Nat.le_of_ble_eq_true rfl)
  have SZ_22 := f22.1.trans z20
  have N12_22 := ai_fr N12_20 f22 (by omega)
  have N20_22 := ai_fr r20 f22 (by omega)
  have F22 : Fr d 54 h (h22.1, h.2) := fc_tr F20 f22.2 (by omega)
  replace w22 : h22.1 d = some (.inr (0, [Value.ref w, Value.ref (d + 1), Value.ref (d + 2), Value.null, Value.null, Value.null, Value.int (zi 0), Value.int (zi 0), Value.long 0])) := w22
  refine xv (x_putfield 25 d_X0_init_22 rfl f_0_19 (Nat.le_of_ble_eq_true rfl) e22 rfl rfl (fun _ => ⟨rfl, rfl⟩)) ?_
  show Xv E q_m_X0_init 25 [Value.ref d, Value.ref w] [] h22 Q
  refine xv (x_aload_n 26 d_X0_init_25 rfl rfl) ?_
  refine xv (x_bipush 28 d_X0_init_26 rfl rfl) ?_
  refine xv (x_bipush 30 d_X0_init_28 rfl rfl) ?_
  obtain ⟨h30, e30, t30, f30, z30⟩ := alm_x (h := h22) SZ_22
  have O_30 : h30.1 d = some (.inr (0, [Value.ref w, Value.ref (d + 1), Value.ref (d + 2), Value.null, Value.null, Value.null, Value.int (zi 0), Value.int (zi 0), Value.long 0])) := by have z_ := (f30.2 _ (by omega)).trans w22; exact z_
  have N12_30 : AI h30 (d + 1) 0 48 (fun _ => 0) := by have z_ := ai_fr N12_22 f30 (by omega); exact z_
  have N20_30 : AI h30 (d + 2) 0 48 (fun _ => 0) := by have z_ := ai_fr N20_22 f30 (by omega); exact z_
  have F30 : Fr d 54 h (h30.1, h.2) := fc_tr F22 f30.2 (by omega)
  refine xv (xA_multi (n := 48) (k := 48) 34 d_X0_init_30 rfl rfl (Nat.le_of_ble_eq_true rfl) (by decide) (by decide) (sz_1 SZ_22) e30) ?_
  show Xv E q_m_X0_init 34 [Value.ref d, Value.ref w] [Value.ref (d + 3), Value.ref d] h30 Q
  obtain ⟨h34, e34, w34, f34⟩ := obj_pf (k := 3) (v := Value.ref (d + 3)) O_30 (Nat.le_of_ble_eq_true rfl)
  have SZ_34 := f34.1.trans z30
  have N12_34 := ai_fr N12_30 f34 (by omega)
  have N20_34 := ai_fr N20_30 f34 (by omega)
  have TA_34 := tb_fr t30 f34 (by omega)
  have F34 : Fr d 54 h (h34.1, h.2) := fc_tr F30 f34.2 (by omega)
  replace w34 : h34.1 d = some (.inr (0, [Value.ref w, Value.ref (d + 1), Value.ref (d + 2), Value.ref (d + 3), Value.null, Value.null, Value.int (zi 0), Value.int (zi 0), Value.long 0])) := w34
  refine xv (x_putfield 37 d_X0_init_34 rfl f_0_24 (Nat.le_of_ble_eq_true rfl) e34 rfl rfl (fun _ => ⟨rfl, rfl⟩)) ?_
  show Xv E q_m_X0_init 37 [Value.ref d, Value.ref w] [] h34 Q
  refine xv (x_aload_n 38 d_X0_init_37 rfl rfl) ?_
  refine xv (x_bipush 40 d_X0_init_38 rfl rfl) ?_
  obtain ⟨h40, e40, a40, f40, z40⟩ := al_x (h := h34) (e := .inl (1, 48, q_z 1)) (n := 48) SZ_34
  have O_40 : h40.1 d = some (.inr (0, [Value.ref w, Value.ref (d + 1), Value.ref (d + 2), Value.ref (d + 3), Value.null, Value.null, Value.int (zi 0), Value.int (zi 0), Value.long 0])) := by have z_ := (f40.2 _ (by omega)).trans w34; exact z_
  have N12_40 : AI h40 (d + 1) 0 48 (fun _ => 0) := by have z_ := ai_fr N12_34 f40 (by omega); exact z_
  have N20_40 : AI h40 (d + 2) 0 48 (fun _ => 0) := by have z_ := ai_fr N20_34 f40 (by omega); exact z_
  have TA_40 : TB h40 d (fun _ _ => 0) := by have z_ := tb_fr TA_34 f40 (by omega); exact z_
  have F40 : Fr d 54 h (h40.1, h.2) := fc_tr F34 f40.2 (by omega)
  refine xv (xA_newarray (n := 48) 42 d_X0_init_40 rfl rfl (by decide) (sz_1 SZ_34) e40) ?_
  have r40 := al_new a40
  show Xv E q_m_X0_init 42 [Value.ref d, Value.ref w] [Value.ref (d + 52), Value.ref d] h40 Q
  obtain ⟨h42, e42, w42, f42⟩ := obj_pf (k := 4) (v := Value.ref (d + 52)) O_40 (Nat.le_of_ble_eq_true rfl)
  have SZ_42 := f42.1.trans z40
  have N12_42 := ai_fr N12_40 f42 (by omega)
  have N20_42 := ai_fr N20_40 f42 (by omega)
  have TA_42 := tb_fr TA_40 f42 (by omega)
  have N40_42 := al_fr r40 f42 (by omega)
  have F42 : Fr d 54 h (h42.1, h.2) := fc_tr F40 f42.2 (by omega)
  replace w42 : h42.1 d = some (.inr (0, [Value.ref w, Value.ref (d + 1), Value.ref (d + 2), Value.ref (d + 3), Value.ref (d + 52), Value.null, Value.int (zi 0), Value.int (zi 0), Value.long 0])) := w42
  refine xv (x_putfield 45 d_X0_init_42 rfl f_0_27 (Nat.le_of_ble_eq_true rfl) e42 rfl rfl (fun _ => ⟨rfl, rfl⟩)) ?_
  show Xv E q_m_X0_init 45 [Value.ref d, Value.ref w] [] h42 Q
  refine xv (x_aload_n 46 d_X0_init_45 rfl rfl) ?_
  refine xv (x_bipush 48 d_X0_init_46 rfl rfl) ?_
  obtain ⟨h48, e48, a48, f48, z48⟩ := al_x (h := h42) (e := .inl (1, 48, q_z 1)) (n := 48) SZ_42
  have O_48 : h48.1 d = some (.inr (0, [Value.ref w, Value.ref (d + 1), Value.ref (d + 2), Value.ref (d + 3), Value.ref (d + 52), Value.null, Value.int (zi 0), Value.int (zi 0), Value.long 0])) := by have z_ := (f48.2 _ (by omega)).trans w42; exact z_
  have N12_48 : AI h48 (d + 1) 0 48 (fun _ => 0) := by have z_ := ai_fr N12_42 f48 (by omega); exact z_
  have N20_48 : AI h48 (d + 2) 0 48 (fun _ => 0) := by have z_ := ai_fr N20_42 f48 (by omega); exact z_
  have TA_48 : TB h48 d (fun _ _ => 0) := by have z_ := tb_fr TA_42 f48 (by omega); exact z_
  have N40_48 : AL h48 (d + 52) 48 (fun _ => 0) := by have z_ := al_fr N40_42 f48 (by omega); exact z_
  have F48 : Fr d 54 h (h48.1, h.2) := fc_tr F42 f48.2 (by omega)
  refine xv (xA_newarray (n := 48) 50 d_X0_init_48 rfl rfl (by decide) (sz_1 SZ_42) e48) ?_
  have r48 := al_new a48
  show Xv E q_m_X0_init 50 [Value.ref d, Value.ref w] [Value.ref (d + 53), Value.ref d] h48 Q
  obtain ⟨h50, e50, w50, f50⟩ := obj_pf (k := 5) (v := Value.ref (d + 53)) O_48 (Nat.le_of_ble_eq_true rfl)
  have SZ_50 := f50.1.trans z48
  have N12_50 := ai_fr N12_48 f50 (by omega)
  have N20_50 := ai_fr N20_48 f50 (by omega)
  have TA_50 := tb_fr TA_48 f50 (by omega)
  have N40_50 := al_fr N40_48 f50 (by omega)
  have N48_50 := al_fr r48 f50 (by omega)
  have F50 : Fr d 54 h (h50.1, h.2) := fc_tr F48 f50.2 (by omega)
  replace w50 : h50.1 d = some (.inr (0, [Value.ref w, Value.ref (d + 1), Value.ref (d + 2), Value.ref (d + 3), Value.ref (d + 52), Value.ref (d + 53), Value.int (zi 0), Value.int (zi 0), Value.long 0])) := w50
  refine xv (x_putfield 53 d_X0_init_50 rfl f_0_31 (Nat.le_of_ble_eq_true rfl) e50 rfl rfl (fun _ => ⟨rfl, rfl⟩)) ?_
  show Xv E q_m_X0_init 53 [Value.ref d, Value.ref w] [] h50 Q
  refine xv_r (x_return d_X0_init_53 rfl) ?_
  exact hQ _ _ ⟨rfl, ⟨⟨w50, N12_50, N20_50⟩, TA_50, N40_50, N48_50⟩, sz_eq SZ_50 (by omega) (by omega) (by omega), F50⟩
theorem S_X1_init (hO : h.1 v = some (.inr (1, q_df 1))) (hs : h.2 = (some (v + 1), c, s)) (hE : q_EN E N) (hLo : Lo h N) (hN : N ≤ v)  : ∃ r_ h', q_cl E q_m_X1_init [Value.ref v] h = some (r_, h') ∧ (r_ = .inl none ∧ HI h' v 0 0 (fun _ => ini) ∧ h'.2 = (some (v + 306), c + 305, s + 3424) ∧ Fr v 306 h (h'.1, h.2)) := by
  suffices K : ∀ Q : q_R → q_H → Prop, (∀ r_ h', (r_ = .inl none ∧ HI h' v 0 0 (fun _ => ini) ∧ h'.2 = (some (v + 306), c + 305, s + 3424) ∧ Fr v 306 h (h'.1, h.2)) → Q r_ h') → Xv E q_m_X1_init 0 [Value.ref v, Value.null] [] h Q from K _ fun _ _ p => p
  intro Q hQ
  replace hO : h.1 v = some (.inr (1, [Value.null, Value.int (zi 0), Value.int (zi 0)])) := hO
  refine xv (x_aload_n 1 d_X1_init_0 rfl rfl) ?_
  refine xv (x_obj 4 d_X1_init_1 rfl rfl rfl (Nat.le_of_ble_eq_true rfl) (Nat.le_of_ble_eq_true rfl) (Nat.le_of_ble_eq_true rfl)) ?_
  refine xv (x_aload_n 5 d_X1_init_4 rfl rfl) ?_
  refine xv (x_bipush 7 d_X1_init_5 rfl rfl) ?_
  obtain ⟨h7, e7, a7, f7, z7⟩ := al_x (h := h) (e := .inl (7, 8, .inr (.inr (.inr (.inr fun _ => none))))) (n := 8) hs
  have O_7 : h7.1 v = some (.inr (1, [Value.null, Value.int (zi 0), Value.int (zi 0)])) := by have z_ := (f7.2 _ (by omega)).trans hO; exact z_
  have LO_7 : Lo h7 N := by have z_ := lo_fr hLo f7 (by omega); exact z_
  have F7 : Fr v 306 h (h7.1, h.2) := fc_tr fc_rf f7.2 (by omega)
  refine xv (xA_anewarray (n := 8) 10 d_X1_init_7 rfl rfl (Nat.le_of_ble_eq_true rfl) (by decide) (sz_1 hs) e7) ?_
  have r7 : AQ h7 (v + 1) 7 8 (fun _ => none) := ⟨_, a7, fun _ _ => rfl⟩
  show Xv E q_m_X1_init 10 [Value.ref v, Value.null] [Value.ref (v + 1), Value.ref v] h7 Q
  obtain ⟨h10, e10, w10, f10⟩ := obj_pf (k := 0) (v := Value.ref (v + 1)) O_7 (Nat.le_of_ble_eq_true rfl)
  have SZ_10 := f10.1.trans z7
  have LO_10 := lo_fr LO_7 f10 (by omega)
  have Q7_10 := aq_fr r7 f10 (by omega)
  have F10 : Fr v 306 h (h10.1, h.2) := fc_tr F7 f10.2 (by omega)
  replace w10 : h10.1 v = some (.inr (1, [Value.ref (v + 1), Value.int (zi 0), Value.int (zi 0)])) := w10
  refine xv (x_putfield 13 d_X1_init_10 rfl f_1_11 (Nat.le_of_ble_eq_true rfl) e10 rfl rfl (fun _ => ⟨rfl, rfl⟩)) ?_
  show Xv E q_m_X1_init 13 [Value.ref v, Value.null] [] h10 Q
  refine xv (x_iconst 14 d_X1_init_13 rfl) ?_
  refine xv (x_istore_n 15 d_X1_init_14 rfl (Nat.le_of_ble_eq_true rfl)) ?_
  show Xv E q_m_X1_init 15 [Value.ref v, Value.int (zi 0)] [] h10 Q
  have L15 : ∀ (n_ : Nat) (k : Int) (H : q_H), (0 ≤ k) → (k ≤ 8) → (H.1 v = some (.inr (1, [Value.ref (v + 1), Value.int (zi 0), Value.int (zi 0)]))) → (AQ H (v + 1) 7 8 (fun i => if i < k.toNat then some (kw v i) else none)) → (∀ r : Int, 0 ≤ r → r < k → WH H (kw v r) ini (p0_ (kw v r))) → (H.2 = (some (v + 2 + 38 * k.toNat), c + 1 + 38 * k.toNat, s + 8 + 427 * k.toNat)) → (Lo H N) → (Fr v 306 h (H.1, h.2)) → (8 - k).toNat = n_ → Xv E q_m_X1_init 15 [Value.ref v, Value.int (zi k)] [] H Q := by
    intro n_
    induction n_ using Nat.strongRecOn with
    | _ n_ ih15 =>
      intro k H k0 k1 hO2 hQ2 hW2 hs2 hLo2 hF2 em
      refine xv (x_iload_n 16 d_X1_init_15 rfl rfl) ?_
      refine xv (x_aload_n 17 d_X1_init_16 rfl rfl) ?_
      refine xv (x_getfield 20 d_X1_init_17 rfl f_1_11 (Nat.le_of_ble_eq_true rfl) (Nat.le_of_ble_eq_true rfl) (q_gf_of hO2 rfl)) ?_
      refine xv (x_arraylength 21 d_X1_init_20 rfl (aq_l hQ2 (by decide))) ?_
      refine v_icmp_ge 43 24 d_X1_init_21 rfl rfl (by omega) (by omega) (by omega) (by omega) (fun k21 => ?_) (fun k21 => ?_)
      · refine xv_r (x_return d_X1_init_43 rfl) ?_
        have ek : k = 8 := by omega
        refine hQ _ _ ⟨rfl, ⟨hO2, ?_, fun i a b => ⟨_, hW2 i a (by omega)⟩⟩, sz_eq hs2 (by omega) (by omega) (by omega), hF2⟩
        obtain ⟨g, e1, e2⟩ := hQ2
        exact ⟨g, e1, fun i hi => (e2 i hi).trans (if_pos (by omega))⟩
      · refine xv (x_aload_n 25 d_X1_init_24 rfl rfl) ?_
        refine xv (x_getfield 28 d_X1_init_25 rfl f_1_11 (Nat.le_of_ble_eq_true rfl) (Nat.le_of_ble_eq_true rfl) (q_gf_of hO2 rfl)) ?_
        refine xv (x_iload_n 29 d_X1_init_28 rfl rfl) ?_
        obtain ⟨h29, e29, a29, f29, z29⟩ := al_x (h := H) (e := .inr (6, q_df 6)) (n := 10) hs2
        have O_29 : h29.1 v = some (.inr (1, [Value.ref (v + 1), Value.int (zi 0), Value.int (zi 0)])) := by have z_ := (f29.2 _ (by omega)).trans hO2; exact z_
        have RQ_29 : AQ h29 (v + 1) 7 8 (fun i => if i < k.toNat then some (kw v i) else none) := by have z_ := aq_fr hQ2 f29 (by omega); exact z_
        have WHS_29 : ∀ r : Int, 0 ≤ r → r < k → WH h29 (kw v r) ini (p0_ (kw v r)) := by have z_ := fun r a_ b_ => wh_fr (hW2 r a_ b_) f29 (by unfold kw; omega); exact z_
        have LO_29 : Lo h29 N := by have z_ := lo_fr hLo2 f29 (by omega); exact z_
        have F29 : Fr v 306 h (h29.1, h.2) := fc_tr hF2 f29.2 (by omega)
        refine xv (xA_new 32 d_X1_init_29 rfl rfl (Nat.le_of_ble_eq_true rfl) (sz_1 hs2) e29) ?_
        show Xv E q_m_X1_init 32 [Value.ref v, Value.int (zi k)] [Value.ref (v + 2 + 38 * k.toNat), Value.int (zi k), Value.ref (v + 1)] h29 Q
        refine xv (x_dup 33 d_X1_init_32 rfl rfl) ?_
        obtain ⟨r33, h33, e33, z33, w33, s33, f33⟩ := S_X6_init (E := E) (w := v + 2 + 38 * k.toNat) a29 z29 hE LO_29 (by omega)
        subst z33
        have O_33 : h33.1 v = some (.inr (1, [Value.ref (v + 1), Value.int (zi 0), Value.int (zi 0)])) := by have z_ := (f33.2 _ (by omega)).trans O_29; exact z_
        have RQ_33 : AQ h33 (v + 1) 7 8 (fun i => if i < k.toNat then some (kw v i) else none) := by have z_ := aq_fr RQ_29 f33 (by omega); exact z_
        have WHS_33 : ∀ r : Int, 0 ≤ r → r < k → WH h33 (kw v r) ini (p0_ (kw v r)) := by have z_ := fun r a_ b_ => wh_fr (WHS_29 r a_ b_) f33 (by unfold kw; omega); exact z_
        have LO_33 : Lo h33 N := by have z_ := lo_fr LO_29 f33 (by omega); exact z_
        have F33 : Fr v 306 h (h33.1, h.2) := fc_tr F29 f33.2 (by omega)
        refine xv (x_ini 36 (as := []) d_X1_init_33 rfl c_1_17 rfl (Nat.le_of_ble_eq_true rfl) (Nat.le_of_ble_eq_true rfl) (Nat.le_of_ble_eq_true rfl) rfl e33) ?_
        show Xv E q_m_X1_init 36 [Value.ref v, Value.int (zi k)] [Value.ref (v + 2 + 38 * k.toNat), Value.int (zi k), Value.ref (v + 1)] h33 Q
        obtain ⟨h36, e36, w36, f36⟩ := aq_s (z := k) RQ_33 (wh_o w33) (by decide) rfl (by omega) (by omega) (by decide)
        have O_36 := (f36.2 _ (by omega)).trans O_33
        have WHS_36 := fun r a_ b_ => wh_fr (WHS_33 r a_ b_) f36 (by unfold kw; omega)
        have SZ_36 := f36.1.trans s33
        have LO_36 := lo_fr LO_33 f36 (by omega)
        have BW_36 := wh_fr w33 f36 (by omega)
        have F36 : Fr v 306 h (h36.1, h.2) := fc_tr F33 f36.2 (by omega)
        refine xv (x_aastore 37 d_X1_init_36 rfl e36) ?_
        show Xv E q_m_X1_init 37 [Value.ref v, Value.int (zi k)] [] h36 Q
        refine xv (x_iinc 40 d_X1_init_37 rfl rfl) ?_
        show Xv E q_m_X1_init 40 [Value.ref v, Value.int (zi (k + 1))] [] h36 Q
        refine xv (x_goto 15 d_X1_init_40 rfl) ?_
        refine ih15 _ (by omega) (k + 1) h36 (by omega) (by omega) O_36 (aq_cg w36 fun i hi => ?_) (fun r a b => ?_) (sz_eq SZ_36 (by omega) (by omega) (by omega)) LO_36 F36 rfl
        · show (if i = k.toNat then some (v + 2 + 38 * k.toNat) else if i < k.toNat then some (kw v i) else none) = if i < (k + 1).toNat then some (kw v i) else none
          by_cases z : i = k.toNat
          · rw [if_pos z, if_pos (by omega), z]; unfold kw; rw [Int.toNat_natCast]
          · rw [if_neg z]
            by_cases y : i < k.toNat
            · rw [if_pos y, if_pos (by omega)]
            · rw [if_neg y, if_neg (by omega)]
        · rcases (by omega : r < k ∨ r = k) with z | z
          · exact WHS_36 r a z
          · rw [z]; exact BW_36
  exact L15 _ 0 h10 (by omega) (by omega) w10 (aq_cg Q7_10 fun i hi => (if_neg (by omega)).symm) (fun r a b => by omega) (sz_eq SZ_10 rfl rfl rfl) LO_10 F10 rfl
theorem dsx_0 (H : (DSo h (x + 385) (x + 1) 0 0 0 ∧ AI h (x + 385 + 1) 0 48 (fun _ => 0) ∧ AI h (x + 385 + 2) 0 48 (fun _ => 0)) ∧ TB h (x + 385) (fun _ _ => 0) ∧ AL h (x + 385 + 52) 48 (fun _ => 0) ∧ AL h (x + 385 + 53) 48 (fun _ => 0)) : DSx h x :=
  ⟨_, _, _, _, _, _, _, _, H.1, H.2, ⟨by omega, .inl rfl⟩⟩
theorem plx_0 (H : (PLo h (x + 439) (x + 1) 0 0 0 ∧ AL h (x + 439 + 3) 31 (fun _ => 0)) ∧ AI h (x + 439 + 1) 0 1488 (fun _ => 0) ∧ AI h (x + 439 + 2) 0 1488 (fun _ => 0) ∧ AI h (x + 439 + 4) 0 30 (fun _ => 0)) : PLx h x :=
  ⟨_, _, _, _, _, _, _, H.1, H.2.1, H.2.2.1, H.2.2.2⟩
theorem S_X7_init (hO : h.1 x = some (.inr (7, q_df 7))) (hs : h.2 = (some (x + 1), c, s)) (hE : q_EN E N) (hLo : Lo h N) (hN : N ≤ x)  : ∃ r_ h', q_cl E q_m_X7_init [Value.ref x] h = some (r_, h') ∧ (r_ = .inl none ∧ CA h' x ini ini 0 0 (fun _ => ini) 0 (fun _ => 0) 0 (-1) (-1) 0 ∧ h'.2 = (some (x + 444), c + 443, s + 9943) ∧ Fr x 444 h (h'.1, h.2)) := by
  suffices K : ∀ Q : q_R → q_H → Prop, (∀ r_ h', (r_ = .inl none ∧ CA h' x ini ini 0 0 (fun _ => ini) 0 (fun _ => 0) 0 (-1) (-1) 0 ∧ h'.2 = (some (x + 444), c + 443, s + 9943) ∧ Fr x 444 h (h'.1, h.2)) → Q r_ h') → Xv E q_m_X7_init 0 [Value.ref x] [] h Q from K _ fun _ _ p => p
  intro Q hQ
  replace hO : h.1 x = some (.inr (7, [Value.null, Value.null, Value.null, Value.null, Value.null, Value.null, Value.int (zi 0), Value.int (zi 0), Value.int (zi 0), Value.int (zi 0)])) := hO
  refine xv (x_aload_n 1 d_X7_init_0 rfl rfl) ?_
  refine xv (x_obj 4 d_X7_init_1 rfl rfl rfl (Nat.le_of_ble_eq_true rfl) (Nat.le_of_ble_eq_true rfl) (Nat.le_of_ble_eq_true rfl)) ?_
  refine xv (x_aload_n 5 d_X7_init_4 rfl rfl) ?_
  obtain ⟨h5, e5, a5, f5, z5⟩ := al_x (h := h) (e := .inr (6, q_df 6)) (n := 10) hs
  have O_5 : h5.1 x = some (.inr (7, [Value.null, Value.null, Value.null, Value.null, Value.null, Value.null, Value.int (zi 0), Value.int (zi 0), Value.int (zi 0), Value.int (zi 0)])) := by have z_ := (f5.2 _ (by omega)).trans hO; exact z_
  have LO_5 : Lo h5 N := by have z_ := lo_fr hLo f5 (by omega); exact z_
  have F5 : Fr x 444 h (h5.1, h.2) := fc_tr fc_rf f5.2 (by omega)
  refine xv (xA_new 8 d_X7_init_5 rfl rfl (Nat.le_of_ble_eq_true rfl) (sz_1 hs) e5) ?_
  show Xv E q_m_X7_init 8 [Value.ref x] [Value.ref (x + 1), Value.ref x] h5 Q
  refine xv (x_dup 9 d_X7_init_8 rfl rfl) ?_
  obtain ⟨r9, h9, e9, z9, w9, s9, f9⟩ := S_X6_init (E := E) (w := x + 1) a5 z5 hE LO_5 (by omega)
  subst z9
  have O_9 : h9.1 x = some (.inr (7, [Value.null, Value.null, Value.null, Value.null, Value.null, Value.null, Value.int (zi 0), Value.int (zi 0), Value.int (zi 0), Value.int (zi 0)])) := by have z_ := (f9.2 _ (by omega)).trans O_5; exact z_
  have LO_9 : Lo h9 N := by have z_ := lo_fr LO_5 f9 (by omega); exact z_
  have F9 : Fr x 444 h (h9.1, h.2) := fc_tr F5 f9.2 (by omega)
  refine xv (x_ini 12 (as := []) d_X7_init_9 rfl c_7_11 rfl (Nat.le_of_ble_eq_true rfl) (Nat.le_of_ble_eq_true rfl) (Nat.le_of_ble_eq_true rfl) rfl e9) ?_
  show Xv E q_m_X7_init 12 [Value.ref x] [Value.ref (x + 1), Value.ref x] h9 Q
  obtain ⟨h12, e12, w12, f12⟩ := obj_pf (k := 0) (v := Value.ref (x + 1)) O_9 (Nat.le_of_ble_eq_true rfl)
  have SZ_12 := f12.1.trans s9
  have LO_12 := lo_fr LO_9 f12 (by omega)
  have WA_12 := wh_fr w9 f12 (by omega)
  have F12 : Fr x 444 h (h12.1, h.2) := fc_tr F9 f12.2 (by omega)
  replace w12 : h12.1 x = some (.inr (7, [Value.ref (x + 1), Value.null, Value.null, Value.null, Value.null, Value.null, Value.int (zi 0), Value.int (zi 0), Value.int (zi 0), Value.int (zi 0)])) := w12
  refine xv (x_putfield 15 d_X7_init_12 rfl f_7_12 (Nat.le_of_ble_eq_true rfl) e12 rfl rfl (fun _ => ⟨rfl, rfl⟩)) ?_
  show Xv E q_m_X7_init 15 [Value.ref x] [] h12 Q
  refine xv (x_aload_n 16 d_X7_init_15 rfl rfl) ?_
  obtain ⟨h16, e16, a16, f16, z16⟩ := al_x (h := h12) (e := .inr (6, q_df 6)) (n := 10) SZ_12
  have O_16 : h16.1 x = some (.inr (7, [Value.ref (x + 1), Value.null, Value.null, Value.null, Value.null, Value.null, Value.int (zi 0), Value.int (zi 0), Value.int (zi 0), Value.int (zi 0)])) := by have z_ := (f16.2 _ (by omega)).trans w12; exact z_
  have LO_16 : Lo h16 N := by have z_ := lo_fr LO_12 f16 (by omega); exact z_
  have WA_16 : WH h16 (x + 1) ini (p0_ (x + 1)) := by have z_ := wh_fr WA_12 f16 (by omega); exact z_
  have F16 : Fr x 444 h (h16.1, h.2) := fc_tr F12 f16.2 (by omega)
  refine xv (xA_new 19 d_X7_init_16 rfl rfl (Nat.le_of_ble_eq_true rfl) (sz_1 SZ_12) e16) ?_
  show Xv E q_m_X7_init 19 [Value.ref x] [Value.ref (x + 39), Value.ref x] h16 Q
  refine xv (x_dup 20 d_X7_init_19 rfl rfl) ?_
  obtain ⟨r20, h20, e20, z20, w20, s20, f20⟩ := S_X6_init (E := E) (w := x + 39) a16 z16 hE LO_16 (by omega)
  subst z20
  have O_20 : h20.1 x = some (.inr (7, [Value.ref (x + 1), Value.null, Value.null, Value.null, Value.null, Value.null, Value.int (zi 0), Value.int (zi 0), Value.int (zi 0), Value.int (zi 0)])) := by have z_ := (f20.2 _ (by omega)).trans O_16; exact z_
  have LO_20 : Lo h20 N := by have z_ := lo_fr LO_16 f20 (by omega); exact z_
  have WA_20 : WH h20 (x + 1) ini (p0_ (x + 1)) := by have z_ := wh_fr WA_16 f20 (by omega); exact z_
  have F20 : Fr x 444 h (h20.1, h.2) := fc_tr F16 f20.2 (by omega)
  refine xv (x_ini 23 (as := []) d_X7_init_20 rfl c_7_11 rfl (Nat.le_of_ble_eq_true rfl) (Nat.le_of_ble_eq_true rfl) (Nat.le_of_ble_eq_true rfl) rfl e20) ?_
  show Xv E q_m_X7_init 23 [Value.ref x] [Value.ref (x + 39), Value.ref x] h20 Q
  obtain ⟨h23, e23, w23, f23⟩ := obj_pf (k := 1) (v := Value.ref (x + 39)) O_20 (Nat.le_of_ble_eq_true rfl)
  have SZ_23 := f23.1.trans s20
  have LO_23 := lo_fr LO_20 f23 (by omega)
  have WA_23 := wh_fr WA_20 f23 (by omega)
  have WB_23 := wh_fr w20 f23 (by omega)
  have F23 : Fr x 444 h (h23.1, h.2) := fc_tr F20 f23.2 (by omega)
  replace w23 : h23.1 x = some (.inr (7, [Value.ref (x + 1), Value.ref (x + 39), Value.null, Value.null, Value.null, Value.null, Value.int (zi 0), Value.int (zi 0), Value.int (zi 0), Value.int (zi 0)])) := w23
  refine xv (x_putfield 26 d_X7_init_23 rfl f_7_16 (Nat.le_of_ble_eq_true rfl) e23 rfl rfl (fun _ => ⟨rfl, rfl⟩)) ?_
  show Xv E q_m_X7_init 26 [Value.ref x] [] h23 Q
  refine xv (x_aload_n 27 d_X7_init_26 rfl rfl) ?_
  obtain ⟨h27, e27, a27, f27, z27⟩ := al_x (h := h23) (e := .inr (1, q_df 1)) (n := 3) SZ_23
  have O_27 : h27.1 x = some (.inr (7, [Value.ref (x + 1), Value.ref (x + 39), Value.null, Value.null, Value.null, Value.null, Value.int (zi 0), Value.int (zi 0), Value.int (zi 0), Value.int (zi 0)])) := by have z_ := (f27.2 _ (by omega)).trans w23; exact z_
  have LO_27 : Lo h27 N := by have z_ := lo_fr LO_23 f27 (by omega); exact z_
  have WA_27 : WH h27 (x + 1) ini (p0_ (x + 1)) := by have z_ := wh_fr WA_23 f27 (by omega); exact z_
  have WB_27 : WH h27 (x + 39) ini (p0_ (x + 39)) := by have z_ := wh_fr WB_23 f27 (by omega); exact z_
  have F27 : Fr x 444 h (h27.1, h.2) := fc_tr F23 f27.2 (by omega)
  refine xv (xA_new 30 d_X7_init_27 rfl rfl (Nat.le_of_ble_eq_true rfl) (sz_1 SZ_23) e27) ?_
  show Xv E q_m_X7_init 30 [Value.ref x] [Value.ref (x + 77), Value.ref x] h27 Q
  refine xv (x_dup 31 d_X7_init_30 rfl rfl) ?_
  obtain ⟨r31, h31, e31, z31, w31, s31, f31⟩ := S_X1_init (E := E) (v := x + 77) a27 z27 hE LO_27 (by omega)
  subst z31
  have O_31 : h31.1 x = some (.inr (7, [Value.ref (x + 1), Value.ref (x + 39), Value.null, Value.null, Value.null, Value.null, Value.int (zi 0), Value.int (zi 0), Value.int (zi 0), Value.int (zi 0)])) := by have z_ := (f31.2 _ (by omega)).trans O_27; exact z_
  have LO_31 : Lo h31 N := by have z_ := lo_fr LO_27 f31 (by omega); exact z_
  have WA_31 : WH h31 (x + 1) ini (p0_ (x + 1)) := by have z_ := wh_fr WA_27 f31 (by omega); exact z_
  have WB_31 : WH h31 (x + 39) ini (p0_ (x + 39)) := by have z_ := wh_fr WB_27 f31 (by omega); exact z_
  have F31 : Fr x 444 h (h31.1, h.2) := fc_tr F27 f31.2 (by omega)
  refine xv (x_ini 34 (as := []) d_X7_init_31 rfl c_7_21 rfl (Nat.le_of_ble_eq_true rfl) (Nat.le_of_ble_eq_true rfl) (Nat.le_of_ble_eq_true rfl) rfl e31) ?_
  show Xv E q_m_X7_init 34 [Value.ref x] [Value.ref (x + 77), Value.ref x] h31 Q
  obtain ⟨h34, e34, w34, f34⟩ := obj_pf (k := 2) (v := Value.ref (x + 77)) O_31 (Nat.le_of_ble_eq_true rfl)
  have SZ_34 := f34.1.trans s31
  have LO_34 := lo_fr LO_31 f34 (by omega)
  have WA_34 := wh_fr WA_31 f34 (by omega)
  have WB_34 := wh_fr WB_31 f34 (by omega)
  have HI_34 := hi_fr w31 f34 (by omega)
  have F34 : Fr x 444 h (h34.1, h.2) := fc_tr F31 f34.2 (by omega)
  replace w34 : h34.1 x = some (.inr (7, [Value.ref (x + 1), Value.ref (x + 39), Value.ref (x + 77), Value.null, Value.null, Value.null, Value.int (zi 0), Value.int (zi 0), Value.int (zi 0), Value.int (zi 0)])) := w34
  refine xv (x_putfield 37 d_X7_init_34 rfl f_7_22 (Nat.le_of_ble_eq_true rfl) e34 rfl rfl (fun _ => ⟨rfl, rfl⟩)) ?_
  show Xv E q_m_X7_init 37 [Value.ref x] [] h34 Q
  refine xv (x_aload_n 38 d_X7_init_37 rfl rfl) ?_
  obtain ⟨h38, e38, a38, f38, z38⟩ := al_x (h := h34) (e := .inr (2, q_df 2)) (n := 4) SZ_34
  have O_38 : h38.1 x = some (.inr (7, [Value.ref (x + 1), Value.ref (x + 39), Value.ref (x + 77), Value.null, Value.null, Value.null, Value.int (zi 0), Value.int (zi 0), Value.int (zi 0), Value.int (zi 0)])) := by have z_ := (f38.2 _ (by omega)).trans w34; exact z_
  have LO_38 : Lo h38 N := by have z_ := lo_fr LO_34 f38 (by omega); exact z_
  have WA_38 : WH h38 (x + 1) ini (p0_ (x + 1)) := by have z_ := wh_fr WA_34 f38 (by omega); exact z_
  have WB_38 : WH h38 (x + 39) ini (p0_ (x + 39)) := by have z_ := wh_fr WB_34 f38 (by omega); exact z_
  have HI_38 : HI h38 (x + 77) 0 0 (fun _ => ini) := by have z_ := hi_fr HI_34 f38 (by omega); exact z_
  have F38 : Fr x 444 h (h38.1, h.2) := fc_tr F34 f38.2 (by omega)
  refine xv (xA_new 41 d_X7_init_38 rfl rfl (Nat.le_of_ble_eq_true rfl) (sz_1 SZ_34) e38) ?_
  show Xv E q_m_X7_init 41 [Value.ref x] [Value.ref (x + 383), Value.ref x] h38 Q
  refine xv (x_dup 42 d_X7_init_41 rfl rfl) ?_
  obtain ⟨r42, h42, e42, z42, w42, s42, f42⟩ := S_X2_init (E := E) (a := x + 383) a38 z38
  subst z42
  have O_42 : h42.1 x = some (.inr (7, [Value.ref (x + 1), Value.ref (x + 39), Value.ref (x + 77), Value.null, Value.null, Value.null, Value.int (zi 0), Value.int (zi 0), Value.int (zi 0), Value.int (zi 0)])) := by have z_ := (f42.2 _ (by omega)).trans O_38; exact z_
  have LO_42 : Lo h42 N := by have z_ := lo_fr LO_38 f42 (by omega); exact z_
  have WA_42 : WH h42 (x + 1) ini (p0_ (x + 1)) := by have z_ := wh_fr WA_38 f42 (by omega); exact z_
  have WB_42 : WH h42 (x + 39) ini (p0_ (x + 39)) := by have z_ := wh_fr WB_38 f42 (by omega); exact z_
  have HI_42 : HI h42 (x + 77) 0 0 (fun _ => ini) := by have z_ := hi_fr HI_38 f42 (by omega); exact z_
  have F42 : Fr x 444 h (h42.1, h.2) := fc_tr F38 f42.2 (by omega)
  refine xv (x_ini 45 (as := []) d_X7_init_42 rfl c_7_28 rfl (Nat.le_of_ble_eq_true rfl) (Nat.le_of_ble_eq_true rfl) (Nat.le_of_ble_eq_true rfl) rfl e42) ?_
  show Xv E q_m_X7_init 45 [Value.ref x] [Value.ref (x + 383), Value.ref x] h42 Q
  obtain ⟨h45, e45, w45, f45⟩ := obj_pf (k := 3) (v := Value.ref (x + 383)) O_42 (Nat.le_of_ble_eq_true rfl)
  have SZ_45 := f45.1.trans s42
  have LO_45 := lo_fr LO_42 f45 (by omega)
  have WA_45 := wh_fr WA_42 f45 (by omega)
  have WB_45 := wh_fr WB_42 f45 (by omega)
  have HI_45 := hi_fr HI_42 f45 (by omega)
  have TT_45 := And.intro ((f45.2 _ (by omega)).trans w42.1) (ai_fr w42.2 f45 (by omega))
  have F45 : Fr x 444 h (h45.1, h.2) := fc_tr F42 f45.2 (by omega)
  replace w45 : h45.1 x = some (.inr (7, [Value.ref (x + 1), Value.ref (x + 39), Value.ref (x + 77), Value.ref (x + 383), Value.null, Value.null, Value.int (zi 0), Value.int (zi 0), Value.int (zi 0), Value.int (zi 0)])) := w45
  refine xv (x_putfield 48 d_X7_init_45 rfl f_7_29 (Nat.le_of_ble_eq_true rfl) e45 rfl rfl (fun _ => ⟨rfl, rfl⟩)) ?_
  show Xv E q_m_X7_init 48 [Value.ref x] [] h45 Q
  refine xv (x_aload_n 49 d_X7_init_48 rfl rfl) ?_
  obtain ⟨h49, e49, a49, f49, z49⟩ := al_x (h := h45) (e := .inr (0, q_df 0)) (n := 9) SZ_45
  have O_49 : h49.1 x = some (.inr (7, [Value.ref (x + 1), Value.ref (x + 39), Value.ref (x + 77), Value.ref (x + 383), Value.null, Value.null, Value.int (zi 0), Value.int (zi 0), Value.int (zi 0), Value.int (zi 0)])) := by have z_ := (f49.2 _ (by omega)).trans w45; exact z_
  have LO_49 : Lo h49 N := by have z_ := lo_fr LO_45 f49 (by omega); exact z_
  have WA_49 : WH h49 (x + 1) ini (p0_ (x + 1)) := by have z_ := wh_fr WA_45 f49 (by omega); exact z_
  have WB_49 : WH h49 (x + 39) ini (p0_ (x + 39)) := by have z_ := wh_fr WB_45 f49 (by omega); exact z_
  have HI_49 : HI h49 (x + 77) 0 0 (fun _ => ini) := by have z_ := hi_fr HI_45 f49 (by omega); exact z_
  have TT_49 : (LTo h49 (x + 383) 0 0 0 ∧ AI h49 (x + 384) 3 60 (fun _ => 0)) := by have z_ := And.intro ((f49.2 _ (by omega)).trans TT_45.1) (ai_fr TT_45.2 f49 (by omega)); exact z_
  have F49 : Fr x 444 h (h49.1, h.2) := fc_tr F45 f49.2 (by omega)
  refine xv (xA_new 52 d_X7_init_49 rfl rfl (Nat.le_of_ble_eq_true rfl) (sz_1 SZ_45) e49) ?_
  show Xv E q_m_X7_init 52 [Value.ref x] [Value.ref (x + 385), Value.ref x] h49 Q
  refine xv (x_dup 53 d_X7_init_52 rfl rfl) ?_
  refine xv (x_aload_n 54 d_X7_init_53 rfl rfl) ?_
  refine xv (x_getfield 57 d_X7_init_54 rfl f_7_12 (Nat.le_of_ble_eq_true rfl) (Nat.le_of_ble_eq_true rfl) (q_gf_of O_49 rfl)) ?_
  obtain ⟨r57, h57, e57, z57, w57, s57, f57⟩ := S_X0_init (E := E) (d := x + 385) (w := x + 1) a49 z49
  subst z57
  have O_57 : h57.1 x = some (.inr (7, [Value.ref (x + 1), Value.ref (x + 39), Value.ref (x + 77), Value.ref (x + 383), Value.null, Value.null, Value.int (zi 0), Value.int (zi 0), Value.int (zi 0), Value.int (zi 0)])) := by have z_ := (f57.2 _ (by omega)).trans O_49; exact z_
  have LO_57 : Lo h57 N := by have z_ := lo_fr LO_49 f57 (by omega); exact z_
  have WA_57 : WH h57 (x + 1) ini (p0_ (x + 1)) := by have z_ := wh_fr WA_49 f57 (by omega); exact z_
  have WB_57 : WH h57 (x + 39) ini (p0_ (x + 39)) := by have z_ := wh_fr WB_49 f57 (by omega); exact z_
  have HI_57 : HI h57 (x + 77) 0 0 (fun _ => ini) := by have z_ := hi_fr HI_49 f57 (by omega); exact z_
  have TT_57 : (LTo h57 (x + 383) 0 0 0 ∧ AI h57 (x + 384) 3 60 (fun _ => 0)) := by have z_ := And.intro ((f57.2 _ (by omega)).trans TT_49.1) (ai_fr TT_49.2 f57 (by omega)); exact z_
  have F57 : Fr x 444 h (h57.1, h.2) := fc_tr F49 f57.2 (by omega)
  refine xv (x_ini 60 (as := [Value.ref (x + 1)]) d_X7_init_57 rfl c_7_35 rfl (Nat.le_of_ble_eq_true rfl) (Nat.le_of_ble_eq_true rfl) (Nat.le_of_ble_eq_true rfl) rfl e57) ?_
  show Xv E q_m_X7_init 60 [Value.ref x] [Value.ref (x + 385), Value.ref x] h57 Q
  obtain ⟨h60, e60, w60, f60⟩ := obj_pf (k := 4) (v := Value.ref (x + 385)) O_57 (Nat.le_of_ble_eq_true rfl)
  have SZ_60 := f60.1.trans s57
  have LO_60 := lo_fr LO_57 f60 (by omega)
  have WA_60 := wh_fr WA_57 f60 (by omega)
  have WB_60 := wh_fr WB_57 f60 (by omega)
  have HI_60 := hi_fr HI_57 f60 (by omega)
  have TT_60 := And.intro ((f60.2 _ (by omega)).trans TT_57.1) (ai_fr TT_57.2 f60 (by omega))
  have DSX_60 := ds_fr (dsx_0 w57) f60 (by omega)
  have F60 : Fr x 444 h (h60.1, h.2) := fc_tr F57 f60.2 (by omega)
  replace w60 : h60.1 x = some (.inr (7, [Value.ref (x + 1), Value.ref (x + 39), Value.ref (x + 77), Value.ref (x + 383), Value.ref (x + 385), Value.null, Value.int (zi 0), Value.int (zi 0), Value.int (zi 0), Value.int (zi 0)])) := w60
  refine xv (x_putfield 63 d_X7_init_60 rfl f_7_38 (Nat.le_of_ble_eq_true rfl) e60 rfl rfl (fun _ => ⟨rfl, rfl⟩)) ?_
  show Xv E q_m_X7_init 63 [Value.ref x] [] h60 Q
  refine xv (x_aload_n 64 d_X7_init_63 rfl rfl) ?_
  obtain ⟨h64, e64, a64, f64, z64⟩ := al_x (h := h60) (e := .inr (4, q_df 4)) (n := 8) SZ_60
  have O_64 : h64.1 x = some (.inr (7, [Value.ref (x + 1), Value.ref (x + 39), Value.ref (x + 77), Value.ref (x + 383), Value.ref (x + 385), Value.null, Value.int (zi 0), Value.int (zi 0), Value.int (zi 0), Value.int (zi 0)])) := by have z_ := (f64.2 _ (by omega)).trans w60; exact z_
  have LO_64 : Lo h64 N := by have z_ := lo_fr LO_60 f64 (by omega); exact z_
  have WA_64 : WH h64 (x + 1) ini (p0_ (x + 1)) := by have z_ := wh_fr WA_60 f64 (by omega); exact z_
  have WB_64 : WH h64 (x + 39) ini (p0_ (x + 39)) := by have z_ := wh_fr WB_60 f64 (by omega); exact z_
  have HI_64 : HI h64 (x + 77) 0 0 (fun _ => ini) := by have z_ := hi_fr HI_60 f64 (by omega); exact z_
  have TT_64 : (LTo h64 (x + 383) 0 0 0 ∧ AI h64 (x + 384) 3 60 (fun _ => 0)) := by have z_ := And.intro ((f64.2 _ (by omega)).trans TT_60.1) (ai_fr TT_60.2 f64 (by omega)); exact z_
  have DSX_64 : DSx h64 x := by have z_ := ds_fr DSX_60 f64 (by omega); exact z_
  have F64 : Fr x 444 h (h64.1, h.2) := fc_tr F60 f64.2 (by omega)
  refine xv (xA_new 67 d_X7_init_64 rfl rfl (Nat.le_of_ble_eq_true rfl) (sz_1 SZ_60) e64) ?_
  show Xv E q_m_X7_init 67 [Value.ref x] [Value.ref (x + 439), Value.ref x] h64 Q
  refine xv (x_dup 68 d_X7_init_67 rfl rfl) ?_
  refine xv (x_aload_n 69 d_X7_init_68 rfl rfl) ?_
  refine xv (x_getfield 72 d_X7_init_69 rfl f_7_12 (Nat.le_of_ble_eq_true rfl) (Nat.le_of_ble_eq_true rfl) (q_gf_of O_64 rfl)) ?_
  obtain ⟨r72, h72, e72, z72, w72, s72, f72⟩ := S_X4_init (E := E) (a := x + 439) (w := x + 1) a64 z64
  subst z72
  have O_72 : h72.1 x = some (.inr (7, [Value.ref (x + 1), Value.ref (x + 39), Value.ref (x + 77), Value.ref (x + 383), Value.ref (x + 385), Value.null, Value.int (zi 0), Value.int (zi 0), Value.int (zi 0), Value.int (zi 0)])) := by have z_ := (f72.2 _ (by omega)).trans O_64; exact z_
  have LO_72 : Lo h72 N := by have z_ := lo_fr LO_64 f72 (by omega); exact z_
  have WA_72 : WH h72 (x + 1) ini (p0_ (x + 1)) := by have z_ := wh_fr WA_64 f72 (by omega); exact z_
  have WB_72 : WH h72 (x + 39) ini (p0_ (x + 39)) := by have z_ := wh_fr WB_64 f72 (by omega); exact z_
  have HI_72 : HI h72 (x + 77) 0 0 (fun _ => ini) := by have z_ := hi_fr HI_64 f72 (by omega); exact z_
  have TT_72 : (LTo h72 (x + 383) 0 0 0 ∧ AI h72 (x + 384) 3 60 (fun _ => 0)) := by have z_ := And.intro ((f72.2 _ (by omega)).trans TT_64.1) (ai_fr TT_64.2 f72 (by omega)); exact z_
  have DSX_72 : DSx h72 x := by have z_ := ds_fr DSX_64 f72 (by omega); exact z_
  have F72 : Fr x 444 h (h72.1, h.2) := fc_tr F64 f72.2 (by omega)
  refine xv (x_ini 75 (as := [Value.ref (x + 1)]) d_X7_init_72 rfl c_7_44 rfl (Nat.le_of_ble_eq_true rfl) (Nat.le_of_ble_eq_true rfl) (Nat.le_of_ble_eq_true rfl) rfl e72) ?_
  show Xv E q_m_X7_init 75 [Value.ref x] [Value.ref (x + 439), Value.ref x] h72 Q
  obtain ⟨h75, e75, w75, f75⟩ := obj_pf (k := 5) (v := Value.ref (x + 439)) O_72 (Nat.le_of_ble_eq_true rfl)
  have SZ_75 := f75.1.trans s72
  have LO_75 := lo_fr LO_72 f75 (by omega)
  have WA_75 := wh_fr WA_72 f75 (by omega)
  have WB_75 := wh_fr WB_72 f75 (by omega)
  have HI_75 := hi_fr HI_72 f75 (by omega)
  have TT_75 := And.intro ((f75.2 _ (by omega)).trans TT_72.1) (ai_fr TT_72.2 f75 (by omega))
  have DSX_75 := ds_fr DSX_72 f75 (by omega)
  have PLXX_75 := plx_fr (plx_0 w72) f75 (by omega)
  have F75 : Fr x 444 h (h75.1, h.2) := fc_tr F72 f75.2 (by omega)
  replace w75 : h75.1 x = some (.inr (7, [Value.ref (x + 1), Value.ref (x + 39), Value.ref (x + 77), Value.ref (x + 383), Value.ref (x + 385), Value.ref (x + 439), Value.int (zi 0), Value.int (zi 0), Value.int (zi 0), Value.int (zi 0)])) := w75
  refine xv (x_putfield 78 d_X7_init_75 rfl f_7_45 (Nat.le_of_ble_eq_true rfl) e75 rfl rfl (fun _ => ⟨rfl, rfl⟩)) ?_
  show Xv E q_m_X7_init 78 [Value.ref x] [] h75 Q
  refine xv (x_aload_n 79 d_X7_init_78 rfl rfl) ?_
  refine xv (x_iconst 80 d_X7_init_79 rfl) ?_
  obtain ⟨h80, e80, w80, f80⟩ := obj_pf (k := 6) (v := Value.int (zi 0)) w75 (Nat.le_of_ble_eq_true rfl)
  have SZ_80 := f80.1.trans SZ_75
  have LO_80 := lo_fr LO_75 f80 (by omega)
  have WA_80 := wh_fr WA_75 f80 (by omega)
  have WB_80 := wh_fr WB_75 f80 (by omega)
  have HI_80 := hi_fr HI_75 f80 (by omega)
  have TT_80 := And.intro ((f80.2 _ (by omega)).trans TT_75.1) (ai_fr TT_75.2 f80 (by omega))
  have DSX_80 := ds_fr DSX_75 f80 (by omega)
  have PLXX_80 := plx_fr PLXX_75 f80 (by omega)
  have F80 : Fr x 444 h (h80.1, h.2) := fc_tr F75 f80.2 (by omega)
  replace w80 : h80.1 x = some (.inr (7, [Value.ref (x + 1), Value.ref (x + 39), Value.ref (x + 77), Value.ref (x + 383), Value.ref (x + 385), Value.ref (x + 439), Value.int (zi 0), Value.int (zi 0), Value.int (zi 0), Value.int (zi 0)])) := w80
  refine xv (x_putfield 83 d_X7_init_80 rfl f_7_49 (Nat.le_of_ble_eq_true rfl) e80 rfl rfl (fun e => absurd e (by decide))) ?_
  show Xv E q_m_X7_init 83 [Value.ref x] [] h80 Q
  refine xv (x_aload_n 84 d_X7_init_83 rfl rfl) ?_
  refine xv (x_iconst 85 d_X7_init_84 rfl) ?_
  obtain ⟨h85, e85, w85, f85⟩ := obj_pf (k := 7) (v := Value.int (zi (-1))) w80 (Nat.le_of_ble_eq_true rfl)
  have SZ_85 := f85.1.trans SZ_80
  have LO_85 := lo_fr LO_80 f85 (by omega)
  have WA_85 := wh_fr WA_80 f85 (by omega)
  have WB_85 := wh_fr WB_80 f85 (by omega)
  have HI_85 := hi_fr HI_80 f85 (by omega)
  have TT_85 := And.intro ((f85.2 _ (by omega)).trans TT_80.1) (ai_fr TT_80.2 f85 (by omega))
  have DSX_85 := ds_fr DSX_80 f85 (by omega)
  have PLXX_85 := plx_fr PLXX_80 f85 (by omega)
  have F85 : Fr x 444 h (h85.1, h.2) := fc_tr F80 f85.2 (by omega)
  replace w85 : h85.1 x = some (.inr (7, [Value.ref (x + 1), Value.ref (x + 39), Value.ref (x + 77), Value.ref (x + 383), Value.ref (x + 385), Value.ref (x + 439), Value.int (zi 0), Value.int (zi (-1)), Value.int (zi 0), Value.int (zi 0)])) := w85
  refine xv (x_putfield 88 d_X7_init_85 rfl f_7_53 (Nat.le_of_ble_eq_true rfl) e85 rfl rfl (fun e => absurd e (by decide))) ?_
  show Xv E q_m_X7_init 88 [Value.ref x] [] h85 Q
  refine xv (x_aload_n 89 d_X7_init_88 rfl rfl) ?_
  refine xv (x_iconst 90 d_X7_init_89 rfl) ?_
  obtain ⟨h90, e90, w90, f90⟩ := obj_pf (k := 8) (v := Value.int (zi (-1))) w85 (Nat.le_of_ble_eq_true rfl)
  have SZ_90 := f90.1.trans SZ_85
  have LO_90 := lo_fr LO_85 f90 (by omega)
  have WA_90 := wh_fr WA_85 f90 (by omega)
  have WB_90 := wh_fr WB_85 f90 (by omega)
  have HI_90 := hi_fr HI_85 f90 (by omega)
  have TT_90 := And.intro ((f90.2 _ (by omega)).trans TT_85.1) (ai_fr TT_85.2 f90 (by omega))
  have DSX_90 := ds_fr DSX_85 f90 (by omega)
  have PLXX_90 := plx_fr PLXX_85 f90 (by omega)
  have F90 : Fr x 444 h (h90.1, h.2) := fc_tr F85 f90.2 (by omega)
  replace w90 : h90.1 x = some (.inr (7, [Value.ref (x + 1), Value.ref (x + 39), Value.ref (x + 77), Value.ref (x + 383), Value.ref (x + 385), Value.ref (x + 439), Value.int (zi 0), Value.int (zi (-1)), Value.int (zi (-1)), Value.int (zi 0)])) := w90
  refine xv (x_putfield 93 d_X7_init_90 rfl f_7_57 (Nat.le_of_ble_eq_true rfl) e90 rfl rfl (fun e => absurd e (by decide))) ?_
  show Xv E q_m_X7_init 93 [Value.ref x] [] h90 Q
  refine xv (x_aload_n 94 d_X7_init_93 rfl rfl) ?_
  refine xv (x_iconst 95 d_X7_init_94 rfl) ?_
  obtain ⟨h95, e95, w95, f95⟩ := obj_pf (k := 9) (v := Value.int (zi 0)) w90 (Nat.le_of_ble_eq_true rfl)
  have SZ_95 := f95.1.trans SZ_90
  have LO_95 := lo_fr LO_90 f95 (by omega)
  have WA_95 := wh_fr WA_90 f95 (by omega)
  have WB_95 := wh_fr WB_90 f95 (by omega)
  have HI_95 := hi_fr HI_90 f95 (by omega)
  have TT_95 := And.intro ((f95.2 _ (by omega)).trans TT_90.1) (ai_fr TT_90.2 f95 (by omega))
  have DSX_95 := ds_fr DSX_90 f95 (by omega)
  have PLXX_95 := plx_fr PLXX_90 f95 (by omega)
  have F95 : Fr x 444 h (h95.1, h.2) := fc_tr F90 f95.2 (by omega)
  replace w95 : h95.1 x = some (.inr (7, [Value.ref (x + 1), Value.ref (x + 39), Value.ref (x + 77), Value.ref (x + 383), Value.ref (x + 385), Value.ref (x + 439), Value.int (zi 0), Value.int (zi (-1)), Value.int (zi (-1)), Value.int (zi 0)])) := w95
  refine xv (x_putfield 98 d_X7_init_95 rfl f_7_60 (Nat.le_of_ble_eq_true rfl) e95 rfl rfl (fun e => absurd e (by decide))) ?_
  show Xv E q_m_X7_init 98 [Value.ref x] [] h95 Q
  refine xv_r (x_return d_X7_init_98 rfl) ?_
  exact hQ _ _ ⟨rfl, ⟨w95, ⟨_, WA_95⟩, ⟨_, WB_95⟩, HI_95, ⟨_, _, TT_95⟩, DSX_95, PLXX_95⟩, sz_eq SZ_95 (by omega) (by omega) (by omega), F95⟩
end CTZ
