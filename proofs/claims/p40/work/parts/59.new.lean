/-! the warehouse's constructor (printed by program) -/
section CTW
variable {E : q_E} {h h' : q_H} {x w v a b t N k d c s : Nat} {f : Int → Int}
theorem ai_cs (H0 : E.2 b = some (.int, 3, q_vf [5, 2, 30])) (h0 : h.1 b = none) (H : AI h a 0 3 f) : ∃ h', q_cpy E h b (zi 0) a (zi 0) (zi 3) = some h' ∧ AI h' a 0 3 (fun i => if i = 0 then 5 else if i = 1 then 2 else 30) ∧ Fr a 1 h h' := by
  obtain ⟨g, e1, e2⟩ := H
  refine ⟨q_up h a (.inl (0, 3, .inl (va_cpy (q_iv (q_vf [5, 2, 30])) g 0 0 3))), ?_, ⟨_, q_up_eq, fun k hk => ?_⟩, fr_up⟩
  · unfold q_cpy
    rw [h0, e1, H0]
    simp only
    rw [if_pos ⟨trivial, by decide, fun i hi => rfl⟩]
    rfl
  · match k, hk with
    | 0, _ => rfl
    | 1, _ => rfl
    | 2, _ => rfl
/-- the first warehouse -/
def ini : Int → Int := fun i => if i = 0 then 1 else if i = 1 then 2 else if i = 5 then 5 else if i = 6 then 2 else if i = 7 then 30 else if 104 ≤ i ∧ i < 320 then (if (i - 104) % 36 = 2 then -1 else 0) else if 320 ≤ i then (if (i - 320) % 8 = 4 then -1 else 0) else 0
theorem ini_r {r i : Int} (a : 0 ≤ r) (b : r < 6) (c : 0 ≤ i) (d : i < 36) : bg5 i = rb ini r i := by
  have e : ini (104 + 36 * r + i) = if (104 + 36 * r + i - 104) % 36 = 2 then -1 else 0 := by
    unfold ini
    rw [if_neg (by omega), if_neg (by omega), if_neg (by omega), if_neg (by omega), if_neg (by omega), if_pos (by omega)]
  rw [show (104 + 36 * r + i - 104) % 36 = i by omega] at e
  exact e.symm
theorem ini_o {r i : Int} (a : 0 ≤ r) (b : r < 10) (c : 0 ≤ i) (d : i < 8) : bg3 i = ob ini r i := by
  have e : ini (320 + 8 * r + i) = if (320 + 8 * r + i - 320) % 8 = 4 then -1 else 0 := by
    unfold ini
    rw [if_neg (by omega), if_neg (by omega), if_neg (by omega), if_neg (by omega), if_neg (by omega), if_neg (by omega), if_pos (by omega)]
  rw [show (320 + 8 * r + i - 320) % 8 = i by omega] at e
  exact e.symm
def p0_ (w : Nat) (r : Int) : Nat := w + 4 + 2 * r.toNat
theorem pm_0 : PM w (p0_ w) := ⟨fun r a b => ⟨r.toNat, by omega, rfl⟩, fun r r' a b c d e => by unfold p0_ at e; omega⟩
theorem S_X6_init (hO : h.1 w = some (.inr (6, q_df 6))) (hs : h.2 = (some (w + 1), c, s)) (hE : q_EN E N) (hLo : Lo h N) (hN : N ≤ w)  : ∃ r_ h', q_cl E q_m_X6_init [Value.ref w] h = some (r_, h') ∧ (r_ = .inl none ∧ WH h' w ini (p0_ w) ∧ h'.2 = (some (w + 38), c + 37, s + 417) ∧ Fr w 38 h (h'.1, h.2)) := by
  suffices K : ∀ Q : q_R → q_H → Prop, (∀ r_ h', (r_ = .inl none ∧ WH h' w ini (p0_ w) ∧ h'.2 = (some (w + 38), c + 37, s + 417) ∧ Fr w 38 h (h'.1, h.2)) → Q r_ h') → Xv E q_m_X6_init 0 [Value.ref w, Value.null] [] h Q from K _ fun _ _ p => p
  intro Q hQ
  replace hO : h.1 w = some (.inr (6, [Value.int (zi 0), Value.int (zi 0), Value.int (zi 0), Value.int (zi 0), Value.int (zi 0), Value.null, Value.null, Value.null, Value.null, Value.null])) := hO
  obtain ⟨a1_, u1_, s1_, t1_⟩ := hE.1
  refine xv (x_aload_n 1 d_X6_init_0 rfl rfl) ?_
  refine xv (x_obj 4 d_X6_init_1 rfl rfl rfl (Nat.le_of_ble_eq_true rfl) (Nat.le_of_ble_eq_true rfl) (Nat.le_of_ble_eq_true rfl)) ?_
  refine xv (x_aload_n 5 d_X6_init_4 rfl rfl) ?_
  refine xv (x_iconst 6 d_X6_init_5 rfl) ?_
  obtain ⟨h6, e6, w6, f6⟩ := obj_pf (k := 0) (v := Value.int (zi 1)) hO (Nat.le_of_ble_eq_true rfl)
  have SZ_6 := f6.1.trans hs
  have LO_6 := lo_fr hLo f6 (by omega)
  have F6 : Fr w 38 h (h6.1, h.2) := fc_tr fc_rf f6.2 (by omega)
  replace w6 : h6.1 w = some (.inr (6, [Value.int (zi 1), Value.int (zi 0), Value.int (zi 0), Value.int (zi 0), Value.int (zi 0), Value.null, Value.null, Value.null, Value.null, Value.null])) := w6
  refine xv (x_putfield 9 d_X6_init_6 rfl f_6_9 (Nat.le_of_ble_eq_true rfl) e6 rfl rfl (fun e => absurd e (by decide))) ?_
  show Xv E q_m_X6_init 9 [Value.ref w, Value.null] [] h6 Q
  refine xv (x_aload_n 10 d_X6_init_9 rfl rfl) ?_
  refine xv (x_iconst 11 d_X6_init_10 rfl) ?_
  obtain ⟨h11, e11, w11, f11⟩ := obj_pf (k := 1) (v := Value.int (zi 2)) w6 (Nat.le_of_ble_eq_true rfl)
  have SZ_11 := f11.1.trans SZ_6
  have LO_11 := lo_fr LO_6 f11 (by omega)
  have F11 : Fr w 38 h (h11.1, h.2) := fc_tr F6 f11.2 (by omega)
  replace w11 : h11.1 w = some (.inr (6, [Value.int (zi 1), Value.int (zi 2), Value.int (zi 0), Value.int (zi 0), Value.int (zi 0), Value.null, Value.null, Value.null, Value.null, Value.null])) := w11
  refine xv (x_putfield 14 d_X6_init_11 rfl f_6_15 (Nat.le_of_ble_eq_true rfl) e11 rfl rfl (fun e => absurd e (by decide))) ?_
  show Xv E q_m_X6_init 14 [Value.ref w, Value.null] [] h11 Q
  refine xv (x_aload_n 15 d_X6_init_14 rfl rfl) ?_
  refine xv (x_bipush 17 d_X6_init_15 rfl rfl) ?_
  obtain ⟨h17, e17, a17, f17, z17⟩ := al_x (h := h11) (e := .inl (0, 48, q_z 0)) (n := 48) SZ_11
  have O_17 : h17.1 w = some (.inr (6, [Value.int (zi 1), Value.int (zi 2), Value.int (zi 0), Value.int (zi 0), Value.int (zi 0), Value.null, Value.null, Value.null, Value.null, Value.null])) := by have z_ := (f17.2 _ (by omega)).trans w11; exact z_
  have LO_17 : Lo h17 N := by have z_ := lo_fr LO_11 f17 (by omega); exact z_
  have F17 : Fr w 38 h (h17.1, h.2) := fc_tr F11 f17.2 (by omega)
  refine xv (xA_newarray (n := 48) 19 d_X6_init_17 rfl rfl (by decide) (sz_1 SZ_11) e17) ?_
  have r17 := ai_new a17 rfl
  show Xv E q_m_X6_init 19 [Value.ref w, Value.null] [Value.ref (w + 1), Value.ref w] h17 Q
  obtain ⟨h19, e19, w19, f19⟩ := obj_pf (k := 5) (v := Value.ref (w + 1)) O_17 (Nat.le_of_ble_eq_true rfl)
  have SZ_19 := f19.1.trans z17
  have LO_19 := lo_fr LO_17 f19 (by omega)
  have N17_19 := ai_fr r17 f19 (by omega)
  have F19 : Fr w 38 h (h19.1, h.2) := fc_tr F17 f19.2 (by omega)
  replace w19 : h19.1 w = some (.inr (6, [Value.int (zi 1), Value.int (zi 2), Value.int (zi 0), Value.int (zi 0), Value.int (zi 0), Value.ref (w + 1), Value.null, Value.null, Value.null, Value.null])) := w19
  refine xv (x_putfield 22 d_X6_init_19 rfl f_6_18 (Nat.le_of_ble_eq_true rfl) e19 rfl rfl (fun _ => ⟨rfl, rfl⟩)) ?_
  show Xv E q_m_X6_init 22 [Value.ref w, Value.null] [] h19 Q
  refine xv (x_aload_n 23 d_X6_init_22 rfl rfl) ?_
  refine xv (x_bipush 25 d_X6_init_23 rfl rfl) ?_
  obtain ⟨h25, e25, a25, f25, z25⟩ := al_x (h := h19) (e := .inl (2, 48, q_z 2)) (n := 48) SZ_19
  have O_25 : h25.1 w = some (.inr (6, [Value.int (zi 1), Value.int (zi 2), Value.int (zi 0), Value.int (zi 0), Value.int (zi 0), Value.ref (w + 1), Value.null, Value.null, Value.null, Value.null])) := by have z_ := (f25.2 _ (by omega)).trans w19; exact z_
  have LO_25 : Lo h25 N := by have z_ := lo_fr LO_19 f25 (by omega); exact z_
  have N17_25 : AI h25 (w + 1) 0 48 (fun _ => 0) := by have z_ := ai_fr N17_19 f25 (by omega); exact z_
  have F25 : Fr w 38 h (h25.1, h.2) := fc_tr F19 f25.2 (by omega)
  refine xv (xA_newarray (n := 48) 27 d_X6_init_25 rfl rfl (by decide) (sz_1 SZ_19) e25) ?_
  have r25 := ai_new a25 rfl
  show Xv E q_m_X6_init 27 [Value.ref w, Value.null] [Value.ref (w + 2), Value.ref w] h25 Q
  obtain ⟨h27, e27, w27, f27⟩ := obj_pf (k := 6) (v := Value.ref (w + 2)) O_25 (Nat.le_of_ble_eq_true rfl)
  have SZ_27 := f27.1.trans z25
  have LO_27 := lo_fr LO_25 f27 (by omega)
  have N17_27 := ai_fr N17_25 f27 (by omega)
  have N25_27 := ai_fr r25 f27 (by omega)
  have F27 : Fr w 38 h (h27.1, h.2) := fc_tr F25 f27.2 (by omega)
  replace w27 : h27.1 w = some (.inr (6, [Value.int (zi 1), Value.int (zi 2), Value.int (zi 0), Value.int (zi 0), Value.int (zi 0), Value.ref (w + 1), Value.ref (w + 2), Value.null, Value.null, Value.null])) := w27
  refine xv (x_putfield 30 d_X6_init_27 rfl f_6_22 (Nat.le_of_ble_eq_true rfl) e27 rfl rfl (fun _ => ⟨rfl, rfl⟩)) ?_
  show Xv E q_m_X6_init 30 [Value.ref w, Value.null] [] h27 Q
  refine xv (x_aload_n 31 d_X6_init_30 rfl rfl) ?_
  refine xv (x_bipush 33 d_X6_init_31 rfl rfl) ?_
  obtain ⟨h33, e33, a33, f33, z33⟩ := al_x (h := h27) (e := .inl (5, 6, .inr (.inr (.inr (.inr fun _ => none))))) (n := 6) SZ_27
  have O_33 : h33.1 w = some (.inr (6, [Value.int (zi 1), Value.int (zi 2), Value.int (zi 0), Value.int (zi 0), Value.int (zi 0), Value.ref (w + 1), Value.ref (w + 2), Value.null, Value.null, Value.null])) := by have z_ := (f33.2 _ (by omega)).trans w27; exact z_
  have LO_33 : Lo h33 N := by have z_ := lo_fr LO_27 f33 (by omega); exact z_
  have N17_33 : AI h33 (w + 1) 0 48 (fun _ => 0) := by have z_ := ai_fr N17_27 f33 (by omega); exact z_
  have N25_33 : AI h33 (w + 2) 2 48 (fun _ => 0) := by have z_ := ai_fr N25_27 f33 (by omega); exact z_
  have F33 : Fr w 38 h (h33.1, h.2) := fc_tr F27 f33.2 (by omega)
  refine xv (xA_anewarray (n := 6) 36 d_X6_init_33 rfl rfl (Nat.le_of_ble_eq_true rfl) (by decide) (sz_1 SZ_27) e33) ?_
  have r33 : AQ h33 (w + 3) 5 6 (fun _ => none) := ⟨_, a33, fun _ _ => rfl⟩
  show Xv E q_m_X6_init 36 [Value.ref w, Value.null] [Value.ref (w + 3), Value.ref w] h33 Q
  obtain ⟨h36, e36, w36, f36⟩ := obj_pf (k := 7) (v := Value.ref (w + 3)) O_33 (Nat.le_of_ble_eq_true rfl)
  have SZ_36 := f36.1.trans z33
  have LO_36 := lo_fr LO_33 f36 (by omega)
  have N17_36 := ai_fr N17_33 f36 (by omega)
  have N25_36 := ai_fr N25_33 f36 (by omega)
  have Q33_36 := aq_fr r33 f36 (by omega)
  have F36 : Fr w 38 h (h36.1, h.2) := fc_tr F33 f36.2 (by omega)
  replace w36 : h36.1 w = some (.inr (6, [Value.int (zi 1), Value.int (zi 2), Value.int (zi 0), Value.int (zi 0), Value.int (zi 0), Value.ref (w + 1), Value.ref (w + 2), Value.ref (w + 3), Value.null, Value.null])) := w36
  refine xv (x_putfield 39 d_X6_init_36 rfl f_6_28 (Nat.le_of_ble_eq_true rfl) e36 rfl rfl (fun _ => ⟨rfl, rfl⟩)) ?_
  show Xv E q_m_X6_init 39 [Value.ref w, Value.null] [] h36 Q
  refine xv (x_iconst 40 d_X6_init_39 rfl) ?_
  refine xv (x_istore_n 41 d_X6_init_40 rfl (Nat.le_of_ble_eq_true rfl)) ?_
  show Xv E q_m_X6_init 41 [Value.ref w, Value.int (zi 0)] [] h36 Q
  have L41 : ∀ (n_ : Nat) (k : Int) (H : q_H), (0 ≤ k) → (k ≤ 6) → (H.1 w = some (.inr (6, [Value.int (zi 1), Value.int (zi 2), Value.int (zi 0), Value.int (zi 0), Value.int (zi 0), Value.ref (w + 1), Value.ref (w + 2), Value.ref (w + 3), Value.null, Value.null]))) → (AI H (w + 1) 0 48 (fun _ => 0)) → (AI H (w + 2) 2 48 (fun _ => 0)) → (AQ H (w + 3) 5 6 (fun i => if i < k.toNat then some (w + 4 + 2 * i) else none)) → (∀ r : Int, 0 ≤ r → r < k → RB H (w + 4 + 2 * r.toNat) bg5) → (H.2 = (some (w + 4 + 2 * k.toNat), c + 3 + 2 * k.toNat, s + 102 + 37 * k.toNat)) → (Lo H N) → (Fr w 38 h (H.1, h.2)) → (6 - k).toNat = n_ → Xv E q_m_X6_init 41 [Value.ref w, Value.int (zi k)] [] H Q := by
    intro n_
    induction n_ using Nat.strongRecOn with
    | _ n_ ih41 =>
      intro k H k0 k1 hO2 hK2 hC2 hQ2 hR2 hs2 hLo2 hF2 em
      refine xv (x_iload_n 42 d_X6_init_41 rfl rfl) ?_
      refine xv (x_aload_n 43 d_X6_init_42 rfl rfl) ?_
      refine xv (x_getfield 46 d_X6_init_43 rfl f_6_28 (Nat.le_of_ble_eq_true rfl) (Nat.le_of_ble_eq_true rfl) (q_gf_of hO2 rfl)) ?_
      refine xv (x_arraylength 47 d_X6_init_46 rfl (aq_l hQ2 (by decide))) ?_
      refine v_icmp_ge 69 50 d_X6_init_47 rfl rfl (by omega) (by omega) (by omega) (by omega) (fun k47 => ?_) (fun k47 => ?_)
      · have ek : k = 6 := by omega
        have sz6 : H.2 = (some (w + 16), c + 15, s + 324) := sz_eq hs2 (by omega) (by omega) (by omega)
        refine xv (x_aload_n 70 d_X6_init_69 rfl rfl) ?_
        refine xv (x_bipush 72 d_X6_init_70 rfl rfl) ?_
        obtain ⟨h72, e72, a72, f72, z72⟩ := al_x (h := H) (e := .inl (6, 10, .inr (.inr (.inr (.inr fun _ => none))))) (n := 10) sz6
        have O_72 : h72.1 w = some (.inr (6, [Value.int (zi 1), Value.int (zi 2), Value.int (zi 0), Value.int (zi 0), Value.int (zi 0), Value.ref (w + 1), Value.ref (w + 2), Value.ref (w + 3), Value.null, Value.null])) := by have z_ := (f72.2 _ (by omega)).trans hO2; exact z_
        have K_72 : AI h72 (w + 1) 0 48 (fun _ => 0) := by have z_ := ai_fr hK2 f72 (by omega); exact z_
        have C_72 : AI h72 (w + 2) 2 48 (fun _ => 0) := by have z_ := ai_fr hC2 f72 (by omega); exact z_
        have RQ_72 : AQ h72 (w + 3) 5 6 (fun i => if i < k.toNat then some (w + 4 + 2 * i) else none) := by have z_ := aq_fr hQ2 f72 (by omega); exact z_
        have RBS_72 : ∀ r : Int, 0 ≤ r → r < k → RB h72 (w + 4 + 2 * r.toNat) bg5 := by have z_ := fun r a_ b_ => rb_fr (hR2 r a_ b_) f72 (by omega); exact z_
        have LO_72 : Lo h72 N := by have z_ := lo_fr hLo2 f72 (by omega); exact z_
        have F72 : Fr w 38 h (h72.1, h.2) := fc_tr hF2 f72.2 (by omega)
        refine xv (xA_anewarray (n := 10) 75 d_X6_init_72 rfl rfl (Nat.le_of_ble_eq_true rfl) (by decide) (sz_1 sz6) e72) ?_
        have r72 : AQ h72 (w + 16) 6 10 (fun _ => none) := ⟨_, a72, fun _ _ => rfl⟩
        show Xv E q_m_X6_init 75 [Value.ref w, Value.int (zi k)] [Value.ref (w + 16), Value.ref w] h72 Q
        obtain ⟨h75, e75, w75, f75⟩ := obj_pf (k := 8) (v := Value.ref (w + 16)) O_72 (Nat.le_of_ble_eq_true rfl)
        have K_75 := ai_fr K_72 f75 (by omega)
        have C_75 := ai_fr C_72 f75 (by omega)
        have RQ_75 := aq_fr RQ_72 f75 (by omega)
        have RBS_75 := fun r a_ b_ => rb_fr (RBS_72 r a_ b_) f75 (by omega)
        have SZ_75 := f75.1.trans z72
        have LO_75 := lo_fr LO_72 f75 (by omega)
        have Q72_75 := aq_fr r72 f75 (by omega)
        have F75 : Fr w 38 h (h75.1, h.2) := fc_tr F72 f75.2 (by omega)
        replace w75 : h75.1 w = some (.inr (6, [Value.int (zi 1), Value.int (zi 2), Value.int (zi 0), Value.int (zi 0), Value.int (zi 0), Value.ref (w + 1), Value.ref (w + 2), Value.ref (w + 3), Value.ref (w + 16), Value.null])) := w75
        refine xv (x_putfield 78 d_X6_init_75 rfl f_6_35 (Nat.le_of_ble_eq_true rfl) e75 rfl rfl (fun _ => ⟨rfl, rfl⟩)) ?_
        show Xv E q_m_X6_init 78 [Value.ref w, Value.int (zi k)] [] h75 Q
        refine xv (x_iconst 79 d_X6_init_78 rfl) ?_
        refine xv (x_istore_n 80 d_X6_init_79 rfl (Nat.le_of_ble_eq_true rfl)) ?_
        show Xv E q_m_X6_init 80 [Value.ref w, Value.int (zi 0)] [] h75 Q
        have L80 : ∀ (n_ : Nat) (k : Int) (H : q_H), (0 ≤ k) → (k ≤ 10) → (H.1 w = some (.inr (6, [Value.int (zi 1), Value.int (zi 2), Value.int (zi 0), Value.int (zi 0), Value.int (zi 0), Value.ref (w + 1), Value.ref (w + 2), Value.ref (w + 3), Value.ref (w + 16), Value.null]))) → (AI H (w + 1) 0 48 (fun _ => 0)) → (AI H (w + 2) 2 48 (fun _ => 0)) → (AQ H (w + 3) 5 6 (fun i => some (w + 4 + 2 * i))) → (∀ r : Int, 0 ≤ r → r < 6 → RB H (w + 4 + 2 * r.toNat) bg5) → (AQ H (w + 16) 6 10 (fun i => if i < k.toNat then some (oa w i) else none)) → (∀ r : Int, 0 ≤ r → r < k → OB H (oa w r) bg3) → (H.2 = (some (w + 17 + 2 * k.toNat), c + 16 + 2 * k.toNat, s + 334 + 8 * k.toNat)) → (Lo H N) → (Fr w 38 h (H.1, h.2)) → (10 - k).toNat = n_ → Xv E q_m_X6_init 80 [Value.ref w, Value.int (zi k)] [] H Q := by
          intro n_
          induction n_ using Nat.strongRecOn with
          | _ n_ ih80 =>
            intro k H k0 k1 hO3 hK3 hC3 hQ3 hR3 hP3 hB3 hs3 hLo3 hF3 em
            refine xv (x_iload_n 81 d_X6_init_80 rfl rfl) ?_
            refine xv (x_aload_n 82 d_X6_init_81 rfl rfl) ?_
            refine xv (x_getfield 85 d_X6_init_82 rfl f_6_35 (Nat.le_of_ble_eq_true rfl) (Nat.le_of_ble_eq_true rfl) (q_gf_of hO3 rfl)) ?_
            refine xv (x_arraylength 86 d_X6_init_85 rfl (aq_l hP3 (by decide))) ?_
            refine v_icmp_ge 108 89 d_X6_init_86 rfl rfl (by omega) (by omega) (by omega) (by omega) (fun k86 => ?_) (fun k86 => ?_)
            · have ek : k = 10 := by omega
              have sz7 : H.2 = (some (w + 37), c + 36, s + 414) := sz_eq hs3 (by omega) (by omega) (by omega)
              refine xv (x_aload_n 109 d_X6_init_108 rfl rfl) ?_
              refine xv (x_iconst 110 d_X6_init_109 rfl) ?_
              obtain ⟨h110, e110, a110, f110, z110⟩ := al_x (h := H) (e := .inl (0, 3, q_z 0)) (n := 3) sz7
              have O_110 : h110.1 w = some (.inr (6, [Value.int (zi 1), Value.int (zi 2), Value.int (zi 0), Value.int (zi 0), Value.int (zi 0), Value.ref (w + 1), Value.ref (w + 2), Value.ref (w + 3), Value.ref (w + 16), Value.null])) := by have z_ := (f110.2 _ (by omega)).trans hO3; exact z_
              have K_110 : AI h110 (w + 1) 0 48 (fun _ => 0) := by have z_ := ai_fr hK3 f110 (by omega); exact z_
              have C_110 : AI h110 (w + 2) 2 48 (fun _ => 0) := by have z_ := ai_fr hC3 f110 (by omega); exact z_
              have RQ_110 : AQ h110 (w + 3) 5 6 (fun i => some (w + 4 + 2 * i)) := by have z_ := aq_fr hQ3 f110 (by omega); exact z_
              have RBS_110 : ∀ r : Int, 0 ≤ r → r < 6 → RB h110 (w + 4 + 2 * r.toNat) bg5 := by have z_ := fun r a_ b_ => rb_fr (hR3 r a_ b_) f110 (by omega); exact z_
              have OQ_110 : AQ h110 (w + 16) 6 10 (fun i => if i < k.toNat then some (oa w i) else none) := by have z_ := aq_fr hP3 f110 (by omega); exact z_
              have OBS_110 : ∀ r : Int, 0 ≤ r → r < k → OB h110 (oa w r) bg3 := by have z_ := fun r a_ b_ => ob_fr (hB3 r a_ b_) f110 (by unfold oa; omega); exact z_
              have LO_110 : Lo h110 N := by have z_ := lo_fr hLo3 f110 (by omega); exact z_
              have F110 : Fr w 38 h (h110.1, h.2) := fc_tr hF3 f110.2 (by omega)
              refine xv (xA_newarray (n := 3) 112 d_X6_init_110 rfl rfl (by decide) (sz_1 sz7) e110) ?_
              have r110 := ai_new a110 rfl
              show Xv E q_m_X6_init 112 [Value.ref w, Value.int (zi k)] [Value.ref (w + 37), Value.ref w] h110 Q
              obtain ⟨h112, e112, w112, f112⟩ := obj_pf (k := 9) (v := Value.ref (w + 37)) O_110 (Nat.le_of_ble_eq_true rfl)
              have K_112 := ai_fr K_110 f112 (by omega)
              have C_112 := ai_fr C_110 f112 (by omega)
              have RQ_112 := aq_fr RQ_110 f112 (by omega)
              have RBS_112 := fun r a_ b_ => rb_fr (RBS_110 r a_ b_) f112 (by omega)
              have OQ_112 := aq_fr OQ_110 f112 (by omega)
              have OBS_112 := fun r a_ b_ => ob_fr (OBS_110 r a_ b_) f112 (by unfold oa; omega)
              have SZ_112 := f112.1.trans z110
              have LO_112 := lo_fr LO_110 f112 (by omega)
              have N110_112 := ai_fr r110 f112 (by omega)
              have F112 : Fr w 38 h (h112.1, h.2) := fc_tr F110 f112.2 (by omega)
              replace w112 : h112.1 w = some (.inr (6, [Value.int (zi 1), Value.int (zi 2), Value.int (zi 0), Value.int (zi 0), Value.int (zi 0), Value.ref (w + 1), Value.ref (w + 2), Value.ref (w + 3), Value.ref (w + 16), Value.ref (w + 37)])) := w112
              refine xv (x_putfield 115 d_X6_init_112 rfl f_6_40 (Nat.le_of_ble_eq_true rfl) e112 rfl rfl (fun _ => ⟨rfl, rfl⟩)) ?_
              show Xv E q_m_X6_init 115 [Value.ref w, Value.int (zi k)] [] h112 Q
              refine xv (x_getstatic 118 d_X6_init_115 rfl rfl (Nat.le_of_ble_eq_true rfl) s1_) ?_
              refine xv (x_iconst 119 d_X6_init_118 rfl) ?_
              refine xv (x_aload_n 120 d_X6_init_119 rfl rfl) ?_
              refine xv (x_getfield 123 d_X6_init_120 rfl f_6_40 (Nat.le_of_ble_eq_true rfl) (Nat.le_of_ble_eq_true rfl) (q_gf_of w112 rfl)) ?_
              refine xv (x_iconst 124 d_X6_init_123 rfl) ?_
              refine xv (x_iconst 125 d_X6_init_124 rfl) ?_
              obtain ⟨h125, e125, w125, f125⟩ := ai_cs t1_ (LO_112 _ u1_) N110_112
              have O_125 := (f125.2 _ (by omega)).trans w112
              have K_125 := ai_fr K_112 f125 (by omega)
              have C_125 := ai_fr C_112 f125 (by omega)
              have RQ_125 := aq_fr RQ_112 f125 (by omega)
              have RBS_125 := fun r a_ b_ => rb_fr (RBS_112 r a_ b_) f125 (by omega)
              have OQ_125 := aq_fr OQ_112 f125 (by omega)
              have OBS_125 := fun r a_ b_ => ob_fr (OBS_112 r a_ b_) f125 (by unfold oa; omega)
              have SZ_125 := f125.1.trans SZ_112
              have LO_125 := lo_fr LO_112 f125 (by omega)
              have F125 : Fr w 38 h (h125.1, h.2) := fc_tr F112 f125.2 (by omega)
              refine xv (x_copy 128 d_X6_init_125 rfl rfl rfl (Nat.le_of_ble_eq_true rfl) (Nat.le_of_ble_eq_true rfl) (Nat.le_of_ble_eq_true rfl) e125) ?_
              show Xv E q_m_X6_init 128 [Value.ref w, Value.int (zi k)] [] h125 Q
              refine xv_r (x_return d_X6_init_128 rfl) ?_
              refine hQ _ _ ⟨rfl, ⟨pm_0, O_125, ai_cg K_125 fun i a b => ?_, ai_cg C_125 fun i a b => ?_, ai_cg w125 fun i a b => ?_, ?_, ?_, fun r a b => rb_cg (RBS_125 r a b) fun i => ini_r a b, fun r a b => ob_cg (OBS_125 r a (by omega)) fun i c d e => ini_o a b c d⟩, SZ_125, F125⟩
              · show 0 = ini (8 + i)
                unfold ini
                rw [if_neg (by omega), if_neg (by omega), if_neg (by omega), if_neg (by omega), if_neg (by omega), if_neg (by omega), if_neg (by omega)]
              · show 0 = ini (56 + i)
                unfold ini
                rw [if_neg (by omega), if_neg (by omega), if_neg (by omega), if_neg (by omega), if_neg (by omega), if_neg (by omega), if_neg (by omega)]
              · rcases (by omega : i = 0 ∨ i = 1 ∨ i = 2) with z | z | z <;> subst z <;> rfl
              · obtain ⟨g, e1, e2⟩ := RQ_125
                exact ⟨g, e1, fun r hr => e2 r hr⟩
              · obtain ⟨g, e1, e2⟩ := OQ_125
                exact ⟨g, e1, fun r hr => (e2 r hr).trans (if_pos (by omega))⟩
            · refine xv (x_aload_n 90 d_X6_init_89 rfl rfl) ?_
              refine xv (x_getfield 93 d_X6_init_90 rfl f_6_35 (Nat.le_of_ble_eq_true rfl) (Nat.le_of_ble_eq_true rfl) (q_gf_of hO3 rfl)) ?_
              refine xv (x_iload_n 94 d_X6_init_93 rfl rfl) ?_
              obtain ⟨h94, e94, a94, f94, z94⟩ := al_x (h := H) (e := .inr (3, q_df 3)) (n := 5) hs3
              have O_94 : h94.1 w = some (.inr (6, [Value.int (zi 1), Value.int (zi 2), Value.int (zi 0), Value.int (zi 0), Value.int (zi 0), Value.ref (w + 1), Value.ref (w + 2), Value.ref (w + 3), Value.ref (w + 16), Value.null])) := by have z_ := (f94.2 _ (by omega)).trans hO3; exact z_
              have K_94 : AI h94 (w + 1) 0 48 (fun _ => 0) := by have z_ := ai_fr hK3 f94 (by omega); exact z_
              have C_94 : AI h94 (w + 2) 2 48 (fun _ => 0) := by have z_ := ai_fr hC3 f94 (by omega); exact z_
              have RQ_94 : AQ h94 (w + 3) 5 6 (fun i => some (w + 4 + 2 * i)) := by have z_ := aq_fr hQ3 f94 (by omega); exact z_
              have RBS_94 : ∀ r : Int, 0 ≤ r → r < 6 → RB h94 (w + 4 + 2 * r.toNat) bg5 := by have z_ := fun r a_ b_ => rb_fr (hR3 r a_ b_) f94 (by omega); exact z_
              have OQ_94 : AQ h94 (w + 16) 6 10 (fun i => if i < k.toNat then some (oa w i) else none) := by have z_ := aq_fr hP3 f94 (by omega); exact z_
              have OBS_94 : ∀ r : Int, 0 ≤ r → r < k → OB h94 (oa w r) bg3 := by have z_ := fun r a_ b_ => ob_fr (hB3 r a_ b_) f94 (by unfold oa; omega); exact z_
              have LO_94 : Lo h94 N := by have z_ := lo_fr hLo3 f94 (by omega); exact z_
              have F94 : Fr w 38 h (h94.1, h.2) := fc_tr hF3 f94.2 (by omega)
              refine xv (xA_new 97 d_X6_init_94 rfl rfl (Nat.le_of_ble_eq_true rfl) (sz_1 hs3) e94) ?_
              show Xv E q_m_X6_init 97 [Value.ref w, Value.int (zi k)] [Value.ref (w + 17 + 2 * k.toNat), Value.int (zi k), Value.ref (w + 16)] h94 Q
              refine xv (x_dup 98 d_X6_init_97 rfl rfl) ?_
              obtain ⟨r98, h98, e98, z98, w98, s98, f98⟩ := S_X3_init (E := E) (a := w + 17 + 2 * k.toNat) a94 z94
              subst z98
              have O_98 : h98.1 w = some (.inr (6, [Value.int (zi 1), Value.int (zi 2), Value.int (zi 0), Value.int (zi 0), Value.int (zi 0), Value.ref (w + 1), Value.ref (w + 2), Value.ref (w + 3), Value.ref (w + 16), Value.null])) := by have z_ := (f98.2 _ (by omega)).trans O_94; exact z_
              have K_98 : AI h98 (w + 1) 0 48 (fun _ => 0) := by have z_ := ai_fr K_94 f98 (by omega); exact z_
              have C_98 : AI h98 (w + 2) 2 48 (fun _ => 0) := by have z_ := ai_fr C_94 f98 (by omega); exact z_
              have RQ_98 : AQ h98 (w + 3) 5 6 (fun i => some (w + 4 + 2 * i)) := by have z_ := aq_fr RQ_94 f98 (by omega); exact z_
              have RBS_98 : ∀ r : Int, 0 ≤ r → r < 6 → RB h98 (w + 4 + 2 * r.toNat) bg5 := by have z_ := fun r a_ b_ => rb_fr (RBS_94 r a_ b_) f98 (by omega); exact z_
              have OQ_98 : AQ h98 (w + 16) 6 10 (fun i => if i < k.toNat then some (oa w i) else none) := by have z_ := aq_fr OQ_94 f98 (by omega); exact z_
              have OBS_98 : ∀ r : Int, 0 ≤ r → r < k → OB h98 (oa w r) bg3 := by have z_ := fun r a_ b_ => ob_fr (OBS_94 r a_ b_) f98 (by unfold oa; omega); exact z_
              have LO_98 : Lo h98 N := by have z_ := lo_fr LO_94 f98 (by omega); exact z_
              have F98 : Fr w 38 h (h98.1, h.2) := fc_tr F94 f98.2 (by omega)
              refine xv (x_ini 101 (as := []) d_X6_init_98 rfl c_6_39 rfl (Nat.le_of_ble_eq_true rfl) (Nat.le_of_ble_eq_true rfl) (Nat.le_of_ble_eq_true rfl) rfl e98) ?_
              show Xv E q_m_X6_init 101 [Value.ref w, Value.int (zi k)] [Value.ref (w + 17 + 2 * k.toNat), Value.int (zi k), Value.ref (w + 16)] h98 Q
              obtain ⟨h101, e101, w101, f101⟩ := aq_s (z := k) OQ_98 w98.1 (by decide) rfl (by omega) (by omega) (by decide)
              have O_101 := (f101.2 _ (by omega)).trans O_98
              have K_101 := ai_fr K_98 f101 (by omega)
              have C_101 := ai_fr C_98 f101 (by omega)
              have RQ_101 := aq_fr RQ_98 f101 (by omega)
              have RBS_101 := fun r a_ b_ => rb_fr (RBS_98 r a_ b_) f101 (by omega)
              have OBS_101 := fun r a_ b_ => ob_fr (OBS_98 r a_ b_) f101 (by unfold oa; omega)
              have SZ_101 := f101.1.trans s98
              have LO_101 := lo_fr LO_98 f101 (by omega)
              have BO_101 := ob_fr w98 f101 (by omega)
              have F101 : Fr w 38 h (h101.1, h.2) := fc_tr F98 f101.2 (by omega)
              refine xv (x_aastore 102 d_X6_init_101 rfl e101) ?_
              show Xv E q_m_X6_init 102 [Value.ref w, Value.int (zi k)] [] h101 Q
              refine xv (x_iinc 105 d_X6_init_102 rfl rfl) ?_
              show Xv E q_m_X6_init 105 [Value.ref w, Value.int (zi (k + 1))] [] h101 Q
              refine xv (x_goto 80 d_X6_init_105 rfl) ?_
              refine ih80 _ (by omega) (k + 1) h101 (by omega) (by omega) O_101 K_101 C_101 RQ_101 RBS_101 (aq_cg w101 fun i hi => ?_) (fun r a b => ?_) (sz_eq SZ_101 (by omega) (by omega) (by omega)) LO_101 F101 rfl
              · show (if i = k.toNat then some (w + 17 + 2 * k.toNat) else if i < k.toNat then some (oa w i) else none) = if i < (k + 1).toNat then some (oa w i) else none
                by_cases z : i = k.toNat
                · rw [if_pos z, if_pos (by omega), z]; unfold oa; rw [Int.toNat_natCast]
                · rw [if_neg z]
                  by_cases y : i < k.toNat
                  · rw [if_pos y, if_pos (by omega)]
                  · rw [if_neg y, if_neg (by omega)]
              · rcases (by omega : r < k ∨ r = k) with z | z
                · exact OBS_101 r a z
                · rw [z]; exact BO_101
        exact L80 _ 0 h75 (by omega) (by omega) w75 K_75 C_75 (aq_cg RQ_75 fun i hi => if_pos (by omega)) (fun r a b => RBS_75 r a (by omega)) (aq_cg Q72_75 fun i hi => (if_neg (by omega)).symm) (fun r a b => by omega) (sz_eq SZ_75 rfl rfl rfl) LO_75 F75 rfl
      · refine xv (x_aload_n 51 d_X6_init_50 rfl rfl) ?_
        refine xv (x_getfield 54 d_X6_init_51 rfl f_6_28 (Nat.le_of_ble_eq_true rfl) (Nat.le_of_ble_eq_true rfl) (q_gf_of hO2 rfl)) ?_
        refine xv (x_iload_n 55 d_X6_init_54 rfl rfl) ?_
        obtain ⟨h55, e55, a55, f55, z55⟩ := al_x (h := H) (e := .inr (5, q_df 5)) (n := 7) hs2
        have O_55 : h55.1 w = some (.inr (6, [Value.int (zi 1), Value.int (zi 2), Value.int (zi 0), Value.int (zi 0), Value.int (zi 0), Value.ref (w + 1), Value.ref (w + 2), Value.ref (w + 3), Value.null, Value.null])) := by have z_ := (f55.2 _ (by omega)).trans hO2; exact z_
        have K_55 : AI h55 (w + 1) 0 48 (fun _ => 0) := by have z_ := ai_fr hK2 f55 (by omega); exact z_
        have C_55 : AI h55 (w + 2) 2 48 (fun _ => 0) := by have z_ := ai_fr hC2 f55 (by omega); exact z_
        have RQ_55 : AQ h55 (w + 3) 5 6 (fun i => if i < k.toNat then some (w + 4 + 2 * i) else none) := by have z_ := aq_fr hQ2 f55 (by omega); exact z_
        have RBS_55 : ∀ r : Int, 0 ≤ r → r < k → RB h55 (w + 4 + 2 * r.toNat) bg5 := by have z_ := fun r a_ b_ => rb_fr (hR2 r a_ b_) f55 (by omega); exact z_
        have LO_55 : Lo h55 N := by have z_ := lo_fr hLo2 f55 (by omega); exact z_
        have F55 : Fr w 38 h (h55.1, h.2) := fc_tr hF2 f55.2 (by omega)
        refine xv (xA_new 58 d_X6_init_55 rfl rfl (Nat.le_of_ble_eq_true rfl) (sz_1 hs2) e55) ?_
        show Xv E q_m_X6_init 58 [Value.ref w, Value.int (zi k)] [Value.ref (w + 4 + 2 * k.toNat), Value.int (zi k), Value.ref (w + 3)] h55 Q
        refine xv (x_dup 59 d_X6_init_58 rfl rfl) ?_
        obtain ⟨r59, h59, e59, z59, w59, s59, f59⟩ := S_X5_init (E := E) (a := w + 4 + 2 * k.toNat) a55 z55
        subst z59
        have O_59 : h59.1 w = some (.inr (6, [Value.int (zi 1), Value.int (zi 2), Value.int (zi 0), Value.int (zi 0), Value.int (zi 0), Value.ref (w + 1), Value.ref (w + 2), Value.ref (w + 3), Value.null, Value.null])) := by have z_ := (f59.2 _ (by omega)).trans O_55; exact z_
        have K_59 : AI h59 (w + 1) 0 48 (fun _ => 0) := by have z_ := ai_fr K_55 f59 (by omega); exact z_
        have C_59 : AI h59 (w + 2) 2 48 (fun _ => 0) := by have z_ := ai_fr C_55 f59 (by omega); exact z_
        have RQ_59 : AQ h59 (w + 3) 5 6 (fun i => if i < k.toNat then some (w + 4 + 2 * i) else none) := by have z_ := aq_fr RQ_55 f59 (by omega); exact z_
        have RBS_59 : ∀ r : Int, 0 ≤ r → r < k → RB h59 (w + 4 + 2 * r.toNat) bg5 := by have z_ := fun r a_ b_ => rb_fr (RBS_55 r a_ b_) f59 (by omega); exact z_
        have LO_59 : Lo h59 N := by have z_ := lo_fr LO_55 f59 (by omega); exact z_
        have F59 : Fr w 38 h (h59.1, h.2) := fc_tr F55 f59.2 (by omega)
        refine xv (x_ini 62 (as := []) d_X6_init_59 rfl c_6_32 rfl (Nat.le_of_ble_eq_true rfl) (Nat.le_of_ble_eq_true rfl) (Nat.le_of_ble_eq_true rfl) rfl e59) ?_
        show Xv E q_m_X6_init 62 [Value.ref w, Value.int (zi k)] [Value.ref (w + 4 + 2 * k.toNat), Value.int (zi k), Value.ref (w + 3)] h59 Q
        obtain ⟨h62, e62, w62, f62⟩ := aq_s (z := k) RQ_59 w59.1 (by decide) rfl (by omega) (by omega) (by decide)
        have O_62 := (f62.2 _ (by omega)).trans O_59
        have K_62 := ai_fr K_59 f62 (by omega)
        have C_62 := ai_fr C_59 f62 (by omega)
        have RBS_62 := fun r a_ b_ => rb_fr (RBS_59 r a_ b_) f62 (by omega)
        have SZ_62 := f62.1.trans s59
        have LO_62 := lo_fr LO_59 f62 (by omega)
        have BR_62 := rb_fr w59 f62 (by omega)
        have F62 : Fr w 38 h (h62.1, h.2) := fc_tr F59 f62.2 (by omega)
        refine xv (x_aastore 63 d_X6_init_62 rfl e62) ?_
        show Xv E q_m_X6_init 63 [Value.ref w, Value.int (zi k)] [] h62 Q
        refine xv (x_iinc 66 d_X6_init_63 rfl rfl) ?_
        show Xv E q_m_X6_init 66 [Value.ref w, Value.int (zi (k + 1))] [] h62 Q
        refine xv (x_goto 41 d_X6_init_66 rfl) ?_
        refine ih41 _ (by omega) (k + 1) h62 (by omega) (by omega) O_62 K_62 C_62 (aq_cg w62 fun i hi => ?_) (fun r a b => ?_) (sz_eq SZ_62 (by omega) (by omega) (by omega)) LO_62 F62 rfl
        · show (if i = k.toNat then some (w + 4 + 2 * k.toNat) else if i < k.toNat then some (w + 4 + 2 * i) else none) = if i < (k + 1).toNat then some (w + 4 + 2 * i) else none
          by_cases z : i = k.toNat
          · rw [if_pos z, if_pos (by omega), z]
          · rw [if_neg z]
            by_cases y : i < k.toNat
            · rw [if_pos y, if_pos (by omega)]
            · rw [if_neg y, if_neg (by omega)]
        · rcases (by omega : r < k ∨ r = k) with z | z
          · exact RBS_62 r a z
          · rw [z]; exact BR_62
  exact L41 _ 0 h36 (by omega) (by omega) w36 N17_36 N25_36 (aq_cg Q33_36 fun i hi => (if_neg (by omega)).symm) (fun r a b => by omega) (sz_eq SZ_36 rfl rfl rfl) LO_36 F36 rfl
end CTW
