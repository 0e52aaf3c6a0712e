/-! texts and builders: the library's own code (printed by program) -/
section E1
variable {E : q_E} {h h' : q_H} {a b d m n N cp v w s c cw nc : Nat} {f g : Int → Int} {z k p q dp t : Int}
theorem w_8_29 : q_lk (q_cav 8) 29 = some (4, 1, yJ5_append_cf1ce, q_m_J5_append_cf1ce, 401, 402, 395, 50, 1483, 403) := rfl
theorem w_8_343 : q_lk (q_cav 8) 343 = some (4, 0, yJ5_length_8abf5, q_m_J5_length_8abf5, 544, 539, 395, 50, 540, 545) := rfl
theorem w_12_549 : q_lk (q_cav 12) 549 = some (3, 0, yJ5_length_8abf5, q_m_J4_length_8abf5, 538, 542, 541, 51, 540, 545) := rfl
theorem w_12_552 : q_lk (q_cav 12) 552 = some (3, 0, yJ5_getValue_6d5f1, q_m_J5_getValue_6d5f1, 533, 534, 536, 50, 535, 537) := rfl
theorem w_12_1047 : q_lk (q_cav 12) 1047 = some (3, 0, yJ5_isLatin1_aae02, q_m_J5_isLatin1_aae02, 546, 442, 444, 50, 443, 445) := rfl
theorem w_15_100 : q_lk (q_cav 15) 100 = some (3, 1, yJ5_ensureCapacityInternal_d00df, q_m_J5_ensureCapacityInternal_d00df, 408, 410, 1511, 50, 1485, 411) := rfl
theorem w_15_104 : q_lk (q_cav 15) 104 = some (3, 1, yJ5_newCapacity_0f7a4, q_m_J5_newCapacity_0f7a4, 412, 414, 1512, 50, 1486, 415) := rfl
theorem w_15_208 : q_lk (q_cav 15) 208 = some (3, 2, yJ5_putStringAt_47b60, q_m_J5_putStringAt_47b60, 481, 483, 1513, 50, 1487, 484) := rfl
theorem w_15_397 : q_lk (q_cav 15) 397 = some (3, 1, yJ5_inflateIfNeededFor_a7421, q_m_J5_inflateIfNeededFor_a7421, 485, 487, 1514, 50, 1488, 488) := rfl
theorem S_J0_coder (hE : q_EN E N) (hT : TXT E h a b n f)  : q_cl E q_m_J0_coder_7d493 [Value.ref a] h = some (.inl (some (Value.int (zi 0))), h) := by
  suffices K : ∀ Q : q_R → q_H → Prop, Q (.inl (some (Value.int (zi 0)))) h → Xv E q_m_J0_coder_7d493 0 [Value.ref a] [] h Q by
    obtain ⟨r_, g_, a_, b_, c_⟩ := K (fun r_ g_ => r_ = .inl (some (Value.int (zi 0))) ∧ g_ = h) ⟨rfl, rfl⟩
    subst b_; subst c_; exact a_
  intro Q hQ
  obtain ⟨_, _, _, _, e4, ⟨v5, e5, c5⟩, _⟩ := id hE
  refine xv (x_getstatic 3 d_J0_coder_7d493_0 rfl rfl (Nat.le_of_ble_eq_true rfl) (show E.1 4 = some (.int (zi 1)) from e4)) ?_
  refine v_if_eq 13 6 d_J0_coder_7d493_3 rfl rfl (by omega) (by omega) (fun k3 => ?_) (fun k3 => ?_)
  · omega
  · refine xv (x_aload_n 7 d_J0_coder_7d493_6 rfl rfl) ?_
    refine xv (x_getE 10 d_J0_coder_7d493_7 rfl f_12_15 (Nat.le_of_ble_eq_true rfl) hT.2.2.1.2) ?_
    refine xv (x_goto 14 d_J0_coder_7d493_10 rfl) ?_
    refine xv_r (x_ireturn d_J0_coder_7d493_14 rfl rfl) ?_
    refine lq hQ ?_
    rfl
theorem S_J0_isLatin1 (hE : q_EN E N) (hT : TXT E h a b n f)  : q_cl E q_m_J0_isLatin1_aae02 [Value.ref a] h = some (.inl (some (Value.int (zi 1))), h) := by
  suffices K : ∀ Q : q_R → q_H → Prop, Q (.inl (some (Value.int (zi 1)))) h → Xv E q_m_J0_isLatin1_aae02 0 [Value.ref a] [] h Q by
    obtain ⟨r_, g_, a_, b_, c_⟩ := K (fun r_ g_ => r_ = .inl (some (Value.int (zi 1))) ∧ g_ = h) ⟨rfl, rfl⟩
    subst b_; subst c_; exact a_
  intro Q hQ
  obtain ⟨_, _, _, _, e4, ⟨v5, e5, c5⟩, _⟩ := id hE
  refine xv (x_getstatic 3 d_J0_isLatin1_aae02_0 rfl rfl (Nat.le_of_ble_eq_true rfl) (show E.1 4 = some (.int (zi 1)) from e4)) ?_
  refine v_if_eq 17 6 d_J0_isLatin1_aae02_3 rfl rfl (by omega) (by omega) (fun k3 => ?_) (fun k3 => ?_)
  · omega
  · refine xv (x_aload_n 7 d_J0_isLatin1_aae02_6 rfl rfl) ?_
    refine xv (x_getE 10 d_J0_isLatin1_aae02_7 rfl f_12_15 (Nat.le_of_ble_eq_true rfl) hT.2.2.1.2) ?_
    refine v_if_ne 17 13 d_J0_isLatin1_aae02_10 rfl rfl (by omega) (by omega) (fun k10 => ?_) (fun k10 => ?_)
    · omega
    · refine xv (x_iconst 14 d_J0_isLatin1_aae02_13 rfl) ?_
      refine xv (x_goto 18 d_J0_isLatin1_aae02_14 rfl) ?_
      refine xv_r (x_ireturn d_J0_isLatin1_aae02_18 rfl rfl) ?_
      refine lq hQ ?_
      rfl
theorem S_J0_length (hE : q_EN E N) (hT : TXT E h a b n f)  : q_cl E q_m_J0_length_8abf5 [Value.ref a] h = some (.inl (some (Value.int (zi (n : Int)))), h) := by
  suffices K : ∀ Q : q_R → q_H → Prop, Q (.inl (some (Value.int (zi (n : Int))))) h → Xv E q_m_J0_length_8abf5 0 [Value.ref a] [] h Q by
    obtain ⟨r_, g_, a_, b_, c_⟩ := K (fun r_ g_ => r_ = .inl (some (Value.int (zi (n : Int)))) ∧ g_ = h) ⟨rfl, rfl⟩
    subst b_; subst c_; exact a_
  intro Q hQ
  obtain ⟨_, _, _, _, e4, ⟨v5, e5, c5⟩, _⟩ := id hE
  refine xv (x_aload_n 1 d_J0_length_8abf5_0 rfl rfl) ?_
  refine xv (x_getE 4 d_J0_length_8abf5_1 rfl f_12_9 (Nat.le_of_ble_eq_true rfl) hT.2.2.1.1) ?_
  refine xv (x_arraylength 5 d_J0_length_8abf5_4 rfl (by_l hT.2.2.2)) ?_
  refine xv (x_aload_n 6 d_J0_length_8abf5_5 rfl rfl) ?_
  refine xv (x_invS 9 (as := []) d_J0_length_8abf5_6 rfl c_12_335 rfl rfl (Nat.le_of_ble_eq_true rfl) hT.2.1 (Nat.le_of_ble_eq_true rfl) (Nat.le_of_ble_eq_true rfl) rfl (S_J0_coder hE hT)) ?_
  show Xv E q_m_J0_length_8abf5 9 [Value.ref a] [Value.int (zi 0), Value.int (zi (n : Int))] h Q
  refine xv (x_ishr 10 d_J0_length_8abf5_9 rfl) ?_
  rw [shr0]
  refine xv_r (x_ireturn d_J0_length_8abf5_10 rfl rfl) ?_
  refine lq hQ ?_
  rfl
theorem xp1 {a b v : Value} (ha : a.category = 1) (hb : b.category = 1) (hv : v.category = 1) : q_exp [a, b, v] = [a, b, v] := by
  unfold q_exp
  simp [ha, hb, hv]
theorem S_J3_checkIndex {v : Value} (hv : v.category = 1) (h1 : 0 ≤ k ∧ k < z) (h2 : z < 1000) : q_cl E q_m_J3_checkIndex_8e157 [Value.int (zi k), Value.int (zi z), v] h = some (.inl (some (Value.int (zi k))), h) := by
  suffices K : ∀ Q : q_R → q_H → Prop, Q (.inl (some (Value.int (zi k)))) h → Xv E q_m_J3_checkIndex_8e157 0 [Value.int (zi k), Value.int (zi z), v] [] h Q by
    obtain ⟨r_, g_, a_, b_, c_⟩ := K (fun r_ g_ => r_ = .inl (some (Value.int (zi k))) ∧ g_ = h) ⟨rfl, rfl⟩
    subst b_; subst c_
    show q_ex E q_m_J3_checkIndex_8e157 0 (q_exp [Value.int (zi k), Value.int (zi z), v] ++ List.replicate (3 - (q_exp [Value.int (zi k), Value.int (zi z), v]).length) .null) [] _ = _
    rw [xp1 rfl rfl hv]
    exact a_
  intro Q hQ
  refine xv (x_iload_n 1 d_J3_checkIndex_8e157_0 rfl rfl) ?_
  refine v_if_lt 9 4 d_J3_checkIndex_8e157_1 rfl rfl (by omega) (by omega) (fun k1 => ?_) (fun k1 => ?_)
  · omega
  · refine xv (x_iload_n 5 d_J3_checkIndex_8e157_4 rfl rfl) ?_
    refine xv (x_iload_n 6 d_J3_checkIndex_8e157_5 rfl rfl) ?_
    refine v_icmp_lt 16 9 d_J3_checkIndex_8e157_6 rfl rfl (by omega) (by omega) (by omega) (by omega) (fun k6 => ?_) (fun k6 => ?_)
    · refine xv (x_iload_n 17 d_J3_checkIndex_8e157_16 rfl rfl) ?_
      refine xv_r (x_ireturn d_J3_checkIndex_8e157_17 rfl rfl) ?_
      refine lq hQ ?_
      rfl
    · omega
theorem S_J0_checkIndex (hE : q_EN E N) (h1 : 0 ≤ k ∧ k < z) (h2 : z < 1000) : ∃ r_ h', q_cl E q_m_J0_checkIndex_df160 [Value.int (zi k), Value.int (zi z)] h = some (r_, h') ∧ (r_ = .inl none ∧ h' = h) := by
  suffices K : ∀ Q : q_R → q_H → Prop, (∀ r_ h', (r_ = .inl none ∧ h' = h) → Q r_ h') → Xv E q_m_J0_checkIndex_df160 0 [Value.int (zi k), Value.int (zi z)] [] h Q from K _ fun _ _ p => p
  intro Q hQ
  obtain ⟨_, _, _, _, e4, ⟨v5, e5, c5⟩, _⟩ := id hE
  refine xv (x_iload_n 1 d_J0_checkIndex_df160_0 rfl rfl) ?_
  refine xv (x_iload_n 2 d_J0_checkIndex_df160_1 rfl rfl) ?_
  refine xv (x_getstatic 5 d_J0_checkIndex_df160_2 rfl rfl (Nat.le_of_ble_eq_true rfl) e5) ?_
  refine xv (x_ins1 8 (as := [Value.int (zi k), Value.int (zi z), v5]) d_J0_checkIndex_df160_5 rfl c_12_1059 rfl (Nat.le_of_ble_eq_true rfl) (Nat.le_of_ble_eq_true rfl) (by rw [xp1 rfl rfl c5]; exact Nat.le_refl 3) rfl (S_J3_checkIndex (k := k) (z := z) (v := v5) c5 (by omega) (by omega))) ?_
  show Xv E q_m_J0_checkIndex_df160 8 [Value.int (zi k), Value.int (zi z)] [Value.int (zi k)] h Q
  refine xv (x_pop 9 d_J0_checkIndex_df160_8 rfl rfl) ?_
  refine xv_r (x_return d_J0_checkIndex_df160_9 rfl) ?_
  exact hQ _ _ ⟨rfl, rfl⟩
theorem S_J1_charAt (hE : q_EN E N) (hT : TBy E h b n f) (hf : ∀ k : Int, 0 ≤ k → k < n → 0 ≤ f k ∧ f k ≤ 127) (n60 : n ≤ 60) (hk : 0 ≤ k ∧ k < n) : q_cl E q_m_J1_charAt_3b067 [Value.ref b, Value.int (zi k)] h = some (.inl (some (Value.int (zi (f k)))), h) := by
  suffices K : ∀ Q : q_R → q_H → Prop, Q (.inl (some (Value.int (zi (f k))))) h → Xv E q_m_J1_charAt_3b067 0 [Value.ref b, Value.int (zi k)] [] h Q by
    obtain ⟨r_, g_, a_, b_, c_⟩ := K (fun r_ g_ => r_ = .inl (some (Value.int (zi (f k)))) ∧ g_ = h) ⟨rfl, rfl⟩
    subst b_; subst c_; exact a_
  intro Q hQ
  have qf := hf k hk.1 hk.2
  refine xv (x_iload_n 1 d_J1_charAt_3b067_0 rfl rfl) ?_
  refine xv (x_aload_n 2 d_J1_charAt_3b067_1 rfl rfl) ?_
  refine xv (x_arraylength 3 d_J1_charAt_3b067_2 rfl (by_l hT)) ?_
  obtain ⟨r3, h3, e3, z3, y3⟩ := S_J0_checkIndex (E := E) (h := h) hE (k := k) (z := (n : Int)) (by omega) (by omega)
  subst z3
  replace y3 := y3.symm
  subst y3
  refine xv (x_ins0 6 (as := [Value.int (zi k), Value.int (zi (n : Int))]) d_J1_charAt_3b067_3 rfl c_13_9 rfl (Nat.le_of_ble_eq_true rfl) (Nat.le_of_ble_eq_true rfl) (Nat.le_of_ble_eq_true rfl) rfl e3) ?_
  show Xv E q_m_J1_charAt_3b067 6 [Value.ref b, Value.int (zi k)] [] h Q
  refine xv (x_aload_n 7 d_J1_charAt_3b067_6 rfl rfl) ?_
  refine xv (x_iload_n 8 d_J1_charAt_3b067_7 rfl rfl) ?_
  refine xv (x_baload 9 d_J1_charAt_3b067_8 rfl (by_g hT (by omega) (by omega) (by omega))) ?_
  refine xv (x_sipush 12 d_J1_charAt_3b067_9 rfl rfl) ?_
  refine xv (x_iand 13 d_J1_charAt_3b067_12 rfl) ?_
  rw [and255 (by omega) (by omega)]
  refine xv (x_i2c 14 d_J1_charAt_3b067_13 rfl) ?_
  rw [zc_c (by omega) (by omega)]
  show Xv E q_m_J1_charAt_3b067 14 [Value.ref b, Value.int (zi k)] [Value.int (zi (f k))] h Q
  refine xv_r (x_ireturn d_J1_charAt_3b067_14 rfl (nc_i (by omega) (by omega))) ?_
  refine lq hQ ?_
  rfl
theorem S_J0_charAt (hE : q_EN E N) (hT : TXT E h a b n f) (hk : 0 ≤ k ∧ k < n) : q_cl E q_m_J0_charAt_5068e [Value.ref a, Value.int (zi k)] h = some (.inl (some (Value.int (zi (f k)))), h) := by
  suffices K : ∀ Q : q_R → q_H → Prop, Q (.inl (some (Value.int (zi (f k))))) h → Xv E q_m_J0_charAt_5068e 0 [Value.ref a, Value.int (zi k)] [] h Q by
    obtain ⟨r_, g_, a_, b_, c_⟩ := K (fun r_ g_ => r_ = .inl (some (Value.int (zi (f k)))) ∧ g_ = h) ⟨rfl, rfl⟩
    subst b_; subst c_; exact a_
  intro Q hQ
  refine xv (x_aload_n 1 d_J0_charAt_5068e_0 rfl rfl) ?_
  refine xv (x_invS 4 (as := []) d_J0_charAt_5068e_1 rfl c_12_492 rfl rfl (Nat.le_of_ble_eq_true rfl) hT.2.1 (Nat.le_of_ble_eq_true rfl) (Nat.le_of_ble_eq_true rfl) rfl (S_J0_isLatin1 hE hT)) ?_
  show Xv E q_m_J0_charAt_5068e 4 [Value.ref a, Value.int (zi k)] [Value.int (zi 1)] h Q
  refine v_if_eq 16 7 d_J0_charAt_5068e_4 rfl rfl (by omega) (by omega) (fun k4 => ?_) (fun k4 => ?_)
  · omega
  · refine xv (x_aload_n 8 d_J0_charAt_5068e_7 rfl rfl) ?_
    refine xv (x_getE 11 d_J0_charAt_5068e_8 rfl f_12_9 (Nat.le_of_ble_eq_true rfl) hT.2.2.1.1) ?_
    refine xv (x_iload_n 12 d_J0_charAt_5068e_11 rfl rfl) ?_
    refine xv (x_ins1 15 (as := [Value.ref b, Value.int (zi k)]) d_J0_charAt_5068e_12 rfl c_12_495 rfl (Nat.le_of_ble_eq_true rfl) (Nat.le_of_ble_eq_true rfl) (Nat.le_of_ble_eq_true rfl) rfl (S_J1_charAt hE hT.2.2.2 hT.1.2 hT.1.1 (k := k) (by omega))) ?_
    have qf := hT.1.2 k hk.1 hk.2
    show Xv E q_m_J0_charAt_5068e 15 [Value.ref a, Value.int (zi k)] [Value.int (zi (f k))] h Q
    refine xv_r (x_ireturn d_J0_charAt_5068e_15 rfl (nc_i (by omega) (by omega))) ?_
    refine lq hQ ?_
    rfl
theorem S_J5_init (hE : q_EN E N) (hO : h.1 a = some (.inr (8, q_df 8))) (hs : h.2 = (some s, c, cw)) (ha : a < s) : ∃ r_ h', q_cl E q_m_J5_init_d00df [Value.ref a, Value.int (zi 16)] h = some (r_, h') ∧ (r_ = .inl none ∧ SBO h' a s 16 0 (fun _ => 0) ∧ h'.2 = (some (s + 1), c + 1, cw + 16) ∧ (∀ q, ((q < s ∧ q ≠ a) ∨ s + 3 ≤ q) → h'.1 q = h.1 q)) := by
  suffices K : ∀ Q : q_R → q_H → Prop, (∀ r_ h', (r_ = .inl none ∧ SBO h' a s 16 0 (fun _ => 0) ∧ h'.2 = (some (s + 1), c + 1, cw + 16) ∧ (∀ q, ((q < s ∧ q ≠ a) ∨ s + 3 ≤ q) → h'.1 q = h.1 q)) → Q r_ h') → Xv E q_m_J5_init_d00df 0 [Value.ref a, Value.int (zi 16)] [] h Q from K _ fun _ _ p => p
  intro Q hQ
  obtain ⟨_, _, _, _, e4, ⟨v5, e5, c5⟩, _⟩ := id hE
  have hF : ∀ q, ((q < s ∧ q ≠ a) ∨ s + 3 ≤ q) → h.1 q = h.1 q := fun _ _ => rfl
  refine xv (x_aload_n 1 d_J5_init_d00df_0 rfl rfl) ?_
  refine xv (x_obj 4 d_J5_init_d00df_1 rfl rfl rfl (Nat.le_of_ble_eq_true rfl) (Nat.le_of_ble_eq_true rfl) (Nat.le_of_ble_eq_true rfl)) ?_
  refine xv (x_getstatic 7 d_J5_init_d00df_4 rfl rfl (Nat.le_of_ble_eq_true rfl) (show E.1 4 = some (.int (zi 1)) from e4)) ?_
  refine v_if_eq 25 10 d_J5_init_d00df_7 rfl rfl (by omega) (by omega) (fun k7 => ?_) (fun k7 => ?_)
  · omega
  · refine xv (x_aload_n 11 d_J5_init_d00df_10 rfl rfl) ?_
    refine xv (x_iload_n 12 d_J5_init_d00df_11 rfl rfl) ?_
    obtain ⟨h12, e12, a12, f12, z12⟩ := al_x (h := h) (e := .inl (4, 16, .inl fun _ => 0)) (n := 16) hs
    have O_12 : h12.1 a = some (.inr (8, [Value.null, Value.int (zi 0), Value.int (zi 0), Value.int (zi 0)])) := (f12.2 _ (by omega)).trans hO
    have F_12 : ∀ q, ((q < s ∧ q ≠ a) ∨ s + 3 ≤ q) → h12.1 q = h.1 q := fun q hq => (f12.2 q (by omega)).trans (hF q hq)
    refine xv (xA_newarray (n := 16) 14 d_J5_init_d00df_12 rfl rfl (by omega) (sz_1 hs) e12) ?_
    have N12 : AI h12 s 4 16 (fun _ => 0) := ai_new a12 rfl
    show Xv E q_m_J5_init_d00df 14 [Value.ref a, Value.int (zi 16)] [Value.ref s, Value.ref a] h12 Q
    obtain ⟨h14, e14, w14, f14⟩ := obj_pf (k := 0) (v := Value.ref s) O_12 (Nat.le_of_ble_eq_true rfl)
    have Z_14 : h14.2 = (some (s + 1), c + 1, cw + 16) := f14.1.trans z12
    have F_14 : ∀ q, ((q < s ∧ q ≠ a) ∨ s + 3 ≤ q) → h14.1 q = h.1 q := fun q hq => (f14.2 q (by omega)).trans (F_12 q hq)
    have N_14 : AI h14 s 4 16 (fun _ => 0) := by have z_ := ai_fr N12 f14 (by omega); exact z_
    replace w14 : h14.1 a = some (.inr (8, [Value.ref s, Value.int (zi 0), Value.int (zi 0), Value.int (zi 0)])) := w14
    refine xv (x_putfield 17 d_J5_init_d00df_14 rfl f_15_15 (Nat.le_of_ble_eq_true rfl) e14 rfl rfl (fun e => absurd e (by decide))) ?_
    show Xv E q_m_J5_init_d00df 17 [Value.ref a, Value.int (zi 16)] [] h14 Q
    refine xv (x_aload_n 18 d_J5_init_d00df_17 rfl rfl) ?_
    refine xv (x_iconst 19 d_J5_init_d00df_18 rfl) ?_
    obtain ⟨h19, e19, w19, f19⟩ := obj_pf (k := 1) (v := Value.int (zi 0)) w14 (Nat.le_of_ble_eq_true rfl)
    have Z_19 : h19.2 = (some (s + 1), c + 1, cw + 16) := f19.1.trans Z_14
    have F_19 : ∀ q, ((q < s ∧ q ≠ a) ∨ s + 3 ≤ q) → h19.1 q = h.1 q := fun q hq => (f19.2 q (by omega)).trans (F_14 q hq)
    have N_19 : AI h19 s 4 16 (fun _ => 0) := by have z_ := ai_fr N_14 f19 (by omega); exact z_
    replace w19 : h19.1 a = some (.inr (8, [Value.ref s, Value.int (zi 0), Value.int (zi 0), Value.int (zi 0)])) := w19
    refine xv (x_putfield 22 d_J5_init_d00df_19 rfl f_15_22 (Nat.le_of_ble_eq_true rfl) e19 rfl rfl (fun e => absurd e (by decide))) ?_
    show Xv E q_m_J5_init_d00df 22 [Value.ref a, Value.int (zi 16)] [] h19 Q
    refine xv (x_goto 38 d_J5_init_d00df_22 rfl) ?_
    refine xv_r (x_return d_J5_init_d00df_38 rfl) ?_
    exact hQ _ _ ⟨rfl, ⟨w19, N_19⟩, Z_19, F_19⟩
theorem S_J4_init (hE : q_EN E N) (hO : h.1 a = some (.inr (8, q_df 8))) (hs : h.2 = (some s, c, cw)) (ha : a < s) : ∃ r_ h', q_cl E q_m_J4_init_da8c8 [Value.ref a] h = some (r_, h') ∧ (r_ = .inl none ∧ SBO h' a s 16 0 (fun _ => 0) ∧ h'.2 = (some (s + 1), c + 1, cw + 16) ∧ (∀ q, ((q < s ∧ q ≠ a) ∨ s + 3 ≤ q) → h'.1 q = h.1 q)) := by
  suffices K : ∀ Q : q_R → q_H → Prop, (∀ r_ h', (r_ = .inl none ∧ SBO h' a s 16 0 (fun _ => 0) ∧ h'.2 = (some (s + 1), c + 1, cw + 16) ∧ (∀ q, ((q < s ∧ q ≠ a) ∨ s + 3 ≤ q) → h'.1 q = h.1 q)) → Q r_ h') → Xv E q_m_J4_init_da8c8 0 [Value.ref a] [] h Q from K _ fun _ _ p => p
  intro Q hQ
  refine xv (x_aload_n 1 d_J4_init_da8c8_0 rfl rfl) ?_
  refine xv (x_bipush 3 d_J4_init_da8c8_1 rfl rfl) ?_
  obtain ⟨r3, h3, e3, x3, y3, z3, f3⟩ := S_J5_init (E := E) hE hO hs ha
  subst x3
  refine xv (x_ini 6 (as := [Value.int (zi 16)]) d_J4_init_da8c8_3 rfl c_8_1 rfl (Nat.le_of_ble_eq_true rfl) (Nat.le_of_ble_eq_true rfl) (Nat.le_of_ble_eq_true rfl) rfl e3) ?_
  show Xv E q_m_J4_init_da8c8 6 [Value.ref a] [] h3 Q
  refine xv_r (x_return d_J4_init_da8c8_6 rfl) ?_
  exact hQ _ _ ⟨rfl, y3, z3, f3⟩
theorem S_J8_newLength (h0 : 0 ≤ z ∧ z < 10000) (h1 : 0 ≤ p ∧ p < 10000) (h2 : 0 < q ∧ q < 10000) : q_cl E q_m_J8_newLength_cabcc [Value.int (zi z), Value.int (zi p), Value.int (zi q)] h = some (.inl (some (Value.int (zi (z + max p q)))), h) := by
  suffices K : ∀ Q : q_R → q_H → Prop, Q (.inl (some (Value.int (zi (z + max p q))))) h → Xv E q_m_J8_newLength_cabcc 0 [Value.int (zi z), Value.int (zi p), Value.int (zi q), Value.null] [] h Q by
    obtain ⟨r_, g_, a_, b_, c_⟩ := K (fun r_ g_ => r_ = .inl (some (Value.int (zi (z + max p q)))) ∧ g_ = h) ⟨rfl, rfl⟩
    subst b_; subst c_; exact a_
  intro Q hQ
  refine xv (x_iload_n 1 d_J8_newLength_cabcc_0 rfl rfl) ?_
  refine xv (x_iload_n 2 d_J8_newLength_cabcc_1 rfl rfl) ?_
  refine xv (x_iload_n 3 d_J8_newLength_cabcc_2 rfl rfl) ?_
  refine xv (x_mmax 6 d_J8_newLength_cabcc_3 rfl rfl rfl rfl (Nat.le_of_ble_eq_true rfl) (Nat.le_of_ble_eq_true rfl) (Nat.le_of_ble_eq_true rfl) (by omega) (by omega) (by omega) (by omega)) ?_
  refine xv (x_iadd 7 d_J8_newLength_cabcc_6 rfl) ?_
  refine xv (x_istore_n 8 d_J8_newLength_cabcc_7 rfl (Nat.le_of_ble_eq_true rfl)) ?_
  show Xv E q_m_J8_newLength_cabcc 8 [Value.int (zi z), Value.int (zi p), Value.int (zi q), Value.int (zi (z + (max p q)))] [] h Q
  refine xv (x_iconst 9 d_J8_newLength_cabcc_8 rfl) ?_
  refine xv (x_iload_n 10 d_J8_newLength_cabcc_9 rfl rfl) ?_
  refine v_icmp_ge 21 13 d_J8_newLength_cabcc_10 rfl rfl (by omega) (by omega) (by omega) (by omega) (fun k10 => ?_) (fun k10 => ?_)
  · omega
  · refine xv (x_iload_n 14 d_J8_newLength_cabcc_13 rfl rfl) ?_
    refine xv (x_ldci 16 d_J8_newLength_cabcc_14 rfl rfl rfl (Nat.le_of_ble_eq_true rfl)) ?_
    show Xv E q_m_J8_newLength_cabcc 16 [Value.int (zi z), Value.int (zi p), Value.int (zi q), Value.int (zi (z + (max p q)))] [Value.int (zi 2147483639), Value.int (zi (z + (max p q)))] h Q
    refine v_icmp_gt 21 19 d_J8_newLength_cabcc_16 rfl rfl (by omega) (by omega) (by omega) (by omega) (fun k16 => ?_) (fun k16 => ?_)
    · omega
    · refine xv (x_iload_n 20 d_J8_newLength_cabcc_19 rfl rfl) ?_
      refine xv_r (x_ireturn d_J8_newLength_cabcc_20 rfl rfl) ?_
      refine lq hQ ?_
      rfl
theorem S_J5_newCapacity (hB : SBO h a v cp k g) (hcp : cp ≤ 2000) (hz : (cp : Int) < z ∧ z < 5000) : q_cl E q_m_J5_newCapacity_0f7a4 [Value.ref a, Value.int (zi z)] h = some (.inl (some (Value.int (zi ((cp : Int) + max (z - cp) (cp + 2))))), h) := by
  suffices K : ∀ Q : q_R → q_H → Prop, Q (.inl (some (Value.int (zi ((cp : Int) + max (z - cp) (cp + 2)))))) h → Xv E q_m_J5_newCapacity_0f7a4 0 [Value.ref a, Value.int (zi z), Value.null, Value.null, Value.null, Value.null] [] h Q by
    obtain ⟨r_, g_, a_, b_, c_⟩ := K (fun r_ g_ => r_ = .inl (some (Value.int (zi ((cp : Int) + max (z - cp) (cp + 2))))) ∧ g_ = h) ⟨rfl, rfl⟩
    subst b_; subst c_; exact a_
  intro Q hQ
  refine xv (x_aload_n 1 d_J5_newCapacity_0f7a4_0 rfl rfl) ?_
  refine xv (x_getfield 4 d_J5_newCapacity_0f7a4_1 rfl f_15_15 (Nat.le_of_ble_eq_true rfl) (Nat.le_of_ble_eq_true rfl) (q_gf_of hB.1 rfl)) ?_
  refine xv (x_arraylength 5 d_J5_newCapacity_0f7a4_4 rfl (ai_l hB.2 (by decide))) ?_
  refine xv (x_istore_n 6 d_J5_newCapacity_0f7a4_5 rfl (Nat.le_of_ble_eq_true rfl)) ?_
  show Xv E q_m_J5_newCapacity_0f7a4 6 [Value.ref a, Value.int (zi z), Value.int (zi (cp : Int)), Value.null, Value.null, Value.null] [] h Q
  refine xv (x_iload_n 7 d_J5_newCapacity_0f7a4_6 rfl rfl) ?_
  refine xv (x_aload_n 8 d_J5_newCapacity_0f7a4_7 rfl rfl) ?_
  refine xv (x_getfield 11 d_J5_newCapacity_0f7a4_8 rfl f_15_22 (Nat.le_of_ble_eq_true rfl) (Nat.le_of_ble_eq_true rfl) (q_gf_of hB.1 rfl)) ?_
  refine xv (x_ishl 12 d_J5_newCapacity_0f7a4_11 rfl) ?_
  rw [shl0]
  refine xv (x_istore_n 13 d_J5_newCapacity_0f7a4_12 rfl (Nat.le_of_ble_eq_true rfl)) ?_
  show Xv E q_m_J5_newCapacity_0f7a4 13 [Value.ref a, Value.int (zi z), Value.int (zi (cp : Int)), Value.int (zi z), Value.null, Value.null] [] h Q
  refine xv (x_iload_n 14 d_J5_newCapacity_0f7a4_13 rfl rfl) ?_
  refine xv (x_iload_n 15 d_J5_newCapacity_0f7a4_14 rfl rfl) ?_
  refine xv (x_isub 16 d_J5_newCapacity_0f7a4_15 rfl) ?_
  refine xv (x_istore 18 d_J5_newCapacity_0f7a4_16 rfl (Nat.le_of_ble_eq_true rfl)) ?_
  show Xv E q_m_J5_newCapacity_0f7a4 18 [Value.ref a, Value.int (zi z), Value.int (zi (cp : Int)), Value.int (zi z), Value.int (zi (z - (cp : Int))), Value.null] [] h Q
  refine xv (x_iload_n 19 d_J5_newCapacity_0f7a4_18 rfl rfl) ?_
  refine xv (x_iload 21 d_J5_newCapacity_0f7a4_19 rfl rfl) ?_
  refine xv (x_iload_n 22 d_J5_newCapacity_0f7a4_21 rfl rfl) ?_
  refine xv (x_iconst 23 d_J5_newCapacity_0f7a4_22 rfl) ?_
  refine xv (x_aload_n 24 d_J5_newCapacity_0f7a4_23 rfl rfl) ?_
  refine xv (x_getfield 27 d_J5_newCapacity_0f7a4_24 rfl f_15_22 (Nat.le_of_ble_eq_true rfl) (Nat.le_of_ble_eq_true rfl) (q_gf_of hB.1 rfl)) ?_
  refine xv (x_ishl 28 d_J5_newCapacity_0f7a4_27 rfl) ?_
  rw [shl0]
  refine xv (x_iadd 29 d_J5_newCapacity_0f7a4_28 rfl) ?_
  refine xv (x_ins1 32 (as := [Value.int (zi (cp : Int)), Value.int (zi (z - (cp : Int))), Value.int (zi ((cp : Int) + 2))]) d_J5_newCapacity_0f7a4_29 rfl c_15_114 rfl (Nat.le_of_ble_eq_true rfl) (Nat.le_of_ble_eq_true rfl) (Nat.le_of_ble_eq_true rfl) rfl (S_J8_newLength (z := (cp : Int)) (p := z - (cp : Int)) (q := (cp : Int) + 2) (by omega) (by omega) (by omega))) ?_
  show Xv E q_m_J5_newCapacity_0f7a4 32 [Value.ref a, Value.int (zi z), Value.int (zi (cp : Int)), Value.int (zi z), Value.int (zi (z - (cp : Int))), Value.null] [Value.int (zi ((cp : Int) + max (z - (cp : Int)) ((cp : Int) + 2)))] h Q
  refine xv (x_istore 34 d_J5_newCapacity_0f7a4_32 rfl (Nat.le_of_ble_eq_true rfl)) ?_
  show Xv E q_m_J5_newCapacity_0f7a4 34 [Value.ref a, Value.int (zi z), Value.int (zi (cp : Int)), Value.int (zi z), Value.int (zi (z - (cp : Int))), Value.int (zi ((cp : Int) + max (z - (cp : Int)) ((cp : Int) + 2)))] [] h Q
  refine xv (x_iload 36 d_J5_newCapacity_0f7a4_34 rfl rfl) ?_
  refine xv (x_ldci 38 d_J5_newCapacity_0f7a4_36 rfl rfl rfl (Nat.le_of_ble_eq_true rfl)) ?_
  show Xv E q_m_J5_newCapacity_0f7a4 38 [Value.ref a, Value.int (zi z), Value.int (zi (cp : Int)), Value.int (zi z), Value.int (zi (z - (cp : Int))), Value.int (zi ((cp : Int) + max (z - (cp : Int)) ((cp : Int) + 2)))] [Value.int (zi 2147483647), Value.int (zi ((cp : Int) + max (z - (cp : Int)) ((cp : Int) + 2)))] h Q
  refine v_icmp_ne 51 41 d_J5_newCapacity_0f7a4_38 rfl rfl (by omega) (by omega) (by omega) (by omega) (fun k38 => ?_) (fun k38 => ?_)
  · refine xv (x_iload 53 d_J5_newCapacity_0f7a4_51 rfl rfl) ?_
    refine xv (x_aload_n 54 d_J5_newCapacity_0f7a4_53 rfl rfl) ?_
    refine xv (x_getfield 57 d_J5_newCapacity_0f7a4_54 rfl f_15_22 (Nat.le_of_ble_eq_true rfl) (Nat.le_of_ble_eq_true rfl) (q_gf_of hB.1 rfl)) ?_
    refine xv (x_ishr 58 d_J5_newCapacity_0f7a4_57 rfl) ?_
    rw [shr0]
    refine xv_r (x_ireturn d_J5_newCapacity_0f7a4_58 rfl rfl) ?_
    refine lq hQ ?_
    rfl
  · omega
theorem S_J7_copyOf (hV : AI h v 4 cp g) (hcp : cp ≤ 2000) (hf : ∀ i : Int, 0 ≤ i → i < cp → 0 ≤ g i ∧ g i ≤ 127) (hs : h.2 = (some s, c, cw)) (hv : v < s) (hn : cp < nc ∧ nc ≤ 10000) : ∃ r_ h', q_cl E q_m_J7_copyOf_9075b [Value.ref v, Value.int (zi (nc : Int))] h = some (r_, h') ∧ (r_ = .inl (some (.ref s)) ∧ AI h' s 4 nc (cpI g (fun _ => 0) 0 0 cp) ∧ h'.2 = (some (s + 1), c + 1, cw + nc) ∧ (∀ q, (q < s ∨ s + 3 ≤ q) → h'.1 q = h.1 q)) := by
  suffices K : ∀ Q : q_R → q_H → Prop, (∀ r_ h', (r_ = .inl (some (.ref s)) ∧ AI h' s 4 nc (cpI g (fun _ => 0) 0 0 cp) ∧ h'.2 = (some (s + 1), c + 1, cw + nc) ∧ (∀ q, (q < s ∨ s + 3 ≤ q) → h'.1 q = h.1 q)) → Q r_ h') → Xv E q_m_J7_copyOf_9075b 0 [Value.ref v, Value.int (zi (nc : Int)), Value.null] [] h Q from K _ fun _ _ p => p
  intro Q hQ
  have hF : ∀ q, (q < s ∨ s + 3 ≤ q) → h.1 q = h.1 q := fun _ _ => rfl
  refine xv (x_iload_n 1 d_J7_copyOf_9075b_0 rfl rfl) ?_
  refine xv (x_aload_n 2 d_J7_copyOf_9075b_1 rfl rfl) ?_
  refine xv (x_arraylength 3 d_J7_copyOf_9075b_2 rfl (ai_l hV (by decide))) ?_
  refine v_icmp_ne 14 6 d_J7_copyOf_9075b_3 rfl rfl (by omega) (by omega) (by omega) (by omega) (fun k3 => ?_) (fun k3 => ?_)
  · refine xv (x_iload_n 15 d_J7_copyOf_9075b_14 rfl rfl) ?_
    obtain ⟨h15, e15, a15, f15, z15⟩ := al_x (h := h) (e := .inl (4, nc, .inl fun _ => 0)) (n := nc) hs
    have V_15 : AI h15 v 4 cp g := by have z_ := ai_fr hV f15 (by omega); exact z_
    have F_15 : ∀ q, (q < s ∨ s + 3 ≤ q) → h15.1 q = h.1 q := fun q hq => (f15.2 q (by omega)).trans (hF q hq)
    refine xv (xA_newarray (n := nc) 17 d_J7_copyOf_9075b_15 rfl rfl (by omega) (sz_1 hs) e15) ?_
    have N15 : AI h15 s 4 nc (fun _ => 0) := ai_new a15 rfl
    show Xv E q_m_J7_copyOf_9075b 17 [Value.ref v, Value.int (zi (nc : Int)), Value.null] [Value.ref s] h15 Q
    refine xv (x_astore_n 18 d_J7_copyOf_9075b_17 rfl (Nat.le_of_ble_eq_true rfl)) ?_
    show Xv E q_m_J7_copyOf_9075b 18 [Value.ref v, Value.int (zi (nc : Int)), Value.ref s] [] h15 Q
    refine xv (x_aload_n 19 d_J7_copyOf_9075b_18 rfl rfl) ?_
    refine xv (x_iconst 20 d_J7_copyOf_9075b_19 rfl) ?_
    refine xv (x_aload_n 21 d_J7_copyOf_9075b_20 rfl rfl) ?_
    refine xv (x_iconst 22 d_J7_copyOf_9075b_21 rfl) ?_
    refine xv (x_aload_n 23 d_J7_copyOf_9075b_22 rfl rfl) ?_
    refine xv (x_arraylength 24 d_J7_copyOf_9075b_23 rfl (ai_l V_15 (by decide))) ?_
    refine xv (x_iload_n 25 d_J7_copyOf_9075b_24 rfl rfl) ?_
    refine xv (x_mmin 28 d_J7_copyOf_9075b_25 rfl rfl rfl rfl (Nat.le_of_ble_eq_true rfl) (Nat.le_of_ble_eq_true rfl) (Nat.le_of_ble_eq_true rfl) (by omega) (by omega) (by omega) (by omega)) ?_
    rw [show min (cp : Int) (nc : Int) = (cp : Int) by omega]
    obtain ⟨h28, e28, w28, f28⟩ := ai_cb (dp := 0) (n := (cp : Int)) V_15 (by omega) (by omega) (by omega) (fun k k0 k1 => hf k k0 (by omega)) N15 (by omega) (by omega) (by omega)
    have V_28 : AI h28 v 4 cp g := by have z_ := ai_fr V_15 f28 (by omega); exact z_
    have Z_28 : h28.2 = (some (s + 1), c + 1, cw + nc) := f28.1.trans z15
    have F_28 : ∀ q, (q < s ∨ s + 3 ≤ q) → h28.1 q = h.1 q := fun q hq => (f28.2 q (by omega)).trans (F_15 q hq)
    refine xv (x_copy 31 d_J7_copyOf_9075b_28 rfl rfl rfl (Nat.le_of_ble_eq_true rfl) (Nat.le_of_ble_eq_true rfl) (Nat.le_of_ble_eq_true rfl) e28) ?_
    show Xv E q_m_J7_copyOf_9075b 31 [Value.ref v, Value.int (zi (nc : Int)), Value.ref s] [] h28 Q
    refine xv (x_aload_n 32 d_J7_copyOf_9075b_31 rfl rfl) ?_
    refine xv_r (x_areturnA d_J7_copyOf_9075b_32 rfl) ?_
    exact hQ _ _ ⟨rfl, w28, Z_28, F_28⟩
  · omega
theorem S_J5_ensure (hB : SBO h a v cp k g) (hcp : cp ≤ 2000) (hf : ∀ i : Int, 0 ≤ i → i < cp → 0 ≤ g i ∧ g i ≤ 127) (hs : h.2 = (some s, c, cw)) (hv : v < s) (ha : a < s) (hz : 0 ≤ z ∧ z < 5000) : ∃ r_ h', q_cl E q_m_J5_ensureCapacityInternal_d00df [Value.ref a, Value.int (zi z)] h = some (r_, h') ∧ (r_ = .inl none ∧ ∃ v' cp' g' s' c' w', SBO h' a v' cp' k g' ∧ ((v' = v ∧ cp' = cp ∧ g' = g ∧ s' = s ∧ c' = c ∧ w' = cw) ∨ (v' = s ∧ (cp' : Int) = cp + max (z - cp) (cp + 2) ∧ g' = cpI g (fun _ => 0) 0 0 cp ∧ s' = s + 1 ∧ c' = c + 1 ∧ w' = cw + cp')) ∧ z ≤ cp' ∧ h'.2 = (some s', c', w') ∧ (∀ q, ((q < s ∧ q ≠ a) ∨ s + 3 ≤ q) → h'.1 q = h.1 q)) := by
  suffices K : ∀ Q : q_R → q_H → Prop, (∀ r_ h', (r_ = .inl none ∧ ∃ v' cp' g' s' c' w', SBO h' a v' cp' k g' ∧ ((v' = v ∧ cp' = cp ∧ g' = g ∧ s' = s ∧ c' = c ∧ w' = cw) ∨ (v' = s ∧ (cp' : Int) = cp + max (z - cp) (cp + 2) ∧ g' = cpI g (fun _ => 0) 0 0 cp ∧ s' = s + 1 ∧ c' = c + 1 ∧ w' = cw + cp')) ∧ z ≤ cp' ∧ h'.2 = (some s', c', w') ∧ (∀ q, ((q < s ∧ q ≠ a) ∨ s + 3 ≤ q) → h'.1 q = h.1 q)) → Q r_ h') → Xv E q_m_J5_ensureCapacityInternal_d00df 0 [Value.ref a, Value.int (zi z), Value.null] [] h Q from K _ fun _ _ p => p
  intro Q hQ
  have hF : ∀ q, ((q < s ∧ q ≠ a) ∨ s + 3 ≤ q) → h.1 q = h.1 q := fun _ _ => rfl
  refine xv (x_aload_n 1 d_J5_ensureCapacityInternal_d00df_0 rfl rfl) ?_
  refine xv (x_getfield 4 d_J5_ensureCapacityInternal_d00df_1 rfl f_15_15 (Nat.le_of_ble_eq_true rfl) (Nat.le_of_ble_eq_true rfl) (q_gf_of hB.1 rfl)) ?_
  refine xv (x_arraylength 5 d_J5_ensureCapacityInternal_d00df_4 rfl (ai_l hB.2 (by decide))) ?_
  refine xv (x_aload_n 6 d_J5_ensureCapacityInternal_d00df_5 rfl rfl) ?_
  refine xv (x_getfield 9 d_J5_ensureCapacityInternal_d00df_6 rfl f_15_22 (Nat.le_of_ble_eq_true rfl) (Nat.le_of_ble_eq_true rfl) (q_gf_of hB.1 rfl)) ?_
  refine xv (x_ishr 10 d_J5_ensureCapacityInternal_d00df_9 rfl) ?_
  rw [shr0]
  refine xv (x_istore_n 11 d_J5_ensureCapacityInternal_d00df_10 rfl (Nat.le_of_ble_eq_true rfl)) ?_
  show Xv E q_m_J5_ensureCapacityInternal_d00df 11 [Value.ref a, Value.int (zi z), Value.int (zi (cp : Int))] [] h Q
  refine xv (x_iload_n 12 d_J5_ensureCapacityInternal_d00df_11 rfl rfl) ?_
  refine xv (x_iload_n 13 d_J5_ensureCapacityInternal_d00df_12 rfl rfl) ?_
  refine xv (x_isub 14 d_J5_ensureCapacityInternal_d00df_13 rfl) ?_
  refine v_if_le 38 17 d_J5_ensureCapacityInternal_d00df_14 rfl rfl (by omega) (by omega) (fun k14 => ?_) (fun k14 => ?_)
  · refine xv_r (x_return d_J5_ensureCapacityInternal_d00df_38 rfl) ?_
    exact hQ _ _ ⟨rfl, _, _, _, _, _, _, hB, Or.inl ⟨rfl, rfl, rfl, rfl, rfl, rfl⟩, by omega, hs, fun _ _ => rfl⟩
  · refine xv (x_aload_n 18 d_J5_ensureCapacityInternal_d00df_17 rfl rfl) ?_
    refine xv (x_aload_n 19 d_J5_ensureCapacityInternal_d00df_18 rfl rfl) ?_
    refine xv (x_getfield 22 d_J5_ensureCapacityInternal_d00df_19 rfl f_15_15 (Nat.le_of_ble_eq_true rfl) (Nat.le_of_ble_eq_true rfl) (q_gf_of hB.1 rfl)) ?_
    refine xv (x_aload_n 23 d_J5_ensureCapacityInternal_d00df_22 rfl rfl) ?_
    refine xv (x_iload_n 24 d_J5_ensureCapacityInternal_d00df_23 rfl rfl) ?_
    refine xv (x_invU 27 (as := [Value.int (zi z)]) d_J5_ensureCapacityInternal_d00df_24 rfl rfl w_15_104 (Nat.le_of_ble_eq_true rfl) (Nat.le_of_ble_eq_true rfl) hB.1 (Nat.le_of_ble_eq_true rfl) (Nat.le_of_ble_eq_true rfl) rfl (S_J5_newCapacity hB hcp (z := z) (by omega))) ?_
    show Xv E q_m_J5_ensureCapacityInternal_d00df 27 [Value.ref a, Value.int (zi z), Value.int (zi (cp : Int))] [Value.int (zi ((cp : Int) + max (z - cp) (cp + 2))), Value.ref v, Value.ref a] h Q
    refine xv (x_aload_n 28 d_J5_ensureCapacityInternal_d00df_27 rfl rfl) ?_
    refine xv (x_getfield 31 d_J5_ensureCapacityInternal_d00df_28 rfl f_15_22 (Nat.le_of_ble_eq_true rfl) (Nat.le_of_ble_eq_true rfl) (q_gf_of hB.1 rfl)) ?_
    refine xv (x_ishl 32 d_J5_ensureCapacityInternal_d00df_31 rfl) ?_
    rw [shl0]
    obtain ⟨nc, hnc⟩ := Int.eq_ofNat_of_zero_le (show 0 ≤ (cp : Int) + max (z - cp) (cp + 2) by omega)
    obtain ⟨r32, h32, e32, x32, y32, z32, f32⟩ := S_J7_copyOf (E := E) (nc := nc) hB.2 hcp hf hs hv (by omega)
    subst x32
    rw [← hnc] at e32
    have O32 : h32.1 a = some (.inr (8, [Value.ref v, Value.int (zi 0), Value.int (zi 0), Value.int (zi k)])) := (f32 _ (by omega)).trans hB.1
    have F32 : ∀ q, ((q < s ∧ q ≠ a) ∨ s + 3 ≤ q) → h32.1 q = h.1 q := fun q hq => f32 q (by omega)
    refine xv (x_ins1 35 (as := [Value.ref v, Value.int (zi ((cp : Int) + max (z - cp) (cp + 2)))]) d_J5_ensureCapacityInternal_d00df_32 rfl c_15_108 rfl (Nat.le_of_ble_eq_true rfl) (Nat.le_of_ble_eq_true rfl) (Nat.le_of_ble_eq_true rfl) rfl e32) ?_
    show Xv E q_m_J5_ensureCapacityInternal_d00df 35 [Value.ref a, Value.int (zi z), Value.int (zi (cp : Int))] [Value.ref s, Value.ref a] h32 Q
    obtain ⟨h35, e35, w35, f35⟩ := obj_pf (k := 0) (v := Value.ref s) O32 (Nat.le_of_ble_eq_true rfl)
    have Z_35 : h35.2 = (some (s + 1), c + 1, cw + nc) := f35.1.trans z32
    have F_35 : ∀ q, ((q < s ∧ q ≠ a) ∨ s + 3 ≤ q) → h35.1 q = h.1 q := fun q hq => (f35.2 q (by omega)).trans (F32 q hq)
    have N_35 : AI h35 s 4 nc (cpI g (fun _ => 0) 0 0 cp) := by have z_ := ai_fr y32 f35 (by omega); exact z_
    replace w35 : h35.1 a = some (.inr (8, [Value.ref s, Value.int (zi 0), Value.int (zi 0), Value.int (zi k)])) := w35
    refine xv (x_putfield 38 d_J5_ensureCapacityInternal_d00df_35 rfl f_15_15 (Nat.le_of_ble_eq_true rfl) e35 rfl rfl (fun e => absurd e (by decide))) ?_
    show Xv E q_m_J5_ensureCapacityInternal_d00df 38 [Value.ref a, Value.int (zi z), Value.int (zi (cp : Int))] [] h35 Q
    refine xv_r (x_return d_J5_ensureCapacityInternal_d00df_38 rfl) ?_
    exact hQ _ _ ⟨rfl, _, _, _, _, _, _, ⟨w35, N_35⟩, Or.inr ⟨rfl, hnc.symm, rfl, rfl, rfl, rfl⟩, by omega, Z_35, F_35⟩
end E1
