/-! the reference: changes (printed by program) -/
section RM
variable {E : q_E} {h : q_H} {am : Nat} {M : q_Im}
theorem m_len {h : q_H} {a t n : Nat} {x : (Nat → Int32) ⊕ ((Nat → Int64) ⊕ ((Nat → UInt32) ⊕ ((Nat → UInt64) ⊕ (Nat → Option Nat))))} (e : h.1 a = some (.inl (t, n, x))) (ht : t ≤ 8) : q_len E h a = some (zi (n : Int)) := by
  unfold q_len
  rw [e]
  simp only
  rw [if_pos ht]
  rfl
theorem m_cpy (i j : Nat) {n0 n1 : Nat} {sp dp n : Int} (h0 : (q_mw h am M).1 (am + i) = some (.inl (0, n0, .inl fun k => zi (M i k)))) (h1 : (q_mw h am M).1 (am + j) = some (.inl (0, n1, .inl fun k => zi (M j k)))) (hw : ∀ {f : Int → Int}, q_up (q_mw h am M) (am + j) (.inl (0, n1, .inl fun k => zi (f k))) = q_mw h am (uA M j f)) (e1 : 0 ≤ sp) (e2 : 0 ≤ dp) (e3 : 0 ≤ n) (e4 : sp + n ≤ n0) (e5 : dp + n ≤ n1) (e6 : n0 < 2147483648) (e7 : n1 < 2147483648) : q_cpy E (q_mw h am M) (am + i) (zi sp) (am + j) (zi dp) (zi n) = some (q_mw h am (uA M j (cpI (M i) (M j) sp dp n))) := by
  rw [q_cpy_I h0 h1 e1 e2 e3 e4 e5 e6 e7, ← hw]
  congr 6
  funext k
  show (if dp.toNat ≤ k ∧ k < dp.toNat + n.toNat then zi (M i ((sp.toNat + (k - dp.toNat) : Nat) : Int)) else zi (M j k)) = zi (if dp ≤ (k : Int) ∧ (k : Int) < dp + n then M i (sp + ((k : Int) - dp)) else M j k)
  by_cases q : dp.toNat ≤ k ∧ k < dp.toNat + n.toNat
  · rw [if_pos q, if_pos (by omega), show ((sp.toNat + (k - dp.toNat) : Nat) : Int) = sp + ((k : Int) - dp) by omega]
  · rw [if_neg q, if_neg (by omega)]
/-- the reference's refusal -/
def mrf (M : q_Im) (k d : Int) : q_Im := uM (uM (uM M 0 5 1) 0 6 k) 0 7 d
/-- the row kept, before a change -/
def mch (M : q_Im) : q_Im := if M 0 4 = 8 then uM (uA (uM (uA M 3 (cpI (M 3) (M 3) 400 0 2800)) 0 4 7) 3 (cpI (M 1) (cpI (M 3) (M 3) 400 0 2800) 0 2800 400)) 0 4 8 else uM (uA M 3 (cpI (M 1) (M 3) 0 (400 * M 0 4) 400)) 0 4 (M 0 4 + 1)
theorem S_X8_refuse {y z : Int} : ∃ r_ h', q_cl E q_m_X8_refuse [Value.ref am, Value.int (zi y), Value.int (zi z)] (q_mw h am M) = some (r_, h') ∧ (r_ = .inl (some (.int (zi 0))) ∧ h' = q_mw h am (mrf M y z)) := by
  suffices K : ∀ Q : q_R → q_H → Prop, (∀ r_ h', (r_ = .inl (some (.int (zi 0))) ∧ h' = q_mw h am (mrf M y z)) → Q r_ h') → Xv E q_m_X8_refuse 0 [Value.ref am, Value.int (zi y), Value.int (zi z)] [] (q_mw h am M) Q from K _ fun _ _ p => p
  intro Q hQ
  refine xv (x_aload_n 1 d_X8_refuse_0 rfl rfl) ?_
  refine xv (x_iconst 2 d_X8_refuse_1 rfl) ?_
  refine xv (x_putfield 5 d_X8_refuse_2 rfl f_8_49 (Nat.le_of_ble_eq_true rfl) m_pf5 rfl rfl (fun e => absurd e (by decide))) ?_
  show Xv E q_m_X8_refuse 5 [Value.ref am, Value.int (zi y), Value.int (zi z)] [] (q_mw h am (uM M 0 5 1)) Q
  refine xv (x_aload_n 6 d_X8_refuse_5 rfl rfl) ?_
  refine xv (x_iload_n 7 d_X8_refuse_6 rfl rfl) ?_
  refine xv (x_putfield 10 d_X8_refuse_7 rfl f_8_61 (Nat.le_of_ble_eq_true rfl) m_pf6 rfl rfl (fun e => absurd e (by decide))) ?_
  show Xv E q_m_X8_refuse 10 [Value.ref am, Value.int (zi y), Value.int (zi z)] [] (q_mw h am (uM (uM M 0 5 1) 0 6 y)) Q
  refine xv (x_aload_n 11 d_X8_refuse_10 rfl rfl) ?_
  refine xv (x_iload_n 12 d_X8_refuse_11 rfl rfl) ?_
  refine xv (x_putfield 15 d_X8_refuse_12 rfl f_8_64 (Nat.le_of_ble_eq_true rfl) m_pf7 rfl rfl (fun e => absurd e (by decide))) ?_
  show Xv E q_m_X8_refuse 15 [Value.ref am, Value.int (zi y), Value.int (zi z)] [] (q_mw h am (uM (uM (uM M 0 5 1) 0 6 y) 0 7 z)) Q
  refine xv (x_iconst 16 d_X8_refuse_15 rfl) ?_
  refine xv_r (x_ireturn d_X8_refuse_16 rfl rfl) ?_
  exact hQ _ _ ⟨rfl, rfl⟩
theorem S_X8_change (hc : 0 ≤ M 0 4 ∧ M 0 4 ≤ 8) : ∃ r_ h', q_cl E q_m_X8_change [Value.ref am] (q_mw h am M) = some (r_, h') ∧ (r_ = .inl none ∧ h' = q_mw h am (mch M)) := by
  suffices K : ∀ Q : q_R → q_H → Prop, (∀ r_ h', (r_ = .inl none ∧ h' = q_mw h am (mch M)) → Q r_ h') → Xv E q_m_X8_change 0 [Value.ref am] [] (q_mw h am M) Q from K _ fun _ _ p => p
  intro Q hQ
  refine xv (x_aload_n 1 d_X8_change_0 rfl rfl) ?_
  refine xv (x_getfield 4 d_X8_change_1 rfl f_8_52 (Nat.le_of_ble_eq_true rfl) (Nat.le_of_ble_eq_true rfl) ((q_gf_of (m_o (h := h) (am := am) (M := M)) rfl : q_gf (q_mw h am M) am 8 4 = some (Value.int (zi (M 0 4)))))) ?_
  refine xv (x_bipush 6 d_X8_change_4 rfl rfl) ?_
  refine v_icmp_ne 37 9 d_X8_change_6 rfl rfl (by omega) (by omega) (by omega) (by omega) (fun k6 => ?_) (fun k6 => ?_)
  · refine xv (x_aload_n 38 d_X8_change_37 rfl rfl) ?_
    refine xv (x_getfield 41 d_X8_change_38 rfl f_8_9 (Nat.le_of_ble_eq_true rfl) (Nat.le_of_ble_eq_true rfl) (q_gf_of m_o rfl)) ?_
    refine xv (x_iconst 42 d_X8_change_41 rfl) ?_
    refine xv (x_aload_n 43 d_X8_change_42 rfl rfl) ?_
    refine xv (x_getfield 46 d_X8_change_43 rfl f_8_16 (Nat.le_of_ble_eq_true rfl) (Nat.le_of_ble_eq_true rfl) (q_gf_of m_o rfl)) ?_
    refine xv (x_sipush 49 d_X8_change_46 rfl rfl) ?_
    refine xv (x_aload_n 50 d_X8_change_49 rfl rfl) ?_
    refine xv (x_getfield 53 d_X8_change_50 rfl f_8_52 (Nat.le_of_ble_eq_true rfl) (Nat.le_of_ble_eq_true rfl) ((q_gf_of (m_o (h := h) (am := am) (M := M)) rfl : q_gf (q_mw h am M) am 8 4 = some (Value.int (zi (M 0 4)))))) ?_
    refine xv (x_imul 54 d_X8_change_53 rfl) ?_
    refine xv (x_sipush 57 d_X8_change_54 rfl rfl) ?_
    refine xv (x_copy 60 d_X8_change_57 rfl rfl rfl (Nat.le_of_ble_eq_true rfl) (Nat.le_of_ble_eq_true rfl) (Nat.le_of_ble_eq_true rfl) (m_cpy 1 3 m_a1 m_a3 m_w3 (by omega) (by omega) (by omega) (by omega) (by omega) (by decide) (by decide))) ?_
    show Xv E q_m_X8_change 60 [Value.ref am] [] (q_mw h am (uA M 3 (cpI (M 1) (M 3) 0 (400 * (M 0 4)) 400))) Q
    refine xv (x_aload_n 61 d_X8_change_60 rfl rfl) ?_
    refine xv (x_dup 62 d_X8_change_61 rfl rfl) ?_
    refine xv (x_getfield 65 d_X8_change_62 rfl f_8_52 (Nat.le_of_ble_eq_true rfl) (Nat.le_of_ble_eq_true rfl) ((q_gf_of (m_o (h := h) (am := am) (M := (uA M 3 (cpI (M 1) (M 3) 0 (400 * (M 0 4)) 400)))) rfl : q_gf (q_mw h am (uA M 3 (cpI (M 1) (M 3) 0 (400 * (M 0 4)) 400))) am 8 4 = some (Value.int (zi (M 0 4)))))) ?_
    refine xv (x_iconst 66 d_X8_change_65 rfl) ?_
    refine xv (x_iadd 67 d_X8_change_66 rfl) ?_
    refine xv (x_putfield 70 d_X8_change_67 rfl f_8_52 (Nat.le_of_ble_eq_true rfl) m_pf4 rfl rfl (fun e => absurd e (by decide))) ?_
    show Xv E q_m_X8_change 70 [Value.ref am] [] (q_mw h am (uM (uA M 3 (cpI (M 1) (M 3) 0 (400 * (M 0 4)) 400)) 0 4 ((M 0 4) + 1))) Q
    refine xv_r (x_return d_X8_change_70 rfl) ?_
    refine hQ _ _ ⟨rfl, ?_⟩
    unfold mch
    first | rw [if_neg k6] | (rw [if_pos (by omega), show M 0 4 - 1 = 7 by omega]; rfl)
  · refine xv (x_aload_n 10 d_X8_change_9 rfl rfl) ?_
    refine xv (x_getfield 13 d_X8_change_10 rfl f_8_16 (Nat.le_of_ble_eq_true rfl) (Nat.le_of_ble_eq_true rfl) (q_gf_of m_o rfl)) ?_
    refine xv (x_sipush 16 d_X8_change_13 rfl rfl) ?_
    refine xv (x_aload_n 17 d_X8_change_16 rfl rfl) ?_
    refine xv (x_getfield 20 d_X8_change_17 rfl f_8_16 (Nat.le_of_ble_eq_true rfl) (Nat.le_of_ble_eq_true rfl) (q_gf_of m_o rfl)) ?_
    refine xv (x_iconst 21 d_X8_change_20 rfl) ?_
    refine xv (x_sipush 24 d_X8_change_21 rfl rfl) ?_
    refine xv (x_copy 27 d_X8_change_24 rfl rfl rfl (Nat.le_of_ble_eq_true rfl) (Nat.le_of_ble_eq_true rfl) (Nat.le_of_ble_eq_true rfl) (m_cpy 3 3 m_a3 m_a3 m_w3 (by omega) (by omega) (by omega) (by omega) (by omega) (by decide) (by decide))) ?_
    show Xv E q_m_X8_change 27 [Value.ref am] [] (q_mw h am (uA M 3 (cpI (M 3) (M 3) 400 0 2800))) Q
    refine xv (x_aload_n 28 d_X8_change_27 rfl rfl) ?_
    refine xv (x_dup 29 d_X8_change_28 rfl rfl) ?_
    refine xv (x_getfield 32 d_X8_change_29 rfl f_8_52 (Nat.le_of_ble_eq_true rfl) (Nat.le_of_ble_eq_true rfl) ((q_gf_of (m_o (h := h) (am := am) (M := (uA M 3 (cpI (M 3) (M 3) 400 0 2800)))) rfl : q_gf (q_mw h am (uA M 3 (cpI (M 3) (M 3) 400 0 2800))) am 8 4 = some (Value.int (zi (M 0 4)))))) ?_
    refine xv (x_iconst 33 d_X8_change_32 rfl) ?_
    refine xv (x_isub 34 d_X8_change_33 rfl) ?_
    refine xv (x_putfield 37 d_X8_change_34 rfl f_8_52 (Nat.le_of_ble_eq_true rfl) m_pf4 rfl rfl (fun e => absurd e (by decide))) ?_
    show Xv E q_m_X8_change 37 [Value.ref am] [] (q_mw h am (uM (uA M 3 (cpI (M 3) (M 3) 400 0 2800)) 0 4 ((M 0 4) - 1))) Q
    refine xv (x_aload_n 38 d_X8_change_37 rfl rfl) ?_
    refine xv (x_getfield 41 d_X8_change_38 rfl f_8_9 (Nat.le_of_ble_eq_true rfl) (Nat.le_of_ble_eq_true rfl) (q_gf_of m_o rfl)) ?_
    refine xv (x_iconst 42 d_X8_change_41 rfl) ?_
    refine xv (x_aload_n 43 d_X8_change_42 rfl rfl) ?_
    refine xv (x_getfield 46 d_X8_change_43 rfl f_8_16 (Nat.le_of_ble_eq_true rfl) (Nat.le_of_ble_eq_true rfl) (q_gf_of m_o rfl)) ?_
    refine xv (x_sipush 49 d_X8_change_46 rfl rfl) ?_
    refine xv (x_aload_n 50 d_X8_change_49 rfl rfl) ?_
    refine xv (x_getfield 53 d_X8_change_50 rfl f_8_52 (Nat.le_of_ble_eq_true rfl) (Nat.le_of_ble_eq_true rfl) ((q_gf_of (m_o (h := h) (am := am) (M := (uM (uA M 3 (cpI (M 3) (M 3) 400 0 2800)) 0 4 ((M 0 4) - 1)))) rfl : q_gf (q_mw h am (uM (uA M 3 (cpI (M 3) (M 3) 400 0 2800)) 0 4 ((M 0 4) - 1))) am 8 4 = some (Value.int (zi ((M 0 4) - 1)))))) ?_
    refine xv (x_imul 54 d_X8_change_53 rfl) ?_
    refine xv (x_sipush 57 d_X8_change_54 rfl rfl) ?_
    refine xv (x_copy 60 d_X8_change_57 rfl rfl rfl (Nat.le_of_ble_eq_true rfl) (Nat.le_of_ble_eq_true rfl) (Nat.le_of_ble_eq_true rfl) (m_cpy 1 3 m_a1 m_a3 m_w3 (by omega) (by omega) (by omega) (by omega) (by omega) (by decide) (by decide))) ?_
    show Xv E q_m_X8_change 60 [Value.ref am] [] (q_mw h am (uA (uM (uA M 3 (cpI (M 3) (M 3) 400 0 2800)) 0 4 ((M 0 4) - 1)) 3 (cpI (M 1) (cpI (M 3) (M 3) 400 0 2800) 0 (400 * ((M 0 4) - 1)) 400))) Q
    refine xv (x_aload_n 61 d_X8_change_60 rfl rfl) ?_
    refine xv (x_dup 62 d_X8_change_61 rfl rfl) ?_
    refine xv (x_getfield 65 d_X8_change_62 rfl f_8_52 (Nat.le_of_ble_eq_true rfl) (Nat.le_of_ble_eq_true rfl) ((q_gf_of (m_o (h := h) (am := am) (M := (uA (uM (uA M 3 (cpI (M 3) (M 3) 400 0 2800)) 0 4 ((M 0 4) - 1)) 3 (cpI (M 1) (cpI (M 3) (M 3) 400 0 2800) 0 (400 * ((M 0 4) - 1)) 400)))) rfl : q_gf (q_mw h am (uA (uM (uA M 3 (cpI (M 3) (M 3) 400 0 2800)) 0 4 ((M 0 4) - 1)) 3 (cpI (M 1) (cpI (M 3) (M 3) 400 0 2800) 0 (400 * ((M 0 4) - 1)) 400))) am 8 4 = some (Value.int (zi ((M 0 4) - 1)))))) ?_
    refine xv (x_iconst 66 d_X8_change_65 rfl) ?_
    refine xv (x_iadd 67 d_X8_change_66 rfl) ?_
    refine xv (x_putfield 70 d_X8_change_67 rfl f_8_52 (Nat.le_of_ble_eq_true rfl) m_pf4 rfl rfl (fun e => absurd e (by decide))) ?_
    show Xv E q_m_X8_change 70 [Value.ref am] [] (q_mw h am (uM (uA (uM (uA M 3 (cpI (M 3) (M 3) 400 0 2800)) 0 4 ((M 0 4) - 1)) 3 (cpI (M 1) (cpI (M 3) (M 3) 400 0 2800) 0 (400 * ((M 0 4) - 1)) 400)) 0 4 (((M 0 4) - 1) + 1))) Q
    refine xv_r (x_return d_X8_change_70 rfl) ?_
    refine hQ _ _ ⟨rfl, ?_⟩
    unfold mch
    first | rw [if_neg k6] | (rw [if_pos (by omega), show M 0 4 - 1 = 7 by omega]; rfl)
theorem mch_s {j : Nat} (h3 : j ≠ 3) (h0 : j ≠ 0) : mch M j = M j := by
  unfold mch
  split
  · exact (uA_ne h0).trans ((uA_ne h3).trans ((uA_ne h0).trans (uA_ne h3)))
  · exact (uA_ne h0).trans (uA_ne h3)
theorem mch_1 : mch M 1 = M 1 := mch_s (by decide) (by decide)
theorem mch_0 {k : Int} (hk : k ≠ 4) : mch M 0 k = M 0 k := by
  unfold mch
  split
  · exact (congrFun uA_eq k).trans ((u1_ne hk).trans ((congrFun (uA_ne (by decide)) k).trans ((congrFun uA_eq k).trans ((u1_ne hk).trans (congrFun (uA_ne (by decide)) k)))))
  · exact (congrFun uA_eq k).trans ((u1_ne hk).trans (congrFun (uA_ne (by decide)) k))
end RM
