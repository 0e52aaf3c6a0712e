/-! the one string: charAt, indexOf (printed by program) -/
section RB4
variable {E : q_E} {h h' : q_H} {N sa ba : Nat} {Mm M' : q_M} {pc : Nat} {ls st : List Value} {c k z : Int}
theorem y_ldc (pc' : Nat) {v : Value} (hd : decode Mm.2.1 pc = .ok (.ldc 171, 2)) (hp : pc + 2 = pc') (ho : q_own Mm = 8) (hv : E.1 6 = some v) : q_ex E Mm pc ls st h = q_ex E Mm pc' ls (v :: st) h := by
  subst hp
  refine x_go (f := (pc + 2, ls, v :: st, h)) hd ?_
  simp only [q_stepI, hv]
  rw [if_pos ⟨trivial, ho, trivial⟩]
  rfl
theorem y_gfS (pc' : Nat) {ix k pp a : Nat} {v : Value} (hd : decode Mm.2.1 pc = .ok (.getfield ix, 3)) (hp : pc + 3 = pc') (hf : q_lk (q_fl (q_own Mm)) ix = some (9, k, pp)) (ho : q_own Mm = 12) (h6 : E.1 6 = some (.ref a)) (h7 : E.1 7 = some v) (hk : k < 2) : q_ex E Mm pc ls (.ref a :: st) h = q_ex E Mm pc' ls ((bif Nat.beq k 0 then v else .int 0) :: st) h := by
  subst hp
  refine x_go (f := (pc + 3, ls, (bif Nat.beq k 0 then v else .int 0) :: st, h)) hd ?_
  simp only [q_stepI, hf]
  rw [if_pos trivial, h7]
  simp only
  rw [if_pos ⟨⟨trivial, ho⟩, h6, hk⟩]
  rfl
theorem y_invS1 (pc' : Nat) {ix n b : Nat} {ps : Nat × Nat × Nat × Nat} {as rest : List Value} {u : Value} (hd : decode Mm.2.1 pc = .ok (.invokevirtual ix, 3)) (hp : pc + 3 = pc') (hf : q_lk (q_cal (q_own Mm)) ix = some (1, n, M', ps)) (hn : as.length = n) (ho : q_own M' = 12) (hg : q_hgt M' < q_hgt Mm) (hb : h.1 b = none) (h6 : E.1 6 = some (.ref b)) (hcat : q_cat rest ≤ 8) (hl : (q_exp (.ref b :: as)).length ≤ M'.2.2.1)
    (hst : st = as.reverse ++ .ref b :: rest) (hc : q_cl E M' (.ref b :: as) h = some (.inl (some u), h')) : q_ex E Mm pc ls st h = q_ex E Mm pc' ls (u :: rest) h' := by
  subst hp; subst hst; subst hn
  refine x_call (c := (M', 1, .ref b :: as, rest)) (u := some u) ?_ hc
  rw [x_st hd]
  simp only [q_stepI, hf]
  rw [if_pos ⟨trivial, trivial⟩]
  have e1 : (as.reverse ++ .ref b :: rest).take as.length = as.reverse := by rw [← List.length_reverse, List.take_left]
  have e2 : (as.reverse ++ .ref b :: rest).drop as.length = .ref b :: rest := by rw [← List.length_reverse, List.drop_left]
  unfold q_call
  rw [if_pos ⟨hg, by simp⟩]
  simp only [e1, e2, List.reverse_reverse, hb]
  rw [if_pos ⟨hcat, hl⟩, if_pos ⟨ho, h6⟩]
theorem y_ishrz (pc' : Nat) {x y : Int32} {z : Int} (hd : decode Mm.2.1 pc = .ok (.ishr, 1)) (hp : pc + 1 = pc') (he : x >>> (y &&& 31) = zi z) : q_ex E Mm pc ls (.int y :: .int x :: st) h = q_ex E Mm pc' ls (.int (zi z) :: st) h := by
  rw [y_ishr pc' hd hp, he]
theorem sb_g (h0 : h.1 ba = none) (hb : E.2 ba = some (.byte, 4, q_vf [46, 35, 43, 64])) (h1 : 0 ≤ z) (h2 : z < 4) : q_gB E h ba (zi z) = some (.int (zi (sgn z))) := by
  unfold q_gB
  rw [h0]
  simp only [hb]
  rw [if_pos (zi_in h1 (n := 4) h2 (by decide)), zi_nat h1 (by omega)]
  rfl
theorem sb_l (h0 : h.1 ba = none) (hb : E.2 ba = some (.byte, 4, q_vf [46, 35, 43, 64])) : q_len E h ba = some (zi 4) := by
  unfold q_len
  rw [h0]
  simp only [hb]
  rfl
theorem i2b_d : ∀ c : Fin 256, (zi ((c : Nat) : Int)).toInt8.toInt32 = zi (if ((c : Nat) : Int) < 128 then ((c : Nat) : Int) else ((c : Nat) : Int) - 256) := by decide +kernel
theorem i2b_c (h : 0 ≤ c ∧ c < 256) : (zi c).toInt8.toInt32 = zi (if c < 128 then c else c - 256) := by
  have := i2b_d ⟨c.toNat, by omega⟩
  have e : ((c.toNat : Nat) : Int) = c := Int.toNat_of_nonneg h.1
  simp only [e] at this
  exact this
theorem sgn_255 (hk : 0 ≤ k ∧ k < 4) : zi (sgn k) &&& zi 255 = zi (sgn k) := by
  rcases (by omega : k = 0 ∨ k = 1 ∨ k = 2 ∨ k = 3) with z | z | z | z <;> rw [z] <;> decide +kernel
theorem lo_mw {am : Nat} {M : q_Im} (H : Lo h N) (hN : N ≤ am) : Lo (q_mw h am M) N := fun a ha => (m_out (.inl (by omega))).trans (H a ha)
theorem xp1 {a b v : Value} (ha : a.category = 1) (hb : b.category = 1) (hv : v.category = 1) : q_exp [a, b, v] = [a, b, v] := by
  unfold q_exp
  simp [ha, hb, hv]
theorem S_J3_checkIndex {k n : Int} {v : Value} (hv : v.category = 1) (h1 : 0 ≤ k ∧ k < n) (h2 : n < 1000) : q_cl E q_m_J3_checkIndex_8e157 [Value.int (zi k), Value.int (zi n), v] h = some (.inl (some (Value.int (zi k))), h) := by
  suffices K : ∀ Q : q_R → q_H → Prop, Q (.inl (some (Value.int (zi k)))) h → Xv E q_m_J3_checkIndex_8e157 0 [Value.int (zi k), Value.int (zi n), v] [] h Q by
    obtain ⟨r_, g_, a_, b_, c_⟩ := K (fun r_ g_ => r_ = .inl (some (Value.int (zi k))) ∧ g_ = h) ⟨rfl, rfl⟩
    subst b_; subst c_
    show q_ex E q_m_J3_checkIndex_8e157 0 (q_exp [Value.int (zi k), Value.int (zi n), v] ++ List.replicate (3 - (q_exp [Value.int (zi k), Value.int (zi n), v]).length) .null) [] _ = _
    rw [xp1 rfl rfl hv]
    exact a_
  intro Q hQ
  refine xv (x_iload_n 1 d_J3_checkIndex_8e157_0 rfl rfl) ?_
  refine v_if_lt 9 4 d_J3_checkIndex_8e157_1 rfl rfl (by omega) (by omega) (fun k1 => ?_) (fun k1 => ?_)
  · omega
  · refine xv (x_iload_n 5 d_J3_checkIndex_8e157_4 rfl rfl) ?_
    refine xv (x_iload_n 6 d_J3_checkIndex_8e157_5 rfl rfl) ?_
    refine v_icmp_lt 16 9 d_J3_checkIndex_8e157_6 rfl rfl (by omega) (by omega) (by omega) (by omega) (fun k6 => ?_) (fun k6 => ?_)
    · refine xv (x_iload_n 17 d_J3_checkIndex_8e157_16 rfl rfl) ?_
      refine xv_r (x_ireturn d_J3_checkIndex_8e157_17 rfl rfl) ?_
      refine lq hQ ?_
      rfl
    · omega
theorem S_J0_checkIndex (hE : q_EN E N) {k n : Int} (h1 : 0 ≤ k ∧ k < n) (h2 : n < 1000) : ∃ r_ h', q_cl E q_m_J0_checkIndex_df160 [Value.int (zi k), Value.int (zi n)] h = some (r_, h') ∧ (r_ = .inl none ∧ h' = h) := by
  suffices K : ∀ Q : q_R → q_H → Prop, (∀ r_ h', (r_ = .inl none ∧ h' = h) → Q r_ h') → Xv E q_m_J0_checkIndex_df160 0 [Value.int (zi k), Value.int (zi n)] [] h Q from K _ fun _ _ p => p
  intro Q hQ
  obtain ⟨_, _, _, _, e4, ⟨v5, e5, c5⟩, _⟩ := hE
  refine xv (x_iload_n 1 d_J0_checkIndex_df160_0 rfl rfl) ?_
  refine xv (x_iload_n 2 d_J0_checkIndex_df160_1 rfl rfl) ?_
  refine xv (x_getstatic 5 d_J0_checkIndex_df160_2 rfl rfl (Nat.le_of_ble_eq_true rfl) e5) ?_
  refine xv (x_ins1 8 (as := [Value.int (zi k), Value.int (zi n), v5]) d_J0_checkIndex_df160_5 rfl c_12_1059 rfl (Nat.le_of_ble_eq_true rfl) (Nat.le_of_ble_eq_true rfl) (by rw [xp1 rfl rfl c5]; exact Nat.le_refl 3) rfl (S_J3_checkIndex (k := k) (n := n) (v := v5) c5 (by omega) (by omega))) ?_
  show Xv E q_m_J0_checkIndex_df160 8 [Value.int (zi k), Value.int (zi n)] [Value.int (zi k)] h Q
  refine xv (x_pop 9 d_J0_checkIndex_df160_8 rfl rfl) ?_
  refine xv_r (x_return d_J0_checkIndex_df160_9 rfl) ?_
  exact hQ _ _ ⟨rfl, rfl⟩
theorem S_J0_isLatin1 (hE : q_EN E N) (hLo : Lo h N) (e6 : E.1 6 = some (.ref sa))  : q_cl E q_m_J0_isLatin1_aae02 [Value.ref sa] h = some (.inl (some (Value.int (zi 1))), h) := by
  suffices K : ∀ Q : q_R → q_H → Prop, Q (.inl (some (Value.int (zi 1)))) h → Xv E q_m_J0_isLatin1_aae02 0 [Value.ref sa] [] h Q by
    obtain ⟨r_, g_, a_, b_, c_⟩ := K (fun r_ g_ => r_ = .inl (some (Value.int (zi 1))) ∧ g_ = h) ⟨rfl, rfl⟩
    subst b_; subst c_; exact a_
  intro Q hQ
  obtain ⟨_, _, _, _, e4, ⟨v5, e5, c5⟩, sa_, ba, ⟨ls, lb⟩, e6_, e7, eb⟩ := id hE
  have esa : sa = sa_ := by
    have e := e6.symm.trans e6_
    injection e with e
    injection e
  subst esa
  refine xv (x_getstatic 3 d_J0_isLatin1_aae02_0 rfl rfl (Nat.le_of_ble_eq_true rfl) (show E.1 4 = some (.int (zi 1)) from e4)) ?_
  refine v_if_eq 17 6 d_J0_isLatin1_aae02_3 rfl rfl (by omega) (by omega) (fun k3 => ?_) (fun k3 => ?_)
  · omega
  · refine xv (x_aload_n 7 d_J0_isLatin1_aae02_6 rfl rfl) ?_
    refine xv (y_gfS 10 d_J0_isLatin1_aae02_7 rfl f_12_15 rfl e6 e7 (by decide)) ?_
    show Xv E q_m_J0_isLatin1_aae02 10 [Value.ref sa] [Value.int (zi 0)] h Q
    refine v_if_ne 17 13 d_J0_isLatin1_aae02_10 rfl rfl (by omega) (by omega) (fun k10 => ?_) (fun k10 => ?_)
    · omega
    · refine xv (x_iconst 14 d_J0_isLatin1_aae02_13 rfl) ?_
      refine xv (x_goto 18 d_J0_isLatin1_aae02_14 rfl) ?_
      refine xv_r (x_ireturn d_J0_isLatin1_aae02_18 rfl rfl) ?_
      refine lq hQ ?_
      rfl
theorem S_J0_coder (hE : q_EN E N) (hLo : Lo h N) (e6 : E.1 6 = some (.ref sa))  : q_cl E q_m_J0_coder_7d493 [Value.ref sa] h = some (.inl (some (Value.int (zi 0))), h) := by
  suffices K : ∀ Q : q_R → q_H → Prop, Q (.inl (some (Value.int (zi 0)))) h → Xv E q_m_J0_coder_7d493 0 [Value.ref sa] [] h Q by
    obtain ⟨r_, g_, a_, b_, c_⟩ := K (fun r_ g_ => r_ = .inl (some (Value.int (zi 0))) ∧ g_ = h) ⟨rfl, rfl⟩
    subst b_; subst c_; exact a_
  intro Q hQ
  obtain ⟨_, _, _, _, e4, ⟨v5, e5, c5⟩, sa_, ba, ⟨ls, lb⟩, e6_, e7, eb⟩ := id hE
  have esa : sa = sa_ := by
    have e := e6.symm.trans e6_
    injection e with e
    injection e
  subst esa
  refine xv (x_getstatic 3 d_J0_coder_7d493_0 rfl rfl (Nat.le_of_ble_eq_true rfl) (show E.1 4 = some (.int (zi 1)) from e4)) ?_
  refine v_if_eq 13 6 d_J0_coder_7d493_3 rfl rfl (by omega) (by omega) (fun k3 => ?_) (fun k3 => ?_)
  · omega
  · refine xv (x_aload_n 7 d_J0_coder_7d493_6 rfl rfl) ?_
    refine xv (y_gfS 10 d_J0_coder_7d493_7 rfl f_12_15 rfl e6 e7 (by decide)) ?_
    show Xv E q_m_J0_coder_7d493 10 [Value.ref sa] [Value.int (zi 0)] h Q
    refine xv (x_goto 14 d_J0_coder_7d493_10 rfl) ?_
    refine xv_r (x_ireturn d_J0_coder_7d493_14 rfl rfl) ?_
    refine lq hQ ?_
    rfl
theorem S_J0_length (hE : q_EN E N) (hLo : Lo h N) (e6 : E.1 6 = some (.ref sa))  : q_cl E q_m_J0_length_8abf5 [Value.ref sa] h = some (.inl (some (Value.int (zi 4))), h) := by
  suffices K : ∀ Q : q_R → q_H → Prop, Q (.inl (some (Value.int (zi 4)))) h → Xv E q_m_J0_length_8abf5 0 [Value.ref sa] [] h Q by
    obtain ⟨r_, g_, a_, b_, c_⟩ := K (fun r_ g_ => r_ = .inl (some (Value.int (zi 4))) ∧ g_ = h) ⟨rfl, rfl⟩
    subst b_; subst c_; exact a_
  intro Q hQ
  obtain ⟨_, _, _, _, e4, ⟨v5, e5, c5⟩, sa_, ba, ⟨ls, lb⟩, e6_, e7, eb⟩ := id hE
  have esa : sa = sa_ := by
    have e := e6.symm.trans e6_
    injection e with e
    injection e
  subst esa
  refine xv (x_aload_n 1 d_J0_length_8abf5_0 rfl rfl) ?_
  refine xv (y_gfS 4 d_J0_length_8abf5_1 rfl f_12_9 rfl e6 e7 (by decide)) ?_
  show Xv E q_m_J0_length_8abf5 4 [Value.ref sa] [Value.ref ba] h Q
  refine xv (x_arraylength 5 d_J0_length_8abf5_4 rfl (sb_l (hLo _ lb) eb)) ?_
  refine xv (x_aload_n 6 d_J0_length_8abf5_5 rfl rfl) ?_
  refine xv (y_invS1 9 (as := []) d_J0_length_8abf5_6 rfl c_12_335 rfl rfl (Nat.le_of_ble_eq_true rfl) (hLo _ ls) e6 (Nat.le_of_ble_eq_true rfl) (Nat.le_of_ble_eq_true rfl) rfl (S_J0_coder hE hLo e6)) ?_
  show Xv E q_m_J0_length_8abf5 9 [Value.ref sa] [Value.int (zi 0), Value.int (zi 4)] h Q
  refine xv (y_ishrz 10 d_J0_length_8abf5_9 rfl (z := 4) (by decide +kernel)) ?_
  refine xv_r (x_ireturn d_J0_length_8abf5_10 rfl rfl) ?_
  refine lq hQ ?_
  rfl
theorem S_J1_charAt (hE : q_EN E N) (h0 : h.1 ba = none) (eb : E.2 ba = some (.byte, 4, q_vf [46, 35, 43, 64])) {k : Int} (hk : 0 ≤ k ∧ k < 4) : q_cl E q_m_J1_charAt_3b067 [Value.ref ba, Value.int (zi k)] h = some (.inl (some (Value.int (zi (sgn k)))), h) := by
  suffices K : ∀ Q : q_R → q_H → Prop, Q (.inl (some (Value.int (zi (sgn k))))) h → Xv E q_m_J1_charAt_3b067 0 [Value.ref ba, Value.int (zi k)] [] h Q by
    obtain ⟨r_, g_, a_, b_, c_⟩ := K (fun r_ g_ => r_ = .inl (some (Value.int (zi (sgn k)))) ∧ g_ = h) ⟨rfl, rfl⟩
    subst b_; subst c_; exact a_
  intro Q hQ
  refine xv (x_iload_n 1 d_J1_charAt_3b067_0 rfl rfl) ?_
  refine xv (x_aload_n 2 d_J1_charAt_3b067_1 rfl rfl) ?_
  refine xv (x_arraylength 3 d_J1_charAt_3b067_2 rfl (sb_l h0 eb)) ?_
  obtain ⟨r3, h3, e3, z3, y3⟩ := S_J0_checkIndex (E := E) (h := h) hE (k := k) (n := 4) (by omega) (by omega)
  subst z3
  replace y3 := y3.symm
  subst y3
  refine xv (x_ins0 6 (as := [Value.int (zi k), Value.int (zi 4)]) d_J1_charAt_3b067_3 rfl c_13_9 rfl (Nat.le_of_ble_eq_true rfl) (Nat.le_of_ble_eq_true rfl) (Nat.le_of_ble_eq_true rfl) rfl e3) ?_
  show Xv E q_m_J1_charAt_3b067 6 [Value.ref ba, Value.int (zi k)] [] h Q
  refine xv (x_aload_n 7 d_J1_charAt_3b067_6 rfl rfl) ?_
  refine xv (x_iload_n 8 d_J1_charAt_3b067_7 rfl rfl) ?_
  refine xv (x_baload 9 d_J1_charAt_3b067_8 rfl (sb_g h0 eb (by omega) (by omega))) ?_
  have qs8 := @sgn_r k
  refine xv (x_sipush 12 d_J1_charAt_3b067_9 rfl rfl) ?_
  refine xv (y_iand 13 d_J1_charAt_3b067_12 rfl (sgn_255 (by omega))) ?_
  refine xv (x_i2c 14 d_J1_charAt_3b067_13 rfl) ?_
  rw [zc_c (by omega) (by omega)]
  show Xv E q_m_J1_charAt_3b067 14 [Value.ref ba, Value.int (zi k)] [Value.int (zi (sgn k))] h Q
  refine xv_r (x_ireturn d_J1_charAt_3b067_14 rfl (nc_i (by omega) (by omega))) ?_
  refine lq hQ ?_
  rfl
theorem S_J0_charAt (hE : q_EN E N) (hLo : Lo h N) (e6 : E.1 6 = some (.ref sa)) {k : Int} (hk : 0 ≤ k ∧ k < 4) : q_cl E q_m_J0_charAt_5068e [Value.ref sa, Value.int (zi k)] h = some (.inl (some (Value.int (zi (sgn k)))), h) := by
  suffices K : ∀ Q : q_R → q_H → Prop, Q (.inl (some (Value.int (zi (sgn k))))) h → Xv E q_m_J0_charAt_5068e 0 [Value.ref sa, Value.int (zi k)] [] h Q by
    obtain ⟨r_, g_, a_, b_, c_⟩ := K (fun r_ g_ => r_ = .inl (some (Value.int (zi (sgn k)))) ∧ g_ = h) ⟨rfl, rfl⟩
    subst b_; subst c_; exact a_
  intro Q hQ
  obtain ⟨_, _, _, _, e4, ⟨v5, e5, c5⟩, sa_, ba, ⟨ls, lb⟩, e6_, e7, eb⟩ := id hE
  have esa : sa = sa_ := by
    have e := e6.symm.trans e6_
    injection e with e
    injection e
  subst esa
  refine xv (x_aload_n 1 d_J0_charAt_5068e_0 rfl rfl) ?_
  refine xv (y_invS1 4 (as := []) d_J0_charAt_5068e_1 rfl c_12_492 rfl rfl (Nat.le_of_ble_eq_true rfl) (hLo _ ls) e6 (Nat.le_of_ble_eq_true rfl) (Nat.le_of_ble_eq_true rfl) rfl (S_J0_isLatin1 hE hLo e6)) ?_
  show Xv E q_m_J0_charAt_5068e 4 [Value.ref sa, Value.int (zi k)] [Value.int (zi 1)] h Q
  refine v_if_eq 16 7 d_J0_charAt_5068e_4 rfl rfl (by omega) (by omega) (fun k4 => ?_) (fun k4 => ?_)
  · omega
  · refine xv (x_aload_n 8 d_J0_charAt_5068e_7 rfl rfl) ?_
    refine xv (y_gfS 11 d_J0_charAt_5068e_8 rfl f_12_9 rfl e6 e7 (by decide)) ?_
    show Xv E q_m_J0_charAt_5068e 11 [Value.ref sa, Value.int (zi k)] [Value.ref ba] h Q
    refine xv (x_iload_n 12 d_J0_charAt_5068e_11 rfl rfl) ?_
    refine xv (x_ins1 15 (as := [Value.ref ba, Value.int (zi k)]) d_J0_charAt_5068e_12 rfl c_12_495 rfl (Nat.le_of_ble_eq_true rfl) (Nat.le_of_ble_eq_true rfl) (Nat.le_of_ble_eq_true rfl) rfl (S_J1_charAt hE (hLo _ lb) eb (k := k) (by omega))) ?_
    have qs12 := @sgn_r k
    show Xv E q_m_J0_charAt_5068e 15 [Value.ref sa, Value.int (zi k)] [Value.int (zi (sgn k))] h Q
    refine xv_r (x_ireturn d_J0_charAt_5068e_15 rfl (nc_i (by omega) (by omega))) ?_
    refine lq hQ ?_
    rfl
theorem S_J1_canEncode {c : Int} (c0 : -2147483648 ≤ c) (c1 : c < 2147483648) : q_cl E q_m_J1_canEncode_9a6ad [Value.int (zi c)] h = some (.inl (some (Value.int (zi (bI (0 ≤ c ∧ c ≤ 255))))), h) := by
  suffices K : ∀ Q : q_R → q_H → Prop, Q (.inl (some (Value.int (zi (bI (0 ≤ c ∧ c ≤ 255)))))) h → Xv E q_m_J1_canEncode_9a6ad 0 [Value.int (zi c)] [] h Q by
    obtain ⟨r_, g_, a_, b_, c_⟩ := K (fun r_ g_ => r_ = .inl (some (Value.int (zi (bI (0 ≤ c ∧ c ≤ 255))))) ∧ g_ = h) ⟨rfl, rfl⟩
    subst b_; subst c_; exact a_
  intro Q hQ
  refine xv (x_iload_n 1 d_J1_canEncode_9a6ad_0 rfl rfl) ?_
  refine v_if_lt 15 4 d_J1_canEncode_9a6ad_1 rfl rfl (by omega) (by omega) (fun k1 => ?_) (fun k1 => ?_)
  · refine xv (x_iconst 16 d_J1_canEncode_9a6ad_15 rfl) ?_
    refine xv_r (x_ireturn d_J1_canEncode_9a6ad_16 rfl rfl) ?_
    refine lq hQ ?_
    first | exact (bI_t (by omega)).symm | exact (bI_f (by omega)).symm
  · refine xv (x_iload_n 5 d_J1_canEncode_9a6ad_4 rfl rfl) ?_
    refine xv (x_sipush 8 d_J1_canEncode_9a6ad_5 rfl rfl) ?_
    refine v_icmp_gt 15 11 d_J1_canEncode_9a6ad_8 rfl rfl (by omega) (by omega) (by omega) (by omega) (fun k8 => ?_) (fun k8 => ?_)
    · refine xv (x_iconst 16 d_J1_canEncode_9a6ad_15 rfl) ?_
      refine xv_r (x_ireturn d_J1_canEncode_9a6ad_16 rfl rfl) ?_
      refine lq hQ ?_
      first | exact (bI_t (by omega)).symm | exact (bI_f (by omega)).symm
    · refine xv (x_iconst 12 d_J1_canEncode_9a6ad_11 rfl) ?_
      refine xv (x_goto 16 d_J1_canEncode_9a6ad_12 rfl) ?_
      refine xv_r (x_ireturn d_J1_canEncode_9a6ad_16 rfl rfl) ?_
      refine lq hQ ?_
      first | exact (bI_t (by omega)).symm | exact (bI_f (by omega)).symm
theorem S_J1_indexOfChar (hE : q_EN E N) (h0 : h.1 ba = none) (eb : E.2 ba = some (.byte, 4, q_vf [46, 35, 43, 64])) {c f t : Int} (hc : 0 ≤ c ∧ c ≤ 255) (hf : f = 0) (ht : t = 4) : q_cl E q_m_J1_indexOfChar_4cfef [Value.ref ba, Value.int (zi c), Value.int (zi f), Value.int (zi t)] h = some (.inl (some (Value.int (zi (kd c)))), h) := by
  suffices K : ∀ Q : q_R → q_H → Prop, Q (.inl (some (Value.int (zi (kd c))))) h → Xv E q_m_J1_indexOfChar_4cfef 0 [Value.ref ba, Value.int (zi c), Value.int (zi f), Value.int (zi t), Value.null, Value.null] [] h Q by
    obtain ⟨r_, g_, a_, b_, c_⟩ := K (fun r_ g_ => r_ = .inl (some (Value.int (zi (kd c)))) ∧ g_ = h) ⟨rfl, rfl⟩
    subst b_; subst c_; exact a_
  intro Q hQ
  refine xv (x_iload_n 1 d_J1_indexOfChar_4cfef_0 rfl rfl) ?_
  refine xv (x_i2b 2 d_J1_indexOfChar_4cfef_1 rfl) ?_
  rw [i2b_c (by omega)]
  show Xv E q_m_J1_indexOfChar_4cfef 2 [Value.ref ba, Value.int (zi c), Value.int (zi f), Value.int (zi t), Value.null, Value.null] [Value.int (zi (if c < 128 then c else c - 256))] h Q
  refine xv (x_istore 4 d_J1_indexOfChar_4cfef_2 rfl (Nat.le_of_ble_eq_true rfl)) ?_
  show Xv E q_m_J1_indexOfChar_4cfef 4 [Value.ref ba, Value.int (zi c), Value.int (zi f), Value.int (zi t), Value.int (zi (if c < 128 then c else c - 256)), Value.null] [] h Q
  refine xv (x_iload_n 5 d_J1_indexOfChar_4cfef_4 rfl rfl) ?_
  refine xv (x_istore 7 d_J1_indexOfChar_4cfef_5 rfl (Nat.le_of_ble_eq_true rfl)) ?_
  show Xv E q_m_J1_indexOfChar_4cfef 7 [Value.ref ba, Value.int (zi c), Value.int (zi f), Value.int (zi t), Value.int (zi (if c < 128 then c else c - 256)), Value.int (zi f)] [] h Q
  have L7 : ∀ (n_ : Nat) (k : Int), (0 ≤ k) → (k ≤ t) → (∀ j, 0 ≤ j → j < k → ¬ sgn j = (if c < 128 then c else c - 256)) → (t - k).toNat = n_ → Xv E q_m_J1_indexOfChar_4cfef 7 [Value.ref ba, Value.int (zi c), Value.int (zi f), Value.int (zi t), Value.int (zi (if c < 128 then c else c - 256)), Value.int (zi k)] [] h Q := by
    intro n_
    induction n_ using Nat.strongRecOn with
    | _ n_ ih7 =>
      intro k k0 k1 hk em
      refine xv (x_iload 9 d_J1_indexOfChar_4cfef_7 rfl rfl) ?_
      refine xv (x_iload_n 10 d_J1_indexOfChar_4cfef_9 rfl rfl) ?_
      refine v_icmp_ge 31 13 d_J1_indexOfChar_4cfef_10 rfl rfl (by omega) (by omega) (by omega) (by omega) (fun k10 => ?_) (fun k10 => ?_)
      · refine xv (x_iconst 32 d_J1_indexOfChar_4cfef_31 rfl) ?_
        refine xv_r (x_ireturn d_J1_indexOfChar_4cfef_32 rfl rfl) ?_
        refine lq hQ ?_
        exact (kd_n (fun j a b e => hk j a (by omega) (by have := @sgn_r j; split <;> omega))).symm
      · refine xv (x_aload_n 14 d_J1_indexOfChar_4cfef_13 rfl rfl) ?_
        refine xv (x_iload 16 d_J1_indexOfChar_4cfef_14 rfl rfl) ?_
        refine xv (x_baload 17 d_J1_indexOfChar_4cfef_16 rfl (sb_g h0 eb (by omega) (by omega))) ?_
        have qs16 := @sgn_r k
        refine xv (x_iload 19 d_J1_indexOfChar_4cfef_17 rfl rfl) ?_
        refine v_icmp_ne 25 22 d_J1_indexOfChar_4cfef_19 rfl rfl (by omega) (by omega) (by omega) (by omega) (fun k19 => ?_) (fun k19 => ?_)
        · refine xv (x_iinc 28 d_J1_indexOfChar_4cfef_25 rfl rfl) ?_
          show Xv E q_m_J1_indexOfChar_4cfef 28 [Value.ref ba, Value.int (zi c), Value.int (zi f), Value.int (zi t), Value.int (zi (if c < 128 then c else c - 256)), Value.int (zi (k + 1))] [] h Q
          refine xv (x_goto 7 d_J1_indexOfChar_4cfef_28 rfl) ?_
          refine ih7 _ (by omega) (k + 1) (by omega) (by omega) (fun j a b => ?_) rfl
          rcases (by omega : j < k ∨ j = k) with z | z
          · exact hk j a z
          · rw [z]; exact k19
        · refine xv (x_iload 24 d_J1_indexOfChar_4cfef_22 rfl rfl) ?_
          refine xv_r (x_ireturn d_J1_indexOfChar_4cfef_24 rfl rfl) ?_
          refine lq hQ ?_
          have qs_ := @sgn_r k
          exact (kd_h k0 (by omega) (by have : sgn k = (if c < 128 then c else c - 256) := k19; split at this <;> omega)).symm
  exact L7 _ f (by omega) (by omega) (fun j a b => by omega) rfl
theorem S_J1_indexOf (hE : q_EN E N) (h0 : h.1 ba = none) (eb : E.2 ba = some (.byte, 4, q_vf [46, 35, 43, 64])) {c : Int} (c0 : -2147483648 ≤ c) (c1 : c < 2147483648) : q_cl E q_m_J1_indexOf_4cfef [Value.ref ba, Value.int (zi c), Value.int (zi 0), Value.int (zi 4)] h = some (.inl (some (Value.int (zi (kd c)))), h) := by
  suffices K : ∀ Q : q_R → q_H → Prop, Q (.inl (some (Value.int (zi (kd c))))) h → Xv E q_m_J1_indexOf_4cfef 0 [Value.ref ba, Value.int (zi c), Value.int (zi 0), Value.int (zi 4)] [] h Q by
    obtain ⟨r_, g_, a_, b_, c_⟩ := K (fun r_ g_ => r_ = .inl (some (Value.int (zi (kd c)))) ∧ g_ = h) ⟨rfl, rfl⟩
    subst b_; subst c_; exact a_
  intro Q hQ
  refine xv (x_iload_n 1 d_J1_indexOf_4cfef_0 rfl rfl) ?_
  refine xv (x_ins1 4 (as := [Value.int (zi c)]) d_J1_indexOf_4cfef_1 rfl c_13_88 rfl (Nat.le_of_ble_eq_true rfl) (Nat.le_of_ble_eq_true rfl) (Nat.le_of_ble_eq_true rfl) rfl (S_J1_canEncode (by omega) (by omega))) ?_
  show Xv E q_m_J1_indexOf_4cfef 4 [Value.ref ba, Value.int (zi c), Value.int (zi 0), Value.int (zi 4)] [Value.int (zi (bI (0 ≤ c ∧ c ≤ 255)))] h Q
  refine v_if_ne 9 7 d_J1_indexOf_4cfef_4 rfl rfl (by have := bI_r (0 ≤ c ∧ c ≤ 255); omega) (by have := bI_r (0 ≤ c ∧ c ≤ 255); omega) (fun k4 => ?_) (fun k4 => ?_)
  · replace k4 := bI_n0.mp k4
    refine xv (x_iload_n 10 d_J1_indexOf_4cfef_9 rfl rfl) ?_
    refine xv (x_iconst 11 d_J1_indexOf_4cfef_10 rfl) ?_
    refine xv (x_mmax 14 d_J1_indexOf_4cfef_11 rfl rfl rfl rfl (Nat.le_of_ble_eq_true rfl) (Nat.le_of_ble_eq_true rfl) (Nat.le_of_ble_eq_true rfl) (by omega) (by omega) (by omega) (by omega)) ?_
    refine xv (x_istore_n 15 d_J1_indexOf_4cfef_14 rfl (Nat.le_of_ble_eq_true rfl)) ?_
    show Xv E q_m_J1_indexOf_4cfef 15 [Value.ref ba, Value.int (zi c), Value.int (zi (max 0 0)), Value.int (zi 4)] [] h Q
    refine xv (x_iload_n 16 d_J1_indexOf_4cfef_15 rfl rfl) ?_
    refine xv (x_aload_n 17 d_J1_indexOf_4cfef_16 rfl rfl) ?_
    refine xv (x_arraylength 18 d_J1_indexOf_4cfef_17 rfl (sb_l h0 eb)) ?_
    refine xv (x_mmin 21 d_J1_indexOf_4cfef_18 rfl rfl rfl rfl (Nat.le_of_ble_eq_true rfl) (Nat.le_of_ble_eq_true rfl) (Nat.le_of_ble_eq_true rfl) (by omega) (by omega) (by omega) (by omega)) ?_
    refine xv (x_istore_n 22 d_J1_indexOf_4cfef_21 rfl (Nat.le_of_ble_eq_true rfl)) ?_
    show Xv E q_m_J1_indexOf_4cfef 22 [Value.ref ba, Value.int (zi c), Value.int (zi (max 0 0)), Value.int (zi (min 4 4))] [] h Q
    refine xv (x_iload_n 23 d_J1_indexOf_4cfef_22 rfl rfl) ?_
    refine xv (x_iload_n 24 d_J1_indexOf_4cfef_23 rfl rfl) ?_
    refine v_icmp_lt 29 27 d_J1_indexOf_4cfef_24 rfl rfl (by omega) (by omega) (by omega) (by omega) (fun k24 => ?_) (fun k24 => ?_)
    · refine xv (x_aload_n 30 d_J1_indexOf_4cfef_29 rfl rfl) ?_
      refine xv (x_iload_n 31 d_J1_indexOf_4cfef_30 rfl rfl) ?_
      refine xv (x_iload_n 32 d_J1_indexOf_4cfef_31 rfl rfl) ?_
      refine xv (x_iload_n 33 d_J1_indexOf_4cfef_32 rfl rfl) ?_
      refine xv (x_ins1 36 (as := [Value.ref ba, Value.int (zi c), Value.int (zi (max 0 0)), Value.int (zi (min 4 4))]) d_J1_indexOf_4cfef_33 rfl c_13_95 rfl (Nat.le_of_ble_eq_true rfl) (Nat.le_of_ble_eq_true rfl) (Nat.le_of_ble_eq_true rfl) rfl (S_J1_indexOfChar hE h0 eb (c := c) (f := max 0 0) (t := min 4 4) (by omega) (by omega) (by omega))) ?_
      show Xv E q_m_J1_indexOf_4cfef 36 [Value.ref ba, Value.int (zi c), Value.int (zi (max 0 0)), Value.int (zi (min 4 4))] [Value.int (zi (kd c))] h Q
      refine xv_r (x_ireturn d_J1_indexOf_4cfef_36 rfl rfl) ?_
      refine lq hQ ?_
      rfl
    · omega
  · replace k4 := bI_0.mp k4
    refine xv (x_iconst 8 d_J1_indexOf_4cfef_7 rfl) ?_
    refine xv_r (x_ireturn d_J1_indexOf_4cfef_8 rfl rfl) ?_
    refine lq hQ ?_
    exact (kd_n (fun j a b e => by have := @sgn_r j; omega)).symm
theorem S_J0_indexOf2 (hE : q_EN E N) (hLo : Lo h N) (e6 : E.1 6 = some (.ref sa)) {c : Int} (c0 : -2147483648 ≤ c) (c1 : c < 2147483648) : q_cl E q_m_J0_indexOf_7cf53 [Value.ref sa, Value.int (zi c), Value.int (zi 0)] h = some (.inl (some (Value.int (zi (kd c)))), h) := by
  suffices K : ∀ Q : q_R → q_H → Prop, Q (.inl (some (Value.int (zi (kd c))))) h → Xv E q_m_J0_indexOf_7cf53 0 [Value.ref sa, Value.int (zi c), Value.int (zi 0)] [] h Q by
    obtain ⟨r_, g_, a_, b_, c_⟩ := K (fun r_ g_ => r_ = .inl (some (Value.int (zi (kd c)))) ∧ g_ = h) ⟨rfl, rfl⟩
    subst b_; subst c_; exact a_
  intro Q hQ
  obtain ⟨_, _, _, _, e4, ⟨v5, e5, c5⟩, sa_, ba, ⟨ls, lb⟩, e6_, e7, eb⟩ := id hE
  have esa : sa = sa_ := by
    have e := e6.symm.trans e6_
    injection e with e
    injection e
  subst esa
  refine xv (x_aload_n 1 d_J0_indexOf_7cf53_0 rfl rfl) ?_
  refine xv (y_invS1 4 (as := []) d_J0_indexOf_7cf53_1 rfl c_12_492 rfl rfl (Nat.le_of_ble_eq_true rfl) (hLo _ ls) e6 (Nat.le_of_ble_eq_true rfl) (Nat.le_of_ble_eq_true rfl) rfl (S_J0_isLatin1 hE hLo e6)) ?_
  show Xv E q_m_J0_indexOf_7cf53 4 [Value.ref sa, Value.int (zi c), Value.int (zi 0)] [Value.int (zi 1)] h Q
  refine v_if_eq 23 7 d_J0_indexOf_7cf53_4 rfl rfl (by omega) (by omega) (fun k4 => ?_) (fun k4 => ?_)
  · omega
  · refine xv (x_aload_n 8 d_J0_indexOf_7cf53_7 rfl rfl) ?_
    refine xv (y_gfS 11 d_J0_indexOf_7cf53_8 rfl f_12_9 rfl e6 e7 (by decide)) ?_
    show Xv E q_m_J0_indexOf_7cf53 11 [Value.ref sa, Value.int (zi c), Value.int (zi 0)] [Value.ref ba] h Q
    refine xv (x_iload_n 12 d_J0_indexOf_7cf53_11 rfl rfl) ?_
    refine xv (x_iload_n 13 d_J0_indexOf_7cf53_12 rfl rfl) ?_
    refine xv (x_aload_n 14 d_J0_indexOf_7cf53_13 rfl rfl) ?_
    refine xv (y_invS1 17 (as := []) d_J0_indexOf_7cf53_14 rfl c_12_505 rfl rfl (Nat.le_of_ble_eq_true rfl) (hLo _ ls) e6 (Nat.le_of_ble_eq_true rfl) (Nat.le_of_ble_eq_true rfl) rfl (S_J0_length hE hLo e6)) ?_
    show Xv E q_m_J0_indexOf_7cf53 17 [Value.ref sa, Value.int (zi c), Value.int (zi 0)] [Value.int (zi 4), Value.int (zi 0), Value.int (zi c), Value.ref ba] h Q
    refine xv (x_ins1 20 (as := [Value.ref ba, Value.int (zi c), Value.int (zi 0), Value.int (zi 4)]) d_J0_indexOf_7cf53_17 rfl c_12_637 rfl (Nat.le_of_ble_eq_true rfl) (Nat.le_of_ble_eq_true rfl) (Nat.le_of_ble_eq_true rfl) rfl (S_J1_indexOf hE (hLo _ lb) eb (c := c) (by omega) (by omega))) ?_
    show Xv E q_m_J0_indexOf_7cf53 20 [Value.ref sa, Value.int (zi c), Value.int (zi 0)] [Value.int (zi (kd c))] h Q
    refine xv (x_goto 36 d_J0_indexOf_7cf53_20 rfl) ?_
    refine xv_r (x_ireturn d_J0_indexOf_7cf53_36 rfl rfl) ?_
    refine lq hQ ?_
    rfl
theorem S_J0_indexOf (hE : q_EN E N) (hLo : Lo h N) (e6 : E.1 6 = some (.ref sa)) {c : Int} (c0 : -2147483648 ≤ c) (c1 : c < 2147483648) : q_cl E q_m_J0_indexOf_0f7a4 [Value.ref sa, Value.int (zi c)] h = some (.inl (some (Value.int (zi (kd c)))), h) := by
  suffices K : ∀ Q : q_R → q_H → Prop, Q (.inl (some (Value.int (zi (kd c))))) h → Xv E q_m_J0_indexOf_0f7a4 0 [Value.ref sa, Value.int (zi c)] [] h Q by
    obtain ⟨r_, g_, a_, b_, c_⟩ := K (fun r_ g_ => r_ = .inl (some (Value.int (zi (kd c)))) ∧ g_ = h) ⟨rfl, rfl⟩
    subst b_; subst c_; exact a_
  intro Q hQ
  obtain ⟨_, _, _, _, e4, ⟨v5, e5, c5⟩, sa_, ba, ⟨ls, lb⟩, e6_, e7, eb⟩ := id hE
  have esa : sa = sa_ := by
    have e := e6.symm.trans e6_
    injection e with e
    injection e
  subst esa
  refine xv (x_aload_n 1 d_J0_indexOf_0f7a4_0 rfl rfl) ?_
  refine xv (x_iload_n 2 d_J0_indexOf_0f7a4_1 rfl rfl) ?_
  refine xv (x_iconst 3 d_J0_indexOf_0f7a4_2 rfl) ?_
  refine xv (y_invS1 6 (as := [Value.int (zi c), Value.int (zi 0)]) d_J0_indexOf_0f7a4_3 rfl c_12_633 rfl rfl (Nat.le_of_ble_eq_true rfl) (hLo _ ls) e6 (Nat.le_of_ble_eq_true rfl) (Nat.le_of_ble_eq_true rfl) rfl (S_J0_indexOf2 hE hLo e6 (c := c) (by omega) (by omega))) ?_
  show Xv E q_m_J0_indexOf_0f7a4 6 [Value.ref sa, Value.int (zi c)] [Value.int (zi (kd c))] h Q
  refine xv_r (x_ireturn d_J0_indexOf_0f7a4_6 rfl rfl) ?_
  refine lq hQ ?_
  rfl
end RB4
