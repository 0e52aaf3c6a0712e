/-! the law's helpers: a call, its exceptions by their places (printed by program) -/
section HDL
variable {E : q_E} {M M' : q_M} {pc pc' hp : Nat} {ls ls' st : List Value} {h h' : q_H} {e : String}
theorem x_callH {c : q_M × Nat × List Value × List Value} (hs : q_step E M pc ls st h = some (.inr (.inl c))) (hj : ¬ c.2.1 = 2) (hc : q_cl E c.1 c.2.2.1 h = some (.inr e, h')) (hh : q_hd M e pc (q_hnd M) = some (some hp)) (ht : q_hst M hp ls = some (pc', ls')) : q_ex E M pc ls st h = q_ex E M pc' ls' [] h' := by
  rw [q_ex_step, hs]
  show q_bk (q_ex E) M pc ls c.2.1 c.2.2.2 (q_ex E c.1 0 (q_ent c.1 c.2.2.1) [] h) = _
  rw [show q_ex E c.1 0 (q_ent c.1 c.2.2.1) [] h = some (.inr e, h') from hc]
  unfold q_bk
  simp only [hh, ht, if_neg hj]
theorem x_invH (pc' : Nat) {ix n b : Nat} {ps : Nat × Nat × Nat × Nat} {as rest fs : List Value} (hd : decode M.2.1 pc = .ok (.invokevirtual ix, 3)) (hf : q_lk (q_cal (q_own M)) ix = some (1, n, M', ps)) (hn : as.length = n) (ho : q_own M' < 9) (hg : q_hgt M' < q_hgt M) (hb : h.1 b = some (.inr (q_own M', fs))) (hcat : q_cat rest ≤ 8) (hl : (q_exp (.ref b :: as)).length ≤ M'.2.2.1)
    (hst : st = as.reverse ++ .ref b :: rest) (hc : q_cl E M' (.ref b :: as) h = some (.inr e, h')) (hh : q_hd M e pc (q_hnd M) = some (some hp)) (ht : q_hst M hp ls = some (pc', ls')) : q_ex E M pc ls st h = q_ex E M pc' ls' [] h' := by
  subst hst; subst hn
  refine x_callH (c := (M', 1, .ref b :: as, rest)) ?_ (by show ¬ (1 : Nat) = 2; decide) hc hh ht
  rw [x_st hd]
  simp only [q_stepI, hf]
  rw [if_pos ⟨trivial, trivial⟩]
  have e1 : (as.reverse ++ .ref b :: rest).take as.length = as.reverse := by rw [← List.length_reverse, List.take_left]
  have e2 : (as.reverse ++ .ref b :: rest).drop as.length = .ref b :: rest := by rw [← List.length_reverse, List.drop_left]
  unfold q_call
  rw [if_pos ⟨hg, by simp⟩]
  simp only [e1, e2, List.reverse_reverse, hb]
  rw [if_pos ⟨hcat, hl⟩, if_pos ⟨trivial, ho⟩]
theorem hst_a {k : Nat} (hd : decode M.2.1 hp = .ok (.astore k, 2)) (hk : k < ls.length) : q_hst M hp ls = some (hp + 2, q_st1 ls k .null) := by
  unfold q_hst
  rw [hd]
  exact if_pos hk
theorem hst_n {k : Fin 4} (hd : decode M.2.1 hp = .ok (.astore_n k, 1)) (hk : (k : Nat) < ls.length) : q_hst M hp ls = some (hp + 1, q_st1 ls (k : Nat) .null) := by
  unfold q_hst
  rw [hd]
  exact if_pos hk
end HDL
/-- the law's array for what was returned: of longs, of doubles -/
def LAo (h : q_H) (a : Nat) : Prop := ∃ f, h.1 a = some (.inl (1, 1, .inr (.inl f)))
def DAo (h : q_H) (a : Nat) : Prop := ∃ f, h.1 a = some (.inl (4, 1, .inr (.inr (.inr (.inl f)))))
section OUT
variable {E : q_E} {h h' h1 : q_H} {x o a b : Nat} {t : Int} {r : q_R} {v : Value} {e1 e2 : String} {fs : List Value} {xs : List String}
theorem la_put {x : Int64} (H : LAo h a) : ∃ h', q_sL h a (zi 0) x = some h' ∧ Fr a 1 h h' ∧ q_gL h' a (zi 0) = some (.long x) ∧ LAo h' a := by
  obtain ⟨f, e⟩ := H
  refine ⟨q_up h a (.inl (1, 1, .inr (.inl (vp_updL f (zi 0).toNatClampNeg x)))), ?_, fr_up, ?_, ?_⟩
  · unfold q_sL
    rw [e]
    exact if_pos ⟨rfl, zi_in (by omega) (by omega) (by omega)⟩
  · unfold q_gL
    rw [show (q_up h a (.inl (1, 1, .inr (.inl (vp_updL f (zi 0).toNatClampNeg x))))).1 a = some (.inl (1, 1, .inr (.inl (vp_updL f (zi 0).toNatClampNeg x)))) from if_pos rfl]
    simp only
    rw [if_pos ⟨trivial, zi_in (by omega) (by omega) (by omega)⟩]
    have : vp_updL f (zi 0).toNatClampNeg x (zi 0).toNatClampNeg = x := if_pos rfl
    rw [this]
  · exact ⟨_, if_pos rfl⟩
theorem da_put {x : UInt64} (H : DAo h a) : ∃ h', q_sD h a (zi 0) x = some h' ∧ Fr a 1 h h' ∧ q_gD h' a (zi 0) = some (.double x) ∧ DAo h' a := by
  obtain ⟨f, e⟩ := H
  refine ⟨q_up h a (.inl (4, 1, .inr (.inr (.inr (.inl (vf_upd f (zi 0).toNatClampNeg x)))))), ?_, fr_up, ?_, ?_⟩
  · unfold q_sD
    rw [e]
    exact if_pos ⟨rfl, zi_in (by omega) (by omega) (by omega)⟩
  · unfold q_gD
    rw [show (q_up h a (.inl (4, 1, .inr (.inr (.inr (.inl (vf_upd f (zi 0).toNatClampNeg x))))))).1 a = some (.inl (4, 1, .inr (.inr (.inr (.inl (vf_upd f (zi 0).toNatClampNeg x)))))) from if_pos rfl]
    simp only
    rw [if_pos ⟨trivial, zi_in (by omega) (by omega) (by omega)⟩]
    have : vf_upd f (zi 0).toNatClampNeg x (zi 0).toNatClampNeg = x := if_pos rfl
    rw [this]
  · exact ⟨_, if_pos rfl⟩
theorem rs_1 (H : Rs [e1] r t v) : (t = 0 ∧ r = .inl (some v)) ∨ (t = 1 ∧ r = .inr e1) := by
  rcases H with H | ⟨e, a, b, c⟩
  · exact .inl H
  · obtain ⟨n, en⟩ : ∃ n, t.toNat - 1 = n := ⟨_, rfl⟩
    rw [en] at c
    match n, en, c with
    | 0, en, c =>
      have c : some e1 = some e := c
      injection c with c
      exact .inr ⟨by omega, by rw [a, c]⟩
    | n + 1, en, c => exact absurd (show none = some e from c) (fun z => by cases z)
theorem rs_2 (H : Rs [e1, e2] r t v) : (t = 0 ∧ r = .inl (some v)) ∨ (t = 1 ∧ r = .inr e1) ∨ (t = 2 ∧ r = .inr e2) := by
  rcases H with H | ⟨e, a, b, c⟩
  · exact .inl H
  · obtain ⟨n, en⟩ : ∃ n, t.toNat - 1 = n := ⟨_, rfl⟩
    rw [en] at c
    match n, en, c with
    | 0, en, c =>
      have c : some e1 = some e := c
      injection c with c
      exact .inr (.inl ⟨by omega, by rw [a, c]⟩)
    | 1, en, c =>
      have c : some e2 = some e := c
      injection c with c
      exact .inr (.inr ⟨by omega, by rw [a, c]⟩)
    | n + 2, en, c => exact absurd (show none = some e from c) (fun z => by cases z)
/-- what a helper comes to -/
def Hp (E : q_E) (m : q_M) (vs : List Value) (h h1 : q_H) (o : Nat) (t : Int) (x : Int64) : Prop := ∃ h1', q_cl E m vs h = some (.inl (some (.int (zi t))), h1') ∧ Fr o 1 h1 h1' ∧ (t = 0 → q_gL h1' o (zi 0) = some (.long x)) ∧ LAo h1' o ∧ 0 ≤ t ∧ t ≤ 2
def HpD (E : q_E) (m : q_M) (vs : List Value) (h h1 : q_H) (o : Nat) (t : Int) (x : UInt64) : Prop := ∃ h1', q_cl E m vs h = some (.inl (some (.int (zi t))), h1') ∧ Fr o 1 h1 h1' ∧ (t = 0 → q_gD h1' o (zi 0) = some (.double x)) ∧ DAo h1' o ∧ 0 ≤ t ∧ t ≤ 2
theorem H_account {p : Int32} {x0 : Int32} (hB : q_cl E q_m_X7_account [.ref x, .int p] h = some (r, h1)) (hs : Rs [xIA] r t (.int x0)) (hb : h.1 x = some (.inr (7, fs))) (hO : LAo h1 o) : Hp E q_m_L_account [.ref x, .int p, .ref o] h h1 o t (x0.toInt64) := by
  suffices K : ∀ Q : q_R → q_H → Prop, (∀ h1', Fr o 1 h1 h1' → (t = 0 → q_gL h1' o (zi 0) = some (.long (x0.toInt64))) → LAo h1' o → 0 ≤ t ∧ t ≤ 2 → Q (.inl (some (.int (zi t)))) h1') → Xv E q_m_L_account 0 [.ref x, .int p, .ref o, .null] [] h Q by
    obtain ⟨r2, h2, e2, h3, e3, e4⟩ := K (fun r' h' => ∃ h1', (r' = .inl (some (.int (zi t))) ∧ h' = h1') ∧ Fr o 1 h1 h1' ∧ (t = 0 → q_gL h1' o (zi 0) = some (.long (x0.toInt64))) ∧ LAo h1' o ∧ 0 ≤ t ∧ t ≤ 2) (fun h1' a b c d => ⟨h1', ⟨rfl, rfl⟩, a, b, c, d⟩)
    rw [e3.1, e3.2] at e2
    exact ⟨h3, e2, e4⟩
  intro Q hQ
  refine xv (x_aload_n 1 d_L_account_0 rfl rfl) ?_
  refine xv (x_iconst 2 d_L_account_1 rfl) ?_
  refine xv (x_aload_n 3 d_L_account_2 rfl rfl) ?_
  refine xv (x_iload_n 4 d_L_account_3 rfl rfl) ?_
  rcases rs_1 hs with ⟨ht, er⟩ | ⟨ht, er⟩
  · rw [er] at hB
    refine xv (x_inv1 7 (as := [.int p]) (rest := [.int (zi 0), .ref o]) d_L_account_4 rfl c_9_126 rfl (Nat.le_of_ble_eq_true rfl) (Nat.le_of_ble_eq_true rfl) hb (Nat.le_of_ble_eq_true rfl) (Nat.le_of_ble_eq_true rfl) rfl hB) ?_
    refine xv (x_i2l 8 d_L_account_7 rfl) ?_
    obtain ⟨h2, w1, w2, w3, w4⟩ := la_put (x := x0.toInt64) hO
    refine xv (x_lastore 9 d_L_account_8 rfl w1) ?_
    refine xv (x_goto 15 d_L_account_9 rfl) ?_
    refine xv (x_iconst 16 d_L_account_15 rfl) ?_
    refine xv_r (x_ireturn d_L_account_16 rfl rfl) ?_
    rw [show (0 : Int) = t from ht.symm]
    exact hQ h2 w2 (fun _ => w3) w4 (by omega)
  · rw [er] at hB
    refine xv (x_invH 13 (as := [.int p]) (rest := [.int (zi 0), .ref o]) (hp := 12) d_L_account_4 c_9_126 rfl (Nat.le_of_ble_eq_true rfl) (Nat.le_of_ble_eq_true rfl) hb (Nat.le_of_ble_eq_true rfl) (Nat.le_of_ble_eq_true rfl) rfl hB (by decide +kernel) (hst_n d_L_account_12 (Nat.le_of_ble_eq_true rfl))) ?_
    refine xv (x_iconst 14 d_L_account_13 rfl) ?_
    refine xv_r (x_ireturn d_L_account_14 rfl rfl) ?_
    rw [show (1 : Int) = t from ht.symm]
    exact hQ h1 fr_rf (fun z => by omega) hO (by omega)
theorem H_add {p q : Int32} {x0 : Int32} (hB : q_cl E q_m_X7_add [.ref x, .int p, .int q] h = some (r, h1)) (hs : Rs [xUO] r t (.int x0)) (hb : h.1 x = some (.inr (7, fs))) (hO : LAo h1 o) : Hp E q_m_L_add [.ref x, .int p, .int q, .ref o] h h1 o t (x0.toInt64) := by
  suffices K : ∀ Q : q_R → q_H → Prop, (∀ h1', Fr o 1 h1 h1' → (t = 0 → q_gL h1' o (zi 0) = some (.long (x0.toInt64))) → LAo h1' o → 0 ≤ t ∧ t ≤ 2 → Q (.inl (some (.int (zi t)))) h1') → Xv E q_m_L_add 0 [.ref x, .int p, .int q, .ref o, .null] [] h Q by
    obtain ⟨r2, h2, e2, h3, e3, e4⟩ := K (fun r' h' => ∃ h1', (r' = .inl (some (.int (zi t))) ∧ h' = h1') ∧ Fr o 1 h1 h1' ∧ (t = 0 → q_gL h1' o (zi 0) = some (.long (x0.toInt64))) ∧ LAo h1' o ∧ 0 ≤ t ∧ t ≤ 2) (fun h1' a b c d => ⟨h1', ⟨rfl, rfl⟩, a, b, c, d⟩)
    rw [e3.1, e3.2] at e2
    exact ⟨h3, e2, e4⟩
  intro Q hQ
  refine xv (x_aload_n 1 d_L_add_0 rfl rfl) ?_
  refine xv (x_iconst 2 d_L_add_1 rfl) ?_
  refine xv (x_aload_n 3 d_L_add_2 rfl rfl) ?_
  refine xv (x_iload_n 4 d_L_add_3 rfl rfl) ?_
  refine xv (x_iload_n 5 d_L_add_4 rfl rfl) ?_
  rcases rs_1 hs with ⟨ht, er⟩ | ⟨ht, er⟩
  · rw [er] at hB
    refine xv (x_inv1 8 (as := [.int p, .int q]) (rest := [.int (zi 0), .ref o]) d_L_add_5 rfl c_9_21 rfl (Nat.le_of_ble_eq_true rfl) (Nat.le_of_ble_eq_true rfl) hb (Nat.le_of_ble_eq_true rfl) (Nat.le_of_ble_eq_true rfl) rfl hB) ?_
    refine xv (x_i2l 9 d_L_add_8 rfl) ?_
    obtain ⟨h2, w1, w2, w3, w4⟩ := la_put (x := x0.toInt64) hO
    refine xv (x_lastore 10 d_L_add_9 rfl w1) ?_
    refine xv (x_goto 17 d_L_add_10 rfl) ?_
    refine xv (x_iconst 18 d_L_add_17 rfl) ?_
    refine xv_r (x_ireturn d_L_add_18 rfl rfl) ?_
    rw [show (0 : Int) = t from ht.symm]
    exact hQ h2 w2 (fun _ => w3) w4 (by omega)
  · rw [er] at hB
    refine xv (x_invH 15 (as := [.int p, .int q]) (rest := [.int (zi 0), .ref o]) (hp := 13) d_L_add_5 c_9_21 rfl (Nat.le_of_ble_eq_true rfl) (Nat.le_of_ble_eq_true rfl) hb (Nat.le_of_ble_eq_true rfl) (Nat.le_of_ble_eq_true rfl) rfl hB (by decide +kernel) (hst_a d_L_add_13 (Nat.le_of_ble_eq_true rfl))) ?_
    refine xv (x_iconst 16 d_L_add_15 rfl) ?_
    refine xv_r (x_ireturn d_L_add_16 rfl rfl) ?_
    rw [show (1 : Int) = t from ht.symm]
    exact hQ h1 fr_rf (fun z => by omega) hO (by omega)
theorem H_append {p : Int32} {x0 : Int32} (hB : q_cl E q_m_X7_append [.ref x, .int p] h = some (r, h1)) (hs : Rs [xIS] r t (.int x0)) (hb : h.1 x = some (.inr (7, fs))) (hO : LAo h1 o) : Hp E q_m_L_append [.ref x, .int p, .ref o] h h1 o t (x0.toInt64) := by
  suffices K : ∀ Q : q_R → q_H → Prop, (∀ h1', Fr o 1 h1 h1' → (t = 0 → q_gL h1' o (zi 0) = some (.long (x0.toInt64))) → LAo h1' o → 0 ≤ t ∧ t ≤ 2 → Q (.inl (some (.int (zi t)))) h1') → Xv E q_m_L_append 0 [.ref x, .int p, .ref o, .null] [] h Q by
    obtain ⟨r2, h2, e2, h3, e3, e4⟩ := K (fun r' h' => ∃ h1', (r' = .inl (some (.int (zi t))) ∧ h' = h1') ∧ Fr o 1 h1 h1' ∧ (t = 0 → q_gL h1' o (zi 0) = some (.long (x0.toInt64))) ∧ LAo h1' o ∧ 0 ≤ t ∧ t ≤ 2) (fun h1' a b c d => ⟨h1', ⟨rfl, rfl⟩, a, b, c, d⟩)
    rw [e3.1, e3.2] at e2
    exact ⟨h3, e2, e4⟩
  intro Q hQ
  refine xv (x_aload_n 1 d_L_append_0 rfl rfl) ?_
  refine xv (x_iconst 2 d_L_append_1 rfl) ?_
  refine xv (x_aload_n 3 d_L_append_2 rfl rfl) ?_
  refine xv (x_iload_n 4 d_L_append_3 rfl rfl) ?_
  rcases rs_1 hs with ⟨ht, er⟩ | ⟨ht, er⟩
  · rw [er] at hB
    refine xv (x_inv1 7 (as := [.int p]) (rest := [.int (zi 0), .ref o]) d_L_append_4 rfl c_9_7 rfl (Nat.le_of_ble_eq_true rfl) (Nat.le_of_ble_eq_true rfl) hb (Nat.le_of_ble_eq_true rfl) (Nat.le_of_ble_eq_true rfl) rfl hB) ?_
    refine xv (x_i2l 8 d_L_append_7 rfl) ?_
    obtain ⟨h2, w1, w2, w3, w4⟩ := la_put (x := x0.toInt64) hO
    refine xv (x_lastore 9 d_L_append_8 rfl w1) ?_
    refine xv (x_goto 15 d_L_append_9 rfl) ?_
    refine xv (x_iconst 16 d_L_append_15 rfl) ?_
    refine xv_r (x_ireturn d_L_append_16 rfl rfl) ?_
    rw [show (0 : Int) = t from ht.symm]
    exact hQ h2 w2 (fun _ => w3) w4 (by omega)
  · rw [er] at hB
    refine xv (x_invH 13 (as := [.int p]) (rest := [.int (zi 0), .ref o]) (hp := 12) d_L_append_4 c_9_7 rfl (Nat.le_of_ble_eq_true rfl) (Nat.le_of_ble_eq_true rfl) hb (Nat.le_of_ble_eq_true rfl) (Nat.le_of_ble_eq_true rfl) rfl hB (by decide +kernel) (hst_n d_L_append_12 (Nat.le_of_ble_eq_true rfl))) ?_
    refine xv (x_iconst 14 d_L_append_13 rfl) ?_
    refine xv_r (x_ireturn d_L_append_14 rfl rfl) ?_
    rw [show (1 : Int) = t from ht.symm]
    exact hQ h1 fr_rf (fun z => by omega) hO (by omega)
theorem H_arrival {p q : Int32} {x0 : Int32} (hB : q_cl E q_m_X7_arrival [.ref x, .int p, .int q] h = some (r, h1)) (hs : Rs [xIO, xNS] r t (.int x0)) (hb : h.1 x = some (.inr (7, fs))) (hO : LAo h1 o) : Hp E q_m_L_arrival [.ref x, .int p, .int q, .ref o] h h1 o t (x0.toInt64) := by
  suffices K : ∀ Q : q_R → q_H → Prop, (∀ h1', Fr o 1 h1 h1' → (t = 0 → q_gL h1' o (zi 0) = some (.long (x0.toInt64))) → LAo h1' o → 0 ≤ t ∧ t ≤ 2 → Q (.inl (some (.int (zi t)))) h1') → Xv E q_m_L_arrival 0 [.ref x, .int p, .int q, .ref o, .null] [] h Q by
    obtain ⟨r2, h2, e2, h3, e3, e4⟩ := K (fun r' h' => ∃ h1', (r' = .inl (some (.int (zi t))) ∧ h' = h1') ∧ Fr o 1 h1 h1' ∧ (t = 0 → q_gL h1' o (zi 0) = some (.long (x0.toInt64))) ∧ LAo h1' o ∧ 0 ≤ t ∧ t ≤ 2) (fun h1' a b c d => ⟨h1', ⟨rfl, rfl⟩, a, b, c, d⟩)
    rw [e3.1, e3.2] at e2
    exact ⟨h3, e2, e4⟩
  intro Q hQ
  refine xv (x_aload_n 1 d_L_arrival_0 rfl rfl) ?_
  refine xv (x_iconst 2 d_L_arrival_1 rfl) ?_
  refine xv (x_aload_n 3 d_L_arrival_2 rfl rfl) ?_
  refine xv (x_iload_n 4 d_L_arrival_3 rfl rfl) ?_
  refine xv (x_iload_n 5 d_L_arrival_4 rfl rfl) ?_
  rcases rs_2 hs with ⟨ht, er⟩ | ⟨ht, er⟩ | ⟨ht, er⟩
  · rw [er] at hB
    refine xv (x_inv1 8 (as := [.int p, .int q]) (rest := [.int (zi 0), .ref o]) d_L_arrival_5 rfl c_9_91 rfl (Nat.le_of_ble_eq_true rfl) (Nat.le_of_ble_eq_true rfl) hb (Nat.le_of_ble_eq_true rfl) (Nat.le_of_ble_eq_true rfl) rfl hB) ?_
    refine xv (x_i2l 9 d_L_arrival_8 rfl) ?_
    obtain ⟨h2, w1, w2, w3, w4⟩ := la_put (x := x0.toInt64) hO
    refine xv (x_lastore 10 d_L_arrival_9 rfl w1) ?_
    refine xv (x_goto 21 d_L_arrival_10 rfl) ?_
    refine xv (x_iconst 22 d_L_arrival_21 rfl) ?_
    refine xv_r (x_ireturn d_L_arrival_22 rfl rfl) ?_
    rw [show (0 : Int) = t from ht.symm]
    exact hQ h2 w2 (fun _ => w3) w4 (by omega)
  · rw [er] at hB
    refine xv (x_invH 15 (as := [.int p, .int q]) (rest := [.int (zi 0), .ref o]) (hp := 13) d_L_arrival_5 c_9_91 rfl (Nat.le_of_ble_eq_true rfl) (Nat.le_of_ble_eq_true rfl) hb (Nat.le_of_ble_eq_true rfl) (Nat.le_of_ble_eq_true rfl) rfl hB (by decide +kernel) (hst_a d_L_arrival_13 (Nat.le_of_ble_eq_true rfl))) ?_
    refine xv (x_iconst 16 d_L_arrival_15 rfl) ?_
    refine xv_r (x_ireturn d_L_arrival_16 rfl rfl) ?_
    rw [show (1 : Int) = t from ht.symm]
    exact hQ h1 fr_rf (fun z => by omega) hO (by omega)
  · rw [er] at hB
    refine xv (x_invH 19 (as := [.int p, .int q]) (rest := [.int (zi 0), .ref o]) (hp := 17) d_L_arrival_5 c_9_91 rfl (Nat.le_of_ble_eq_true rfl) (Nat.le_of_ble_eq_true rfl) hb (Nat.le_of_ble_eq_true rfl) (Nat.le_of_ble_eq_true rfl) rfl hB (by decide +kernel) (hst_a d_L_arrival_17 (Nat.le_of_ble_eq_true rfl))) ?_
    refine xv (x_iconst 20 d_L_arrival_19 rfl) ?_
    refine xv_r (x_ireturn d_L_arrival_20 rfl rfl) ?_
    rw [show (2 : Int) = t from ht.symm]
    exact hQ h1 fr_rf (fun z => by omega) hO (by omega)
theorem H_arrivalAgain {p q : Int32} {x0 : Int32} (hB : q_cl E q_m_X7_arrivalAgain [.ref x, .int p, .int q] h = some (r, h1)) (hs : Rs [xIO, xNS] r t (.int x0)) (hb : h.1 x = some (.inr (7, fs))) (hO : LAo h1 o) : Hp E q_m_L_arrivalAgain [.ref x, .int p, .int q, .ref o] h h1 o t (x0.toInt64) := by
  suffices K : ∀ Q : q_R → q_H → Prop, (∀ h1', Fr o 1 h1 h1' → (t = 0 → q_gL h1' o (zi 0) = some (.long (x0.toInt64))) → LAo h1' o → 0 ≤ t ∧ t ≤ 2 → Q (.inl (some (.int (zi t)))) h1') → Xv E q_m_L_arrivalAgain 0 [.ref x, .int p, .int q, .ref o, .null] [] h Q by
    obtain ⟨r2, h2, e2, h3, e3, e4⟩ := K (fun r' h' => ∃ h1', (r' = .inl (some (.int (zi t))) ∧ h' = h1') ∧ Fr o 1 h1 h1' ∧ (t = 0 → q_gL h1' o (zi 0) = some (.long (x0.toInt64))) ∧ LAo h1' o ∧ 0 ≤ t ∧ t ≤ 2) (fun h1' a b c d => ⟨h1', ⟨rfl, rfl⟩, a, b, c, d⟩)
    rw [e3.1, e3.2] at e2
    exact ⟨h3, e2, e4⟩
  intro Q hQ
  refine xv (x_aload_n 1 d_L_arrivalAgain_0 rfl rfl) ?_
  refine xv (x_iconst 2 d_L_arrivalAgain_1 rfl) ?_
  refine xv (x_aload_n 3 d_L_arrivalAgain_2 rfl rfl) ?_
  refine xv (x_iload_n 4 d_L_arrivalAgain_3 rfl rfl) ?_
  refine xv (x_iload_n 5 d_L_arrivalAgain_4 rfl rfl) ?_
  rcases rs_2 hs with ⟨ht, er⟩ | ⟨ht, er⟩ | ⟨ht, er⟩
  · rw [er] at hB
    refine xv (x_inv1 8 (as := [.int p, .int q]) (rest := [.int (zi 0), .ref o]) d_L_arrivalAgain_5 rfl c_9_94 rfl (Nat.le_of_ble_eq_true rfl) (Nat.le_of_ble_eq_true rfl) hb (Nat.le_of_ble_eq_true rfl) (Nat.le_of_ble_eq_true rfl) rfl hB) ?_
    refine xv (x_i2l 9 d_L_arrivalAgain_8 rfl) ?_
    obtain ⟨h2, w1, w2, w3, w4⟩ := la_put (x := x0.toInt64) hO
    refine xv (x_lastore 10 d_L_arrivalAgain_9 rfl w1) ?_
    refine xv (x_goto 21 d_L_arrivalAgain_10 rfl) ?_
    refine xv (x_iconst 22 d_L_arrivalAgain_21 rfl) ?_
    refine xv_r (x_ireturn d_L_arrivalAgain_22 rfl rfl) ?_
    rw [show (0 : Int) = t from ht.symm]
    exact hQ h2 w2 (fun _ => w3) w4 (by omega)
  · rw [er] at hB
    refine xv (x_invH 15 (as := [.int p, .int q]) (rest := [.int (zi 0), .ref o]) (hp := 13) d_L_arrivalAgain_5 c_9_94 rfl (Nat.le_of_ble_eq_true rfl) (Nat.le_of_ble_eq_true rfl) hb (Nat.le_of_ble_eq_true rfl) (Nat.le_of_ble_eq_true rfl) rfl hB (by decide +kernel) (hst_a d_L_arrivalAgain_13 (Nat.le_of_ble_eq_true rfl))) ?_
    refine xv (x_iconst 16 d_L_arrivalAgain_15 rfl) ?_
    refine xv_r (x_ireturn d_L_arrivalAgain_16 rfl rfl) ?_
    rw [show (1 : Int) = t from ht.symm]
    exact hQ h1 fr_rf (fun z => by omega) hO (by omega)
  · rw [er] at hB
    refine xv (x_invH 19 (as := [.int p, .int q]) (rest := [.int (zi 0), .ref o]) (hp := 17) d_L_arrivalAgain_5 c_9_94 rfl (Nat.le_of_ble_eq_true rfl) (Nat.le_of_ble_eq_true rfl) hb (Nat.le_of_ble_eq_true rfl) (Nat.le_of_ble_eq_true rfl) rfl hB (by decide +kernel) (hst_a d_L_arrivalAgain_17 (Nat.le_of_ble_eq_true rfl))) ?_
    refine xv (x_iconst 20 d_L_arrivalAgain_19 rfl) ?_
    refine xv_r (x_ireturn d_L_arrivalAgain_20 rfl rfl) ?_
    rw [show (2 : Int) = t from ht.symm]
    exact hQ h1 fr_rf (fun z => by omega) hO (by omega)
theorem H_assign {p q : Int32} {x0 : Int32} (hB : q_cl E q_m_X7_assign [.ref x, .int p, .int q] h = some (r, h1)) (hs : Rs [xUO] r t (.int x0)) (hb : h.1 x = some (.inr (7, fs))) (hO : LAo h1 o) : Hp E q_m_L_assign [.ref x, .int p, .int q, .ref o] h h1 o t (x0.toInt64) := by
  suffices K : ∀ Q : q_R → q_H → Prop, (∀ h1', Fr o 1 h1 h1' → (t = 0 → q_gL h1' o (zi 0) = some (.long (x0.toInt64))) → LAo h1' o → 0 ≤ t ∧ t ≤ 2 → Q (.inl (some (.int (zi t)))) h1') → Xv E q_m_L_assign 0 [.ref x, .int p, .int q, .ref o, .null] [] h Q by
    obtain ⟨r2, h2, e2, h3, e3, e4⟩ := K (fun r' h' => ∃ h1', (r' = .inl (some (.int (zi t))) ∧ h' = h1') ∧ Fr o 1 h1 h1' ∧ (t = 0 → q_gL h1' o (zi 0) = some (.long (x0.toInt64))) ∧ LAo h1' o ∧ 0 ≤ t ∧ t ≤ 2) (fun h1' a b c d => ⟨h1', ⟨rfl, rfl⟩, a, b, c, d⟩)
    rw [e3.1, e3.2] at e2
    exact ⟨h3, e2, e4⟩
  intro Q hQ
  refine xv (x_aload_n 1 d_L_assign_0 rfl rfl) ?_
  refine xv (x_iconst 2 d_L_assign_1 rfl) ?_
  refine xv (x_aload_n 3 d_L_assign_2 rfl rfl) ?_
  refine xv (x_iload_n 4 d_L_assign_3 rfl rfl) ?_
  refine xv (x_iload_n 5 d_L_assign_4 rfl rfl) ?_
  rcases rs_1 hs with ⟨ht, er⟩ | ⟨ht, er⟩
  · rw [er] at hB
    refine xv (x_inv1 8 (as := [.int p, .int q]) (rest := [.int (zi 0), .ref o]) d_L_assign_5 rfl c_9_35 rfl (Nat.le_of_ble_eq_true rfl) (Nat.le_of_ble_eq_true rfl) hb (Nat.le_of_ble_eq_true rfl) (Nat.le_of_ble_eq_true rfl) rfl hB) ?_
    refine xv (x_i2l 9 d_L_assign_8 rfl) ?_
    obtain ⟨h2, w1, w2, w3, w4⟩ := la_put (x := x0.toInt64) hO
    refine xv (x_lastore 10 d_L_assign_9 rfl w1) ?_
    refine xv (x_goto 17 d_L_assign_10 rfl) ?_
    refine xv (x_iconst 18 d_L_assign_17 rfl) ?_
    refine xv_r (x_ireturn d_L_assign_18 rfl rfl) ?_
    rw [show (0 : Int) = t from ht.symm]
    exact hQ h2 w2 (fun _ => w3) w4 (by omega)
  · rw [er] at hB
    refine xv (x_invH 15 (as := [.int p, .int q]) (rest := [.int (zi 0), .ref o]) (hp := 13) d_L_assign_5 c_9_35 rfl (Nat.le_of_ble_eq_true rfl) (Nat.le_of_ble_eq_true rfl) hb (Nat.le_of_ble_eq_true rfl) (Nat.le_of_ble_eq_true rfl) rfl hB (by decide +kernel) (hst_a d_L_assign_13 (Nat.le_of_ble_eq_true rfl))) ?_
    refine xv (x_iconst 16 d_L_assign_15 rfl) ?_
    refine xv_r (x_ireturn d_L_assign_16 rfl rfl) ?_
    rw [show (1 : Int) = t from ht.symm]
    exact hQ h1 fr_rf (fun z => by omega) hO (by omega)
theorem H_cancel {p : Int32} {x0 : Int32} (hB : q_cl E q_m_X7_cancel [.ref x, .int p] h = some (r, h1)) (hs : Rs [xUO] r t (.int x0)) (hb : h.1 x = some (.inr (7, fs))) (hO : LAo h1 o) : Hp E q_m_L_cancel [.ref x, .int p, .ref o] h h1 o t (x0.toInt64) := by
  suffices K : ∀ Q : q_R → q_H → Prop, (∀ h1', Fr o 1 h1 h1' → (t = 0 → q_gL h1' o (zi 0) = some (.long (x0.toInt64))) → LAo h1' o → 0 ≤ t ∧ t ≤ 2 → Q (.inl (some (.int (zi t)))) h1') → Xv E q_m_L_cancel 0 [.ref x, .int p, .ref o, .null] [] h Q by
    obtain ⟨r2, h2, e2, h3, e3, e4⟩ := K (fun r' h' => ∃ h1', (r' = .inl (some (.int (zi t))) ∧ h' = h1') ∧ Fr o 1 h1 h1' ∧ (t = 0 → q_gL h1' o (zi 0) = some (.long (x0.toInt64))) ∧ LAo h1' o ∧ 0 ≤ t ∧ t ≤ 2) (fun h1' a b c d => ⟨h1', ⟨rfl, rfl⟩, a, b, c, d⟩)
    rw [e3.1, e3.2] at e2
    exact ⟨h3, e2, e4⟩
  intro Q hQ
  refine xv (x_aload_n 1 d_L_cancel_0 rfl rfl) ?_
  refine xv (x_iconst 2 d_L_cancel_1 rfl) ?_
  refine xv (x_aload_n 3 d_L_cancel_2 rfl rfl) ?_
  refine xv (x_iload_n 4 d_L_cancel_3 rfl rfl) ?_
  rcases rs_1 hs with ⟨ht, er⟩ | ⟨ht, er⟩
  · rw [er] at hB
    refine xv (x_inv1 7 (as := [.int p]) (rest := [.int (zi 0), .ref o]) d_L_cancel_4 rfl c_9_53 rfl (Nat.le_of_ble_eq_true rfl) (Nat.le_of_ble_eq_true rfl) hb (Nat.le_of_ble_eq_true rfl) (Nat.le_of_ble_eq_true rfl) rfl hB) ?_
    refine xv (x_i2l 8 d_L_cancel_7 rfl) ?_
    obtain ⟨h2, w1, w2, w3, w4⟩ := la_put (x := x0.toInt64) hO
    refine xv (x_lastore 9 d_L_cancel_8 rfl w1) ?_
    refine xv (x_goto 15 d_L_cancel_9 rfl) ?_
    refine xv (x_iconst 16 d_L_cancel_15 rfl) ?_
    refine xv_r (x_ireturn d_L_cancel_16 rfl rfl) ?_
    rw [show (0 : Int) = t from ht.symm]
    exact hQ h2 w2 (fun _ => w3) w4 (by omega)
  · rw [er] at hB
    refine xv (x_invH 13 (as := [.int p]) (rest := [.int (zi 0), .ref o]) (hp := 12) d_L_cancel_4 c_9_53 rfl (Nat.le_of_ble_eq_true rfl) (Nat.le_of_ble_eq_true rfl) hb (Nat.le_of_ble_eq_true rfl) (Nat.le_of_ble_eq_true rfl) rfl hB (by decide +kernel) (hst_n d_L_cancel_12 (Nat.le_of_ble_eq_true rfl))) ?_
    refine xv (x_iconst 14 d_L_cancel_13 rfl) ?_
    refine xv_r (x_ireturn d_L_cancel_14 rfl rfl) ?_
    rw [show (1 : Int) = t from ht.symm]
    exact hQ h1 fr_rf (fun z => by omega) hO (by omega)
theorem H_cell {p q : Int32} {x0 : Int32} (hB : q_cl E q_m_X7_cell [.ref x, .int p, .int q] h = some (r, h1)) (hs : Rs [xIO, xIA] r t (.int x0)) (hb : h.1 x = some (.inr (7, fs))) (hO : LAo h1 o) : Hp E q_m_L_cell [.ref x, .int p, .int q, .ref o] h h1 o t (x0.toInt64) := by
  suffices K : ∀ Q : q_R → q_H → Prop, (∀ h1', Fr o 1 h1 h1' → (t = 0 → q_gL h1' o (zi 0) = some (.long (x0.toInt64))) → LAo h1' o → 0 ≤ t ∧ t ≤ 2 → Q (.inl (some (.int (zi t)))) h1') → Xv E q_m_L_cell 0 [.ref x, .int p, .int q, .ref o, .null] [] h Q by
    obtain ⟨r2, h2, e2, h3, e3, e4⟩ := K (fun r' h' => ∃ h1', (r' = .inl (some (.int (zi t))) ∧ h' = h1') ∧ Fr o 1 h1 h1' ∧ (t = 0 → q_gL h1' o (zi 0) = some (.long (x0.toInt64))) ∧ LAo h1' o ∧ 0 ≤ t ∧ t ≤ 2) (fun h1' a b c d => ⟨h1', ⟨rfl, rfl⟩, a, b, c, d⟩)
    rw [e3.1, e3.2] at e2
    exact ⟨h3, e2, e4⟩
  intro Q hQ
  refine xv (x_aload_n 1 d_L_cell_0 rfl rfl) ?_
  refine xv (x_iconst 2 d_L_cell_1 rfl) ?_
  refine xv (x_aload_n 3 d_L_cell_2 rfl rfl) ?_
  refine xv (x_iload_n 4 d_L_cell_3 rfl rfl) ?_
  refine xv (x_iload_n 5 d_L_cell_4 rfl rfl) ?_
  rcases rs_2 hs with ⟨ht, er⟩ | ⟨ht, er⟩ | ⟨ht, er⟩
  · rw [er] at hB
    refine xv (x_inv1 8 (as := [.int p, .int q]) (rest := [.int (zi 0), .ref o]) d_L_cell_5 rfl c_9_59 rfl (Nat.le_of_ble_eq_true rfl) (Nat.le_of_ble_eq_true rfl) hb (Nat.le_of_ble_eq_true rfl) (Nat.le_of_ble_eq_true rfl) rfl hB) ?_
    refine xv (x_i2l 9 d_L_cell_8 rfl) ?_
    obtain ⟨h2, w1, w2, w3, w4⟩ := la_put (x := x0.toInt64) hO
    refine xv (x_lastore 10 d_L_cell_9 rfl w1) ?_
    refine xv (x_goto 21 d_L_cell_10 rfl) ?_
    refine xv (x_iconst 22 d_L_cell_21 rfl) ?_
    refine xv_r (x_ireturn d_L_cell_22 rfl rfl) ?_
    rw [show (0 : Int) = t from ht.symm]
    exact hQ h2 w2 (fun _ => w3) w4 (by omega)
  · rw [er] at hB
    refine xv (x_invH 15 (as := [.int p, .int q]) (rest := [.int (zi 0), .ref o]) (hp := 13) d_L_cell_5 c_9_59 rfl (Nat.le_of_ble_eq_true rfl) (Nat.le_of_ble_eq_true rfl) hb (Nat.le_of_ble_eq_true rfl) (Nat.le_of_ble_eq_true rfl) rfl hB (by decide +kernel) (hst_a d_L_cell_13 (Nat.le_of_ble_eq_true rfl))) ?_
    refine xv (x_iconst 16 d_L_cell_15 rfl) ?_
    refine xv_r (x_ireturn d_L_cell_16 rfl rfl) ?_
    rw [show (1 : Int) = t from ht.symm]
    exact hQ h1 fr_rf (fun z => by omega) hO (by omega)
  · rw [er] at hB
    refine xv (x_invH 19 (as := [.int p, .int q]) (rest := [.int (zi 0), .ref o]) (hp := 17) d_L_cell_5 c_9_59 rfl (Nat.le_of_ble_eq_true rfl) (Nat.le_of_ble_eq_true rfl) hb (Nat.le_of_ble_eq_true rfl) (Nat.le_of_ble_eq_true rfl) rfl hB (by decide +kernel) (hst_a d_L_cell_17 (Nat.le_of_ble_eq_true rfl))) ?_
    refine xv (x_iconst 20 d_L_cell_19 rfl) ?_
    refine xv_r (x_ireturn d_L_cell_20 rfl rfl) ?_
    rw [show (2 : Int) = t from ht.symm]
    exact hQ h1 fr_rf (fun z => by omega) hO (by omega)
theorem H_close {p : Int32} {x0 : Int32} (hB : q_cl E q_m_X7_close [.ref x, .int p] h = some (r, h1)) (hs : Rs [xUO] r t (.int x0)) (hb : h.1 x = some (.inr (7, fs))) (hO : LAo h1 o) : Hp E q_m_L_close [.ref x, .int p, .ref o] h h1 o t (x0.toInt64) := by
  suffices K : ∀ Q : q_R → q_H → Prop, (∀ h1', Fr o 1 h1 h1' → (t = 0 → q_gL h1' o (zi 0) = some (.long (x0.toInt64))) → LAo h1' o → 0 ≤ t ∧ t ≤ 2 → Q (.inl (some (.int (zi t)))) h1') → Xv E q_m_L_close 0 [.ref x, .int p, .ref o, .null] [] h Q by
    obtain ⟨r2, h2, e2, h3, e3, e4⟩ := K (fun r' h' => ∃ h1', (r' = .inl (some (.int (zi t))) ∧ h' = h1') ∧ Fr o 1 h1 h1' ∧ (t = 0 → q_gL h1' o (zi 0) = some (.long (x0.toInt64))) ∧ LAo h1' o ∧ 0 ≤ t ∧ t ≤ 2) (fun h1' a b c d => ⟨h1', ⟨rfl, rfl⟩, a, b, c, d⟩)
    rw [e3.1, e3.2] at e2
    exact ⟨h3, e2, e4⟩
  intro Q hQ
  refine xv (x_aload_n 1 d_L_close_0 rfl rfl) ?_
  refine xv (x_iconst 2 d_L_close_1 rfl) ?_
  refine xv (x_aload_n 3 d_L_close_2 rfl rfl) ?_
  refine xv (x_iload_n 4 d_L_close_3 rfl rfl) ?_
  rcases rs_1 hs with ⟨ht, er⟩ | ⟨ht, er⟩
  · rw [er] at hB
    refine xv (x_inv1 7 (as := [.int p]) (rest := [.int (zi 0), .ref o]) d_L_close_4 rfl c_9_41 rfl (Nat.le_of_ble_eq_true rfl) (Nat.le_of_ble_eq_true rfl) hb (Nat.le_of_ble_eq_true rfl) (Nat.le_of_ble_eq_true rfl) rfl hB) ?_
    refine xv (x_i2l 8 d_L_close_7 rfl) ?_
    obtain ⟨h2, w1, w2, w3, w4⟩ := la_put (x := x0.toInt64) hO
    refine xv (x_lastore 9 d_L_close_8 rfl w1) ?_
    refine xv (x_goto 15 d_L_close_9 rfl) ?_
    refine xv (x_iconst 16 d_L_close_15 rfl) ?_
    refine xv_r (x_ireturn d_L_close_16 rfl rfl) ?_
    rw [show (0 : Int) = t from ht.symm]
    exact hQ h2 w2 (fun _ => w3) w4 (by omega)
  · rw [er] at hB
    refine xv (x_invH 13 (as := [.int p]) (rest := [.int (zi 0), .ref o]) (hp := 12) d_L_close_4 c_9_41 rfl (Nat.le_of_ble_eq_true rfl) (Nat.le_of_ble_eq_true rfl) hb (Nat.le_of_ble_eq_true rfl) (Nat.le_of_ble_eq_true rfl) rfl hB (by decide +kernel) (hst_n d_L_close_12 (Nat.le_of_ble_eq_true rfl))) ?_
    refine xv (x_iconst 14 d_L_close_13 rfl) ?_
    refine xv_r (x_ireturn d_L_close_14 rfl rfl) ?_
    rw [show (1 : Int) = t from ht.symm]
    exact hQ h1 fr_rf (fun z => by omega) hO (by omega)
theorem H_distance {p q : Int32} {x0 : Int32} (hB : q_cl E q_m_X7_distance [.ref x, .int p, .int q] h = some (r, h1)) (hs : Rs [xIO, xNS] r t (.int x0)) (hb : h.1 x = some (.inr (7, fs))) (hO : LAo h1 o) : Hp E q_m_L_distance [.ref x, .int p, .int q, .ref o] h h1 o t (x0.toInt64) := by
  suffices K : ∀ Q : q_R → q_H → Prop, (∀ h1', Fr o 1 h1 h1' → (t = 0 → q_gL h1' o (zi 0) = some (.long (x0.toInt64))) → LAo h1' o → 0 ≤ t ∧ t ≤ 2 → Q (.inl (some (.int (zi t)))) h1') → Xv E q_m_L_distance 0 [.ref x, .int p, .int q, .ref o, .null] [] h Q by
    obtain ⟨r2, h2, e2, h3, e3, e4⟩ := K (fun r' h' => ∃ h1', (r' = .inl (some (.int (zi t))) ∧ h' = h1') ∧ Fr o 1 h1 h1' ∧ (t = 0 → q_gL h1' o (zi 0) = some (.long (x0.toInt64))) ∧ LAo h1' o ∧ 0 ≤ t ∧ t ≤ 2) (fun h1' a b c d => ⟨h1', ⟨rfl, rfl⟩, a, b, c, d⟩)
    rw [e3.1, e3.2] at e2
    exact ⟨h3, e2, e4⟩
  intro Q hQ
  refine xv (x_aload_n 1 d_L_distance_0 rfl rfl) ?_
  refine xv (x_iconst 2 d_L_distance_1 rfl) ?_
  refine xv (x_aload_n 3 d_L_distance_2 rfl rfl) ?_
  refine xv (x_iload_n 4 d_L_distance_3 rfl rfl) ?_
  refine xv (x_iload_n 5 d_L_distance_4 rfl rfl) ?_
  rcases rs_2 hs with ⟨ht, er⟩ | ⟨ht, er⟩ | ⟨ht, er⟩
  · rw [er] at hB
    refine xv (x_inv1 8 (as := [.int p, .int q]) (rest := [.int (zi 0), .ref o]) d_L_distance_5 rfl c_9_68 rfl (Nat.le_of_ble_eq_true rfl) (Nat.le_of_ble_eq_true rfl) hb (Nat.le_of_ble_eq_true rfl) (Nat.le_of_ble_eq_true rfl) rfl hB) ?_
    refine xv (x_i2l 9 d_L_distance_8 rfl) ?_
    obtain ⟨h2, w1, w2, w3, w4⟩ := la_put (x := x0.toInt64) hO
    refine xv (x_lastore 10 d_L_distance_9 rfl w1) ?_
    refine xv (x_goto 21 d_L_distance_10 rfl) ?_
    refine xv (x_iconst 22 d_L_distance_21 rfl) ?_
    refine xv_r (x_ireturn d_L_distance_22 rfl rfl) ?_
    rw [show (0 : Int) = t from ht.symm]
    exact hQ h2 w2 (fun _ => w3) w4 (by omega)
  · rw [er] at hB
    refine xv (x_invH 15 (as := [.int p, .int q]) (rest := [.int (zi 0), .ref o]) (hp := 13) d_L_distance_5 c_9_68 rfl (Nat.le_of_ble_eq_true rfl) (Nat.le_of_ble_eq_true rfl) hb (Nat.le_of_ble_eq_true rfl) (Nat.le_of_ble_eq_true rfl) rfl hB (by decide +kernel) (hst_a d_L_distance_13 (Nat.le_of_ble_eq_true rfl))) ?_
    refine xv (x_iconst 16 d_L_distance_15 rfl) ?_
    refine xv_r (x_ireturn d_L_distance_16 rfl rfl) ?_
    rw [show (1 : Int) = t from ht.symm]
    exact hQ h1 fr_rf (fun z => by omega) hO (by omega)
  · rw [er] at hB
    refine xv (x_invH 19 (as := [.int p, .int q]) (rest := [.int (zi 0), .ref o]) (hp := 17) d_L_distance_5 c_9_68 rfl (Nat.le_of_ble_eq_true rfl) (Nat.le_of_ble_eq_true rfl) hb (Nat.le_of_ble_eq_true rfl) (Nat.le_of_ble_eq_true rfl) rfl hB (by decide +kernel) (hst_a d_L_distance_17 (Nat.le_of_ble_eq_true rfl))) ?_
    refine xv (x_iconst 20 d_L_distance_19 rfl) ?_
    refine xv_r (x_ireturn d_L_distance_20 rfl rfl) ?_
    rw [show (2 : Int) = t from ht.symm]
    exact hQ h1 fr_rf (fun z => by omega) hO (by omega)
theorem H_distanceAgain {p q : Int32} {x0 : Int32} (hB : q_cl E q_m_X7_distanceAgain [.ref x, .int p, .int q] h = some (r, h1)) (hs : Rs [xIO, xNS] r t (.int x0)) (hb : h.1 x = some (.inr (7, fs))) (hO : LAo h1 o) : Hp E q_m_L_distanceAgain [.ref x, .int p, .int q, .ref o] h h1 o t (x0.toInt64) := by
  suffices K : ∀ Q : q_R → q_H → Prop, (∀ h1', Fr o 1 h1 h1' → (t = 0 → q_gL h1' o (zi 0) = some (.long (x0.toInt64))) → LAo h1' o → 0 ≤ t ∧ t ≤ 2 → Q (.inl (some (.int (zi t)))) h1') → Xv E q_m_L_distanceAgain 0 [.ref x, .int p, .int q, .ref o, .null] [] h Q by
    obtain ⟨r2, h2, e2, h3, e3, e4⟩ := K (fun r' h' => ∃ h1', (r' = .inl (some (.int (zi t))) ∧ h' = h1') ∧ Fr o 1 h1 h1' ∧ (t = 0 → q_gL h1' o (zi 0) = some (.long (x0.toInt64))) ∧ LAo h1' o ∧ 0 ≤ t ∧ t ≤ 2) (fun h1' a b c d => ⟨h1', ⟨rfl, rfl⟩, a, b, c, d⟩)
    rw [e3.1, e3.2] at e2
    exact ⟨h3, e2, e4⟩
  intro Q hQ
  refine xv (x_aload_n 1 d_L_distanceAgain_0 rfl rfl) ?_
  refine xv (x_iconst 2 d_L_distanceAgain_1 rfl) ?_
  refine xv (x_aload_n 3 d_L_distanceAgain_2 rfl rfl) ?_
  refine xv (x_iload_n 4 d_L_distanceAgain_3 rfl rfl) ?_
  refine xv (x_iload_n 5 d_L_distanceAgain_4 rfl rfl) ?_
  rcases rs_2 hs with ⟨ht, er⟩ | ⟨ht, er⟩ | ⟨ht, er⟩
  · rw [er] at hB
    refine xv (x_inv1 8 (as := [.int p, .int q]) (rest := [.int (zi 0), .ref o]) d_L_distanceAgain_5 rfl c_9_73 rfl (Nat.le_of_ble_eq_true rfl) (Nat.le_of_ble_eq_true rfl) hb (Nat.le_of_ble_eq_true rfl) (Nat.le_of_ble_eq_true rfl) rfl hB) ?_
    refine xv (x_i2l 9 d_L_distanceAgain_8 rfl) ?_
    obtain ⟨h2, w1, w2, w3, w4⟩ := la_put (x := x0.toInt64) hO
    refine xv (x_lastore 10 d_L_distanceAgain_9 rfl w1) ?_
    refine xv (x_goto 21 d_L_distanceAgain_10 rfl) ?_
    refine xv (x_iconst 22 d_L_distanceAgain_21 rfl) ?_
    refine xv_r (x_ireturn d_L_distanceAgain_22 rfl rfl) ?_
    rw [show (0 : Int) = t from ht.symm]
    exact hQ h2 w2 (fun _ => w3) w4 (by omega)
  · rw [er] at hB
    refine xv (x_invH 15 (as := [.int p, .int q]) (rest := [.int (zi 0), .ref o]) (hp := 13) d_L_distanceAgain_5 c_9_73 rfl (Nat.le_of_ble_eq_true rfl) (Nat.le_of_ble_eq_true rfl) hb (Nat.le_of_ble_eq_true rfl) (Nat.le_of_ble_eq_true rfl) rfl hB (by decide +kernel) (hst_a d_L_distanceAgain_13 (Nat.le_of_ble_eq_true rfl))) ?_
    refine xv (x_iconst 16 d_L_distanceAgain_15 rfl) ?_
    refine xv_r (x_ireturn d_L_distanceAgain_16 rfl rfl) ?_
    rw [show (1 : Int) = t from ht.symm]
    exact hQ h1 fr_rf (fun z => by omega) hO (by omega)
  · rw [er] at hB
    refine xv (x_invH 19 (as := [.int p, .int q]) (rest := [.int (zi 0), .ref o]) (hp := 17) d_L_distanceAgain_5 c_9_73 rfl (Nat.le_of_ble_eq_true rfl) (Nat.le_of_ble_eq_true rfl) hb (Nat.le_of_ble_eq_true rfl) (Nat.le_of_ble_eq_true rfl) rfl hB (by decide +kernel) (hst_a d_L_distanceAgain_17 (Nat.le_of_ble_eq_true rfl))) ?_
    refine xv (x_iconst 20 d_L_distanceAgain_19 rfl) ?_
    refine xv_r (x_ireturn d_L_distanceAgain_20 rfl rfl) ?_
    rw [show (2 : Int) = t from ht.symm]
    exact hQ h1 fr_rf (fun z => by omega) hO (by omega)
theorem H_farthest {p : Int32} {x0 : Int32} (hB : q_cl E q_m_X7_farthest [.ref x, .int p] h = some (r, h1)) (hs : Rs [xIO] r t (.int x0)) (hb : h.1 x = some (.inr (7, fs))) (hO : LAo h1 o) : Hp E q_m_L_farthest [.ref x, .int p, .ref o] h h1 o t (x0.toInt64) := by
  suffices K : ∀ Q : q_R → q_H → Prop, (∀ h1', Fr o 1 h1 h1' → (t = 0 → q_gL h1' o (zi 0) = some (.long (x0.toInt64))) → LAo h1' o → 0 ≤ t ∧ t ≤ 2 → Q (.inl (some (.int (zi t)))) h1') → Xv E q_m_L_farthest 0 [.ref x, .int p, .ref o, .null] [] h Q by
    obtain ⟨r2, h2, e2, h3, e3, e4⟩ := K (fun r' h' => ∃ h1', (r' = .inl (some (.int (zi t))) ∧ h' = h1') ∧ Fr o 1 h1 h1' ∧ (t = 0 → q_gL h1' o (zi 0) = some (.long (x0.toInt64))) ∧ LAo h1' o ∧ 0 ≤ t ∧ t ≤ 2) (fun h1' a b c d => ⟨h1', ⟨rfl, rfl⟩, a, b, c, d⟩)
    rw [e3.1, e3.2] at e2
    exact ⟨h3, e2, e4⟩
  intro Q hQ
  refine xv (x_aload_n 1 d_L_farthest_0 rfl rfl) ?_
  refine xv (x_iconst 2 d_L_farthest_1 rfl) ?_
  refine xv (x_aload_n 3 d_L_farthest_2 rfl rfl) ?_
  refine xv (x_iload_n 4 d_L_farthest_3 rfl rfl) ?_
  rcases rs_1 hs with ⟨ht, er⟩ | ⟨ht, er⟩
  · rw [er] at hB
    refine xv (x_inv1 7 (as := [.int p]) (rest := [.int (zi 0), .ref o]) d_L_farthest_4 rfl c_9_79 rfl (Nat.le_of_ble_eq_true rfl) (Nat.le_of_ble_eq_true rfl) hb (Nat.le_of_ble_eq_true rfl) (Nat.le_of_ble_eq_true rfl) rfl hB) ?_
    refine xv (x_i2l 8 d_L_farthest_7 rfl) ?_
    obtain ⟨h2, w1, w2, w3, w4⟩ := la_put (x := x0.toInt64) hO
    refine xv (x_lastore 9 d_L_farthest_8 rfl w1) ?_
    refine xv (x_goto 15 d_L_farthest_9 rfl) ?_
    refine xv (x_iconst 16 d_L_farthest_15 rfl) ?_
    refine xv_r (x_ireturn d_L_farthest_16 rfl rfl) ?_
    rw [show (0 : Int) = t from ht.symm]
    exact hQ h2 w2 (fun _ => w3) w4 (by omega)
  · rw [er] at hB
    refine xv (x_invH 13 (as := [.int p]) (rest := [.int (zi 0), .ref o]) (hp := 12) d_L_farthest_4 c_9_79 rfl (Nat.le_of_ble_eq_true rfl) (Nat.le_of_ble_eq_true rfl) hb (Nat.le_of_ble_eq_true rfl) (Nat.le_of_ble_eq_true rfl) rfl hB (by decide +kernel) (hst_n d_L_farthest_12 (Nat.le_of_ble_eq_true rfl))) ?_
    refine xv (x_iconst 14 d_L_farthest_13 rfl) ?_
    refine xv_r (x_ireturn d_L_farthest_14 rfl rfl) ?_
    rw [show (1 : Int) = t from ht.symm]
    exact hQ h1 fr_rf (fun z => by omega) hO (by omega)
theorem H_lateness {x0 : UInt64} (hB : q_cl E q_m_X7_lateness [.ref x] h = some (r, h1)) (hs : Rs [xAE] r t (.double x0)) (hb : h.1 x = some (.inr (7, fs))) (hO : DAo h1 o) : HpD E q_m_L_lateness [.ref x, .ref o] h h1 o t (x0) := by
  suffices K : ∀ Q : q_R → q_H → Prop, (∀ h1', Fr o 1 h1 h1' → (t = 0 → q_gD h1' o (zi 0) = some (.double (x0))) → DAo h1' o → 0 ≤ t ∧ t ≤ 2 → Q (.inl (some (.int (zi t)))) h1') → Xv E q_m_L_lateness 0 [.ref x, .ref o, .null] [] h Q by
    obtain ⟨r2, h2, e2, h3, e3, e4⟩ := K (fun r' h' => ∃ h1', (r' = .inl (some (.int (zi t))) ∧ h' = h1') ∧ Fr o 1 h1 h1' ∧ (t = 0 → q_gD h1' o (zi 0) = some (.double (x0))) ∧ DAo h1' o ∧ 0 ≤ t ∧ t ≤ 2) (fun h1' a b c d => ⟨h1', ⟨rfl, rfl⟩, a, b, c, d⟩)
    rw [e3.1, e3.2] at e2
    exact ⟨h3, e2, e4⟩
  intro Q hQ
  refine xv (x_aload_n 1 d_L_lateness_0 rfl rfl) ?_
  refine xv (x_iconst 2 d_L_lateness_1 rfl) ?_
  refine xv (x_aload_n 3 d_L_lateness_2 rfl rfl) ?_
  rcases rs_1 hs with ⟨ht, er⟩ | ⟨ht, er⟩
  · rw [er] at hB
    refine xv (x_inv1 6 (as := []) (rest := [.int (zi 0), .ref o]) d_L_lateness_3 rfl c_9_118 rfl (Nat.le_of_ble_eq_true rfl) (Nat.le_of_ble_eq_true rfl) hb (Nat.le_of_ble_eq_true rfl) (Nat.le_of_ble_eq_true rfl) rfl hB) ?_
    obtain ⟨h2, w1, w2, w3, w4⟩ := da_put (x := x0) hO
    refine xv (x_dastore 7 d_L_lateness_6 rfl w1) ?_
    refine xv (x_goto 13 d_L_lateness_7 rfl) ?_
    refine xv (x_iconst 14 d_L_lateness_13 rfl) ?_
    refine xv_r (x_ireturn d_L_lateness_14 rfl rfl) ?_
    rw [show (0 : Int) = t from ht.symm]
    exact hQ h2 w2 (fun _ => w3) w4 (by omega)
  · rw [er] at hB
    refine xv (x_invH 11 (as := []) (rest := [.int (zi 0), .ref o]) (hp := 10) d_L_lateness_3 c_9_118 rfl (Nat.le_of_ble_eq_true rfl) (Nat.le_of_ble_eq_true rfl) hb (Nat.le_of_ble_eq_true rfl) (Nat.le_of_ble_eq_true rfl) rfl hB (by decide +kernel) (hst_n d_L_lateness_10 (Nat.le_of_ble_eq_true rfl))) ?_
    refine xv (x_iconst 12 d_L_lateness_11 rfl) ?_
    refine xv_r (x_ireturn d_L_lateness_12 rfl rfl) ?_
    rw [show (1 : Int) = t from ht.symm]
    exact hQ h1 fr_rf (fun z => by omega) hO (by omega)
theorem H_layout {x0 : Int32} (hB : q_cl E q_m_X7_layout [.ref x] h = some (r, h1)) (hs : Rs [xIA] r t (.int x0)) (hb : h.1 x = some (.inr (7, fs))) (hO : LAo h1 o) : Hp E q_m_L_layout [.ref x, .ref o] h h1 o t (x0.toInt64) := by
  suffices K : ∀ Q : q_R → q_H → Prop, (∀ h1', Fr o 1 h1 h1' → (t = 0 → q_gL h1' o (zi 0) = some (.long (x0.toInt64))) → LAo h1' o → 0 ≤ t ∧ t ≤ 2 → Q (.inl (some (.int (zi t)))) h1') → Xv E q_m_L_layout 0 [.ref x, .ref o, .null] [] h Q by
    obtain ⟨r2, h2, e2, h3, e3, e4⟩ := K (fun r' h' => ∃ h1', (r' = .inl (some (.int (zi t))) ∧ h' = h1') ∧ Fr o 1 h1 h1' ∧ (t = 0 → q_gL h1' o (zi 0) = some (.long (x0.toInt64))) ∧ LAo h1' o ∧ 0 ≤ t ∧ t ≤ 2) (fun h1' a b c d => ⟨h1', ⟨rfl, rfl⟩, a, b, c, d⟩)
    rw [e3.1, e3.2] at e2
    exact ⟨h3, e2, e4⟩
  intro Q hQ
  refine xv (x_aload_n 1 d_L_layout_0 rfl rfl) ?_
  refine xv (x_iconst 2 d_L_layout_1 rfl) ?_
  refine xv (x_aload_n 3 d_L_layout_2 rfl rfl) ?_
  rcases rs_1 hs with ⟨ht, er⟩ | ⟨ht, er⟩
  · rw [er] at hB
    refine xv (x_inv1 6 (as := []) (rest := [.int (zi 0), .ref o]) d_L_layout_3 rfl c_9_15 rfl (Nat.le_of_ble_eq_true rfl) (Nat.le_of_ble_eq_true rfl) hb (Nat.le_of_ble_eq_true rfl) (Nat.le_of_ble_eq_true rfl) rfl hB) ?_
    refine xv (x_i2l 7 d_L_layout_6 rfl) ?_
    obtain ⟨h2, w1, w2, w3, w4⟩ := la_put (x := x0.toInt64) hO
    refine xv (x_lastore 8 d_L_layout_7 rfl w1) ?_
    refine xv (x_goto 14 d_L_layout_8 rfl) ?_
    refine xv (x_iconst 15 d_L_layout_14 rfl) ?_
    refine xv_r (x_ireturn d_L_layout_15 rfl rfl) ?_
    rw [show (0 : Int) = t from ht.symm]
    exact hQ h2 w2 (fun _ => w3) w4 (by omega)
  · rw [er] at hB
    refine xv (x_invH 12 (as := []) (rest := [.int (zi 0), .ref o]) (hp := 11) d_L_layout_3 c_9_15 rfl (Nat.le_of_ble_eq_true rfl) (Nat.le_of_ble_eq_true rfl) hb (Nat.le_of_ble_eq_true rfl) (Nat.le_of_ble_eq_true rfl) rfl hB (by decide +kernel) (hst_n d_L_layout_11 (Nat.le_of_ble_eq_true rfl))) ?_
    refine xv (x_iconst 13 d_L_layout_12 rfl) ?_
    refine xv_r (x_ireturn d_L_layout_13 rfl rfl) ?_
    rw [show (1 : Int) = t from ht.symm]
    exact hQ h1 fr_rf (fun z => by omega) hO (by omega)
theorem H_letter {p : Int32} {x0 : Int32} (hB : q_cl E q_m_X7_letter [.ref x, .int p] h = some (r, h1)) (hs : Rs [xIO] r t (.int x0)) (hb : h.1 x = some (.inr (7, fs))) (hO : LAo h1 o) : Hp E q_m_L_letter [.ref x, .int p, .ref o] h h1 o t (x0.toInt64) := by
  suffices K : ∀ Q : q_R → q_H → Prop, (∀ h1', Fr o 1 h1 h1' → (t = 0 → q_gL h1' o (zi 0) = some (.long (x0.toInt64))) → LAo h1' o → 0 ≤ t ∧ t ≤ 2 → Q (.inl (some (.int (zi t)))) h1') → Xv E q_m_L_letter 0 [.ref x, .int p, .ref o, .null] [] h Q by
    obtain ⟨r2, h2, e2, h3, e3, e4⟩ := K (fun r' h' => ∃ h1', (r' = .inl (some (.int (zi t))) ∧ h' = h1') ∧ Fr o 1 h1 h1' ∧ (t = 0 → q_gL h1' o (zi 0) = some (.long (x0.toInt64))) ∧ LAo h1' o ∧ 0 ≤ t ∧ t ≤ 2) (fun h1' a b c d => ⟨h1', ⟨rfl, rfl⟩, a, b, c, d⟩)
    rw [e3.1, e3.2] at e2
    exact ⟨h3, e2, e4⟩
  intro Q hQ
  refine xv (x_aload_n 1 d_L_letter_0 rfl rfl) ?_
  refine xv (x_iconst 2 d_L_letter_1 rfl) ?_
  refine xv (x_aload_n 3 d_L_letter_2 rfl rfl) ?_
  refine xv (x_iload_n 4 d_L_letter_3 rfl rfl) ?_
  rcases rs_1 hs with ⟨ht, er⟩ | ⟨ht, er⟩
  · rw [er] at hB
    refine xv (x_inv1 7 (as := [.int p]) (rest := [.int (zi 0), .ref o]) d_L_letter_4 rfl c_9_64 rfl (Nat.le_of_ble_eq_true rfl) (Nat.le_of_ble_eq_true rfl) hb (Nat.le_of_ble_eq_true rfl) (Nat.le_of_ble_eq_true rfl) rfl hB) ?_
    refine xv (x_i2l 8 d_L_letter_7 rfl) ?_
    obtain ⟨h2, w1, w2, w3, w4⟩ := la_put (x := x0.toInt64) hO
    refine xv (x_lastore 9 d_L_letter_8 rfl w1) ?_
    refine xv (x_goto 15 d_L_letter_9 rfl) ?_
    refine xv (x_iconst 16 d_L_letter_15 rfl) ?_
    refine xv_r (x_ireturn d_L_letter_16 rfl rfl) ?_
    rw [show (0 : Int) = t from ht.symm]
    exact hQ h2 w2 (fun _ => w3) w4 (by omega)
  · rw [er] at hB
    refine xv (x_invH 13 (as := [.int p]) (rest := [.int (zi 0), .ref o]) (hp := 12) d_L_letter_4 c_9_64 rfl (Nat.le_of_ble_eq_true rfl) (Nat.le_of_ble_eq_true rfl) hb (Nat.le_of_ble_eq_true rfl) (Nat.le_of_ble_eq_true rfl) rfl hB (by decide +kernel) (hst_n d_L_letter_12 (Nat.le_of_ble_eq_true rfl))) ?_
    refine xv (x_iconst 14 d_L_letter_13 rfl) ?_
    refine xv_r (x_ireturn d_L_letter_14 rfl rfl) ?_
    rw [show (1 : Int) = t from ht.symm]
    exact hQ h1 fr_rf (fun z => by omega) hO (by omega)
theorem H_line {p q : Int32} {x0 : Int32} (hB : q_cl E q_m_X7_line [.ref x, .int p, .int q] h = some (r, h1)) (hs : Rs [xIO] r t (.int x0)) (hb : h.1 x = some (.inr (7, fs))) (hO : LAo h1 o) : Hp E q_m_L_line [.ref x, .int p, .int q, .ref o] h h1 o t (x0.toInt64) := by
  suffices K : ∀ Q : q_R → q_H → Prop, (∀ h1', Fr o 1 h1 h1' → (t = 0 → q_gL h1' o (zi 0) = some (.long (x0.toInt64))) → LAo h1' o → 0 ≤ t ∧ t ≤ 2 → Q (.inl (some (.int (zi t)))) h1') → Xv E q_m_L_line 0 [.ref x, .int p, .int q, .ref o, .null] [] h Q by
    obtain ⟨r2, h2, e2, h3, e3, e4⟩ := K (fun r' h' => ∃ h1', (r' = .inl (some (.int (zi t))) ∧ h' = h1') ∧ Fr o 1 h1 h1' ∧ (t = 0 → q_gL h1' o (zi 0) = some (.long (x0.toInt64))) ∧ LAo h1' o ∧ 0 ≤ t ∧ t ≤ 2) (fun h1' a b c d => ⟨h1', ⟨rfl, rfl⟩, a, b, c, d⟩)
    rw [e3.1, e3.2] at e2
    exact ⟨h3, e2, e4⟩
  intro Q hQ
  refine xv (x_aload_n 1 d_L_line_0 rfl rfl) ?_
  refine xv (x_iconst 2 d_L_line_1 rfl) ?_
  refine xv (x_aload_n 3 d_L_line_2 rfl rfl) ?_
  refine xv (x_iload_n 4 d_L_line_3 rfl rfl) ?_
  refine xv (x_iload_n 5 d_L_line_4 rfl rfl) ?_
  rcases rs_1 hs with ⟨ht, er⟩ | ⟨ht, er⟩
  · rw [er] at hB
    refine xv (x_inv1 8 (as := [.int p, .int q]) (rest := [.int (zi 0), .ref o]) d_L_line_5 rfl c_9_100 rfl (Nat.le_of_ble_eq_true rfl) (Nat.le_of_ble_eq_true rfl) hb (Nat.le_of_ble_eq_true rfl) (Nat.le_of_ble_eq_true rfl) rfl hB) ?_
    refine xv (x_i2l 9 d_L_line_8 rfl) ?_
    obtain ⟨h2, w1, w2, w3, w4⟩ := la_put (x := x0.toInt64) hO
    refine xv (x_lastore 10 d_L_line_9 rfl w1) ?_
    refine xv (x_goto 17 d_L_line_10 rfl) ?_
    refine xv (x_iconst 18 d_L_line_17 rfl) ?_
    refine xv_r (x_ireturn d_L_line_18 rfl rfl) ?_
    rw [show (0 : Int) = t from ht.symm]
    exact hQ h2 w2 (fun _ => w3) w4 (by omega)
  · rw [er] at hB
    refine xv (x_invH 15 (as := [.int p, .int q]) (rest := [.int (zi 0), .ref o]) (hp := 13) d_L_line_5 c_9_100 rfl (Nat.le_of_ble_eq_true rfl) (Nat.le_of_ble_eq_true rfl) hb (Nat.le_of_ble_eq_true rfl) (Nat.le_of_ble_eq_true rfl) rfl hB (by decide +kernel) (hst_a d_L_line_13 (Nat.le_of_ble_eq_true rfl))) ?_
    refine xv (x_iconst 16 d_L_line_15 rfl) ?_
    refine xv_r (x_ireturn d_L_line_16 rfl rfl) ?_
    rw [show (1 : Int) = t from ht.symm]
    exact hQ h1 fr_rf (fun z => by omega) hO (by omega)
theorem H_loaded {x0 : UInt32} (hn : FP.f2d x0 &&& 0x7fffffffffffffff ≤ 0x7ff0000000000000) (hB : q_cl E q_m_X7_loaded [.ref x] h = some (r, h1)) (hs : Rs [xAE] r t (.float x0)) (hb : h.1 x = some (.inr (7, fs))) (hO : DAo h1 o) : HpD E q_m_L_loaded [.ref x, .ref o] h h1 o t (FP.f2d x0) := by
  suffices K : ∀ Q : q_R → q_H → Prop, (∀ h1', Fr o 1 h1 h1' → (t = 0 → q_gD h1' o (zi 0) = some (.double (FP.f2d x0))) → DAo h1' o → 0 ≤ t ∧ t ≤ 2 → Q (.inl (some (.int (zi t)))) h1') → Xv E q_m_L_loaded 0 [.ref x, .ref o, .null] [] h Q by
    obtain ⟨r2, h2, e2, h3, e3, e4⟩ := K (fun r' h' => ∃ h1', (r' = .inl (some (.int (zi t))) ∧ h' = h1') ∧ Fr o 1 h1 h1' ∧ (t = 0 → q_gD h1' o (zi 0) = some (.double (FP.f2d x0))) ∧ DAo h1' o ∧ 0 ≤ t ∧ t ≤ 2) (fun h1' a b c d => ⟨h1', ⟨rfl, rfl⟩, a, b, c, d⟩)
    rw [e3.1, e3.2] at e2
    exact ⟨h3, e2, e4⟩
  intro Q hQ
  refine xv (x_aload_n 1 d_L_loaded_0 rfl rfl) ?_
  refine xv (x_iconst 2 d_L_loaded_1 rfl) ?_
  refine xv (x_aload_n 3 d_L_loaded_2 rfl rfl) ?_
  rcases rs_1 hs with ⟨ht, er⟩ | ⟨ht, er⟩
  · rw [er] at hB
    refine xv (x_inv1 6 (as := []) (rest := [.int (zi 0), .ref o]) d_L_loaded_3 rfl c_9_112 rfl (Nat.le_of_ble_eq_true rfl) (Nat.le_of_ble_eq_true rfl) hb (Nat.le_of_ble_eq_true rfl) (Nat.le_of_ble_eq_true rfl) rfl hB) ?_
    refine xv (x_f2d 7 d_L_loaded_6 rfl hn) ?_
    obtain ⟨h2, w1, w2, w3, w4⟩ := da_put (x := FP.f2d x0) hO
    refine xv (x_dastore 8 d_L_loaded_7 rfl w1) ?_
    refine xv (x_goto 14 d_L_loaded_8 rfl) ?_
    refine xv (x_iconst 15 d_L_loaded_14 rfl) ?_
    refine xv_r (x_ireturn d_L_loaded_15 rfl rfl) ?_
    rw [show (0 : Int) = t from ht.symm]
    exact hQ h2 w2 (fun _ => w3) w4 (by omega)
  · rw [er] at hB
    refine xv (x_invH 12 (as := []) (rest := [.int (zi 0), .ref o]) (hp := 11) d_L_loaded_3 c_9_112 rfl (Nat.le_of_ble_eq_true rfl) (Nat.le_of_ble_eq_true rfl) hb (Nat.le_of_ble_eq_true rfl) (Nat.le_of_ble_eq_true rfl) rfl hB (by decide +kernel) (hst_n d_L_loaded_11 (Nat.le_of_ble_eq_true rfl))) ?_
    refine xv (x_iconst 13 d_L_loaded_12 rfl) ?_
    refine xv_r (x_ireturn d_L_loaded_13 rfl rfl) ?_
    rw [show (1 : Int) = t from ht.symm]
    exact hQ h1 fr_rf (fun z => by omega) hO (by omega)
theorem H_open {p : Int32} {x0 : Int32} (hB : q_cl E q_m_X7_open [.ref x, .int p] h = some (r, h1)) (hs : Rs [xUO] r t (.int x0)) (hb : h.1 x = some (.inr (7, fs))) (hO : LAo h1 o) : Hp E q_m_L_open [.ref x, .int p, .ref o] h h1 o t (x0.toInt64) := by
  suffices K : ∀ Q : q_R → q_H → Prop, (∀ h1', Fr o 1 h1 h1' → (t = 0 → q_gL h1' o (zi 0) = some (.long (x0.toInt64))) → LAo h1' o → 0 ≤ t ∧ t ≤ 2 → Q (.inl (some (.int (zi t)))) h1') → Xv E q_m_L_open 0 [.ref x, .int p, .ref o, .null] [] h Q by
    obtain ⟨r2, h2, e2, h3, e3, e4⟩ := K (fun r' h' => ∃ h1', (r' = .inl (some (.int (zi t))) ∧ h' = h1') ∧ Fr o 1 h1 h1' ∧ (t = 0 → q_gL h1' o (zi 0) = some (.long (x0.toInt64))) ∧ LAo h1' o ∧ 0 ≤ t ∧ t ≤ 2) (fun h1' a b c d => ⟨h1', ⟨rfl, rfl⟩, a, b, c, d⟩)
    rw [e3.1, e3.2] at e2
    exact ⟨h3, e2, e4⟩
  intro Q hQ
  refine xv (x_aload_n 1 d_L_open_0 rfl rfl) ?_
  refine xv (x_iconst 2 d_L_open_1 rfl) ?_
  refine xv (x_aload_n 3 d_L_open_2 rfl rfl) ?_
  refine xv (x_iload_n 4 d_L_open_3 rfl rfl) ?_
  rcases rs_1 hs with ⟨ht, er⟩ | ⟨ht, er⟩
  · rw [er] at hB
    refine xv (x_inv1 7 (as := [.int p]) (rest := [.int (zi 0), .ref o]) d_L_open_4 rfl c_9_44 rfl (Nat.le_of_ble_eq_true rfl) (Nat.le_of_ble_eq_true rfl) hb (Nat.le_of_ble_eq_true rfl) (Nat.le_of_ble_eq_true rfl) rfl hB) ?_
    refine xv (x_i2l 8 d_L_open_7 rfl) ?_
    obtain ⟨h2, w1, w2, w3, w4⟩ := la_put (x := x0.toInt64) hO
    refine xv (x_lastore 9 d_L_open_8 rfl w1) ?_
    refine xv (x_goto 15 d_L_open_9 rfl) ?_
    refine xv (x_iconst 16 d_L_open_15 rfl) ?_
    refine xv_r (x_ireturn d_L_open_16 rfl rfl) ?_
    rw [show (0 : Int) = t from ht.symm]
    exact hQ h2 w2 (fun _ => w3) w4 (by omega)
  · rw [er] at hB
    refine xv (x_invH 13 (as := [.int p]) (rest := [.int (zi 0), .ref o]) (hp := 12) d_L_open_4 c_9_44 rfl (Nat.le_of_ble_eq_true rfl) (Nat.le_of_ble_eq_true rfl) hb (Nat.le_of_ble_eq_true rfl) (Nat.le_of_ble_eq_true rfl) rfl hB (by decide +kernel) (hst_n d_L_open_12 (Nat.le_of_ble_eq_true rfl))) ?_
    refine xv (x_iconst 14 d_L_open_13 rfl) ?_
    refine xv_r (x_ireturn d_L_open_14 rfl rfl) ?_
    rw [show (1 : Int) = t from ht.symm]
    exact hQ h1 fr_rf (fun z => by omega) hO (by omega)
theorem H_order {p q r_ s : Int32} {x0 : Int32} (hB : q_cl E q_m_X7_order [.ref x, .int p, .int q, .int r_, .int s] h = some (r, h1)) (hs : Rs [xUO] r t (.int x0)) (hb : h.1 x = some (.inr (7, fs))) (hO : LAo h1 o) : Hp E q_m_L_order [.ref x, .int p, .int q, .int r_, .int s, .ref o] h h1 o t (x0.toInt64) := by
  suffices K : ∀ Q : q_R → q_H → Prop, (∀ h1', Fr o 1 h1 h1' → (t = 0 → q_gL h1' o (zi 0) = some (.long (x0.toInt64))) → LAo h1' o → 0 ≤ t ∧ t ≤ 2 → Q (.inl (some (.int (zi t)))) h1') → Xv E q_m_L_order 0 [.ref x, .int p, .int q, .int r_, .int s, .ref o, .null] [] h Q by
    obtain ⟨r2, h2, e2, h3, e3, e4⟩ := K (fun r' h' => ∃ h1', (r' = .inl (some (.int (zi t))) ∧ h' = h1') ∧ Fr o 1 h1 h1' ∧ (t = 0 → q_gL h1' o (zi 0) = some (.long (x0.toInt64))) ∧ LAo h1' o ∧ 0 ≤ t ∧ t ≤ 2) (fun h1' a b c d => ⟨h1', ⟨rfl, rfl⟩, a, b, c, d⟩)
    rw [e3.1, e3.2] at e2
    exact ⟨h3, e2, e4⟩
  intro Q hQ
  refine xv (x_aload 2 d_L_order_0 rfl rfl) ?_
  refine xv (x_iconst 3 d_L_order_2 rfl) ?_
  refine xv (x_aload_n 4 d_L_order_3 rfl rfl) ?_
  refine xv (x_iload_n 5 d_L_order_4 rfl rfl) ?_
  refine xv (x_iload_n 6 d_L_order_5 rfl rfl) ?_
  refine xv (x_iload_n 7 d_L_order_6 rfl rfl) ?_
  refine xv (x_iload 9 d_L_order_7 rfl rfl) ?_
  rcases rs_1 hs with ⟨ht, er⟩ | ⟨ht, er⟩
  · rw [er] at hB
    refine xv (x_inv1 12 (as := [.int p, .int q, .int r_, .int s]) (rest := [.int (zi 0), .ref o]) d_L_order_9 rfl c_9_31 rfl (Nat.le_of_ble_eq_true rfl) (Nat.le_of_ble_eq_true rfl) hb (Nat.le_of_ble_eq_true rfl) (Nat.le_of_ble_eq_true rfl) rfl hB) ?_
    refine xv (x_i2l 13 d_L_order_12 rfl) ?_
    obtain ⟨h2, w1, w2, w3, w4⟩ := la_put (x := x0.toInt64) hO
    refine xv (x_lastore 14 d_L_order_13 rfl w1) ?_
    refine xv (x_goto 21 d_L_order_14 rfl) ?_
    refine xv (x_iconst 22 d_L_order_21 rfl) ?_
    refine xv_r (x_ireturn d_L_order_22 rfl rfl) ?_
    rw [show (0 : Int) = t from ht.symm]
    exact hQ h2 w2 (fun _ => w3) w4 (by omega)
  · rw [er] at hB
    refine xv (x_invH 19 (as := [.int p, .int q, .int r_, .int s]) (rest := [.int (zi 0), .ref o]) (hp := 17) d_L_order_9 c_9_31 rfl (Nat.le_of_ble_eq_true rfl) (Nat.le_of_ble_eq_true rfl) hb (Nat.le_of_ble_eq_true rfl) (Nat.le_of_ble_eq_true rfl) rfl hB (by decide +kernel) (hst_a d_L_order_17 (Nat.le_of_ble_eq_true rfl))) ?_
    refine xv (x_iconst 20 d_L_order_19 rfl) ?_
    refine xv_r (x_ireturn d_L_order_20 rfl rfl) ?_
    rw [show (1 : Int) = t from ht.symm]
    exact hQ h1 fr_rf (fun z => by omega) hO (by omega)
theorem H_orderOf {p q : Int32} {x0 : Int32} (hB : q_cl E q_m_X7_orderOf [.ref x, .int p, .int q] h = some (r, h1)) (hs : Rs [xIO, xIA] r t (.int x0)) (hb : h.1 x = some (.inr (7, fs))) (hO : LAo h1 o) : Hp E q_m_L_orderOf [.ref x, .int p, .int q, .ref o] h h1 o t (x0.toInt64) := by
  suffices K : ∀ Q : q_R → q_H → Prop, (∀ h1', Fr o 1 h1 h1' → (t = 0 → q_gL h1' o (zi 0) = some (.long (x0.toInt64))) → LAo h1' o → 0 ≤ t ∧ t ≤ 2 → Q (.inl (some (.int (zi t)))) h1') → Xv E q_m_L_orderOf 0 [.ref x, .int p, .int q, .ref o, .null] [] h Q by
    obtain ⟨r2, h2, e2, h3, e3, e4⟩ := K (fun r' h' => ∃ h1', (r' = .inl (some (.int (zi t))) ∧ h' = h1') ∧ Fr o 1 h1 h1' ∧ (t = 0 → q_gL h1' o (zi 0) = some (.long (x0.toInt64))) ∧ LAo h1' o ∧ 0 ≤ t ∧ t ≤ 2) (fun h1' a b c d => ⟨h1', ⟨rfl, rfl⟩, a, b, c, d⟩)
    rw [e3.1, e3.2] at e2
    exact ⟨h3, e2, e4⟩
  intro Q hQ
  refine xv (x_aload_n 1 d_L_orderOf_0 rfl rfl) ?_
  refine xv (x_iconst 2 d_L_orderOf_1 rfl) ?_
  refine xv (x_aload_n 3 d_L_orderOf_2 rfl rfl) ?_
  refine xv (x_iload_n 4 d_L_orderOf_3 rfl rfl) ?_
  refine xv (x_iload_n 5 d_L_orderOf_4 rfl rfl) ?_
  rcases rs_2 hs with ⟨ht, er⟩ | ⟨ht, er⟩ | ⟨ht, er⟩
  · rw [er] at hB
    refine xv (x_inv1 8 (as := [.int p, .int q]) (rest := [.int (zi 0), .ref o]) d_L_orderOf_5 rfl c_9_97 rfl (Nat.le_of_ble_eq_true rfl) (Nat.le_of_ble_eq_true rfl) hb (Nat.le_of_ble_eq_true rfl) (Nat.le_of_ble_eq_true rfl) rfl hB) ?_
    refine xv (x_i2l 9 d_L_orderOf_8 rfl) ?_
    obtain ⟨h2, w1, w2, w3, w4⟩ := la_put (x := x0.toInt64) hO
    refine xv (x_lastore 10 d_L_orderOf_9 rfl w1) ?_
    refine xv (x_goto 21 d_L_orderOf_10 rfl) ?_
    refine xv (x_iconst 22 d_L_orderOf_21 rfl) ?_
    refine xv_r (x_ireturn d_L_orderOf_22 rfl rfl) ?_
    rw [show (0 : Int) = t from ht.symm]
    exact hQ h2 w2 (fun _ => w3) w4 (by omega)
  · rw [er] at hB
    refine xv (x_invH 15 (as := [.int p, .int q]) (rest := [.int (zi 0), .ref o]) (hp := 13) d_L_orderOf_5 c_9_97 rfl (Nat.le_of_ble_eq_true rfl) (Nat.le_of_ble_eq_true rfl) hb (Nat.le_of_ble_eq_true rfl) (Nat.le_of_ble_eq_true rfl) rfl hB (by decide +kernel) (hst_a d_L_orderOf_13 (Nat.le_of_ble_eq_true rfl))) ?_
    refine xv (x_iconst 16 d_L_orderOf_15 rfl) ?_
    refine xv_r (x_ireturn d_L_orderOf_16 rfl rfl) ?_
    rw [show (1 : Int) = t from ht.symm]
    exact hQ h1 fr_rf (fun z => by omega) hO (by omega)
  · rw [er] at hB
    refine xv (x_invH 19 (as := [.int p, .int q]) (rest := [.int (zi 0), .ref o]) (hp := 17) d_L_orderOf_5 c_9_97 rfl (Nat.le_of_ble_eq_true rfl) (Nat.le_of_ble_eq_true rfl) hb (Nat.le_of_ble_eq_true rfl) (Nat.le_of_ble_eq_true rfl) rfl hB (by decide +kernel) (hst_a d_L_orderOf_17 (Nat.le_of_ble_eq_true rfl))) ?_
    refine xv (x_iconst 20 d_L_orderOf_19 rfl) ?_
    refine xv_r (x_ireturn d_L_orderOf_20 rfl rfl) ?_
    rw [show (2 : Int) = t from ht.symm]
    exact hQ h1 fr_rf (fun z => by omega) hO (by omega)
theorem H_pass {p : Int32} {x0 : Int32} (hB : q_cl E q_m_X7_pass [.ref x, .int p] h = some (r, h1)) (hs : Rs [xUO] r t (.int x0)) (hb : h.1 x = some (.inr (7, fs))) (hO : LAo h1 o) : Hp E q_m_L_pass [.ref x, .int p, .ref o] h h1 o t (x0.toInt64) := by
  suffices K : ∀ Q : q_R → q_H → Prop, (∀ h1', Fr o 1 h1 h1' → (t = 0 → q_gL h1' o (zi 0) = some (.long (x0.toInt64))) → LAo h1' o → 0 ≤ t ∧ t ≤ 2 → Q (.inl (some (.int (zi t)))) h1') → Xv E q_m_L_pass 0 [.ref x, .int p, .ref o, .null] [] h Q by
    obtain ⟨r2, h2, e2, h3, e3, e4⟩ := K (fun r' h' => ∃ h1', (r' = .inl (some (.int (zi t))) ∧ h' = h1') ∧ Fr o 1 h1 h1' ∧ (t = 0 → q_gL h1' o (zi 0) = some (.long (x0.toInt64))) ∧ LAo h1' o ∧ 0 ≤ t ∧ t ≤ 2) (fun h1' a b c d => ⟨h1', ⟨rfl, rfl⟩, a, b, c, d⟩)
    rw [e3.1, e3.2] at e2
    exact ⟨h3, e2, e4⟩
  intro Q hQ
  refine xv (x_aload_n 1 d_L_pass_0 rfl rfl) ?_
  refine xv (x_iconst 2 d_L_pass_1 rfl) ?_
  refine xv (x_aload_n 3 d_L_pass_2 rfl rfl) ?_
  refine xv (x_iload_n 4 d_L_pass_3 rfl rfl) ?_
  rcases rs_1 hs with ⟨ht, er⟩ | ⟨ht, er⟩
  · rw [er] at hB
    refine xv (x_inv1 7 (as := [.int p]) (rest := [.int (zi 0), .ref o]) d_L_pass_4 rfl c_9_56 rfl (Nat.le_of_ble_eq_true rfl) (Nat.le_of_ble_eq_true rfl) hb (Nat.le_of_ble_eq_true rfl) (Nat.le_of_ble_eq_true rfl) rfl hB) ?_
    refine xv (x_i2l 8 d_L_pass_7 rfl) ?_
    obtain ⟨h2, w1, w2, w3, w4⟩ := la_put (x := x0.toInt64) hO
    refine xv (x_lastore 9 d_L_pass_8 rfl w1) ?_
    refine xv (x_goto 15 d_L_pass_9 rfl) ?_
    refine xv (x_iconst 16 d_L_pass_15 rfl) ?_
    refine xv_r (x_ireturn d_L_pass_16 rfl rfl) ?_
    rw [show (0 : Int) = t from ht.symm]
    exact hQ h2 w2 (fun _ => w3) w4 (by omega)
  · rw [er] at hB
    refine xv (x_invH 13 (as := [.int p]) (rest := [.int (zi 0), .ref o]) (hp := 12) d_L_pass_4 c_9_56 rfl (Nat.le_of_ble_eq_true rfl) (Nat.le_of_ble_eq_true rfl) hb (Nat.le_of_ble_eq_true rfl) (Nat.le_of_ble_eq_true rfl) rfl hB (by decide +kernel) (hst_n d_L_pass_12 (Nat.le_of_ble_eq_true rfl))) ?_
    refine xv (x_iconst 14 d_L_pass_13 rfl) ?_
    refine xv_r (x_ireturn d_L_pass_14 rfl rfl) ?_
    rw [show (1 : Int) = t from ht.symm]
    exact hQ h1 fr_rf (fun z => by omega) hO (by omega)
theorem H_plan {p q : Int32} {x0 : Int32} (hB : q_cl E q_m_X7_plan [.ref x, .int p, .int q] h = some (r, h1)) (hs : Rs [xUO] r t (.int x0)) (hb : h.1 x = some (.inr (7, fs))) (hO : LAo h1 o) : Hp E q_m_L_plan [.ref x, .int p, .int q, .ref o] h h1 o t (x0.toInt64) := by
  suffices K : ∀ Q : q_R → q_H → Prop, (∀ h1', Fr o 1 h1 h1' → (t = 0 → q_gL h1' o (zi 0) = some (.long (x0.toInt64))) → LAo h1' o → 0 ≤ t ∧ t ≤ 2 → Q (.inl (some (.int (zi t)))) h1') → Xv E q_m_L_plan 0 [.ref x, .int p, .int q, .ref o, .null] [] h Q by
    obtain ⟨r2, h2, e2, h3, e3, e4⟩ := K (fun r' h' => ∃ h1', (r' = .inl (some (.int (zi t))) ∧ h' = h1') ∧ Fr o 1 h1 h1' ∧ (t = 0 → q_gL h1' o (zi 0) = some (.long (x0.toInt64))) ∧ LAo h1' o ∧ 0 ≤ t ∧ t ≤ 2) (fun h1' a b c d => ⟨h1', ⟨rfl, rfl⟩, a, b, c, d⟩)
    rw [e3.1, e3.2] at e2
    exact ⟨h3, e2, e4⟩
  intro Q hQ
  refine xv (x_aload_n 1 d_L_plan_0 rfl rfl) ?_
  refine xv (x_iconst 2 d_L_plan_1 rfl) ?_
  refine xv (x_aload_n 3 d_L_plan_2 rfl rfl) ?_
  refine xv (x_iload_n 4 d_L_plan_3 rfl rfl) ?_
  refine xv (x_iload_n 5 d_L_plan_4 rfl rfl) ?_
  rcases rs_1 hs with ⟨ht, er⟩ | ⟨ht, er⟩
  · rw [er] at hB
    refine xv (x_inv1 8 (as := [.int p, .int q]) (rest := [.int (zi 0), .ref o]) d_L_plan_5 rfl c_9_50 rfl (Nat.le_of_ble_eq_true rfl) (Nat.le_of_ble_eq_true rfl) hb (Nat.le_of_ble_eq_true rfl) (Nat.le_of_ble_eq_true rfl) rfl hB) ?_
    refine xv (x_i2l 9 d_L_plan_8 rfl) ?_
    obtain ⟨h2, w1, w2, w3, w4⟩ := la_put (x := x0.toInt64) hO
    refine xv (x_lastore 10 d_L_plan_9 rfl w1) ?_
    refine xv (x_goto 17 d_L_plan_10 rfl) ?_
    refine xv (x_iconst 18 d_L_plan_17 rfl) ?_
    refine xv_r (x_ireturn d_L_plan_18 rfl rfl) ?_
    rw [show (0 : Int) = t from ht.symm]
    exact hQ h2 w2 (fun _ => w3) w4 (by omega)
  · rw [er] at hB
    refine xv (x_invH 15 (as := [.int p, .int q]) (rest := [.int (zi 0), .ref o]) (hp := 13) d_L_plan_5 c_9_50 rfl (Nat.le_of_ble_eq_true rfl) (Nat.le_of_ble_eq_true rfl) hb (Nat.le_of_ble_eq_true rfl) (Nat.le_of_ble_eq_true rfl) rfl hB (by decide +kernel) (hst_a d_L_plan_13 (Nat.le_of_ble_eq_true rfl))) ?_
    refine xv (x_iconst 16 d_L_plan_15 rfl) ?_
    refine xv_r (x_ireturn d_L_plan_16 rfl rfl) ?_
    rw [show (1 : Int) = t from ht.symm]
    exact hQ h1 fr_rf (fun z => by omega) hO (by omega)
theorem H_planned {p q : Int32} {x0 : Int32} (hB : q_cl E q_m_X7_planned [.ref x, .int p, .int q] h = some (r, h1)) (hs : Rs [xIO, xIA] r t (.int x0)) (hb : h.1 x = some (.inr (7, fs))) (hO : LAo h1 o) : Hp E q_m_L_planned [.ref x, .int p, .int q, .ref o] h h1 o t (x0.toInt64) := by
  suffices K : ∀ Q : q_R → q_H → Prop, (∀ h1', Fr o 1 h1 h1' → (t = 0 → q_gL h1' o (zi 0) = some (.long (x0.toInt64))) → LAo h1' o → 0 ≤ t ∧ t ≤ 2 → Q (.inl (some (.int (zi t)))) h1') → Xv E q_m_L_planned 0 [.ref x, .int p, .int q, .ref o, .null] [] h Q by
    obtain ⟨r2, h2, e2, h3, e3, e4⟩ := K (fun r' h' => ∃ h1', (r' = .inl (some (.int (zi t))) ∧ h' = h1') ∧ Fr o 1 h1 h1' ∧ (t = 0 → q_gL h1' o (zi 0) = some (.long (x0.toInt64))) ∧ LAo h1' o ∧ 0 ≤ t ∧ t ≤ 2) (fun h1' a b c d => ⟨h1', ⟨rfl, rfl⟩, a, b, c, d⟩)
    rw [e3.1, e3.2] at e2
    exact ⟨h3, e2, e4⟩
  intro Q hQ
  refine xv (x_aload_n 1 d_L_planned_0 rfl rfl) ?_
  refine xv (x_iconst 2 d_L_planned_1 rfl) ?_
  refine xv (x_aload_n 3 d_L_planned_2 rfl rfl) ?_
  refine xv (x_iload_n 4 d_L_planned_3 rfl rfl) ?_
  refine xv (x_iload_n 5 d_L_planned_4 rfl rfl) ?_
  rcases rs_2 hs with ⟨ht, er⟩ | ⟨ht, er⟩ | ⟨ht, er⟩
  · rw [er] at hB
    refine xv (x_inv1 8 (as := [.int p, .int q]) (rest := [.int (zi 0), .ref o]) d_L_planned_5 rfl c_9_85 rfl (Nat.le_of_ble_eq_true rfl) (Nat.le_of_ble_eq_true rfl) hb (Nat.le_of_ble_eq_true rfl) (Nat.le_of_ble_eq_true rfl) rfl hB) ?_
    refine xv (x_i2l 9 d_L_planned_8 rfl) ?_
    obtain ⟨h2, w1, w2, w3, w4⟩ := la_put (x := x0.toInt64) hO
    refine xv (x_lastore 10 d_L_planned_9 rfl w1) ?_
    refine xv (x_goto 21 d_L_planned_10 rfl) ?_
    refine xv (x_iconst 22 d_L_planned_21 rfl) ?_
    refine xv_r (x_ireturn d_L_planned_22 rfl rfl) ?_
    rw [show (0 : Int) = t from ht.symm]
    exact hQ h2 w2 (fun _ => w3) w4 (by omega)
  · rw [er] at hB
    refine xv (x_invH 15 (as := [.int p, .int q]) (rest := [.int (zi 0), .ref o]) (hp := 13) d_L_planned_5 c_9_85 rfl (Nat.le_of_ble_eq_true rfl) (Nat.le_of_ble_eq_true rfl) hb (Nat.le_of_ble_eq_true rfl) (Nat.le_of_ble_eq_true rfl) rfl hB (by decide +kernel) (hst_a d_L_planned_13 (Nat.le_of_ble_eq_true rfl))) ?_
    refine xv (x_iconst 16 d_L_planned_15 rfl) ?_
    refine xv_r (x_ireturn d_L_planned_16 rfl rfl) ?_
    rw [show (1 : Int) = t from ht.symm]
    exact hQ h1 fr_rf (fun z => by omega) hO (by omega)
  · rw [er] at hB
    refine xv (x_invH 19 (as := [.int p, .int q]) (rest := [.int (zi 0), .ref o]) (hp := 17) d_L_planned_5 c_9_85 rfl (Nat.le_of_ble_eq_true rfl) (Nat.le_of_ble_eq_true rfl) hb (Nat.le_of_ble_eq_true rfl) (Nat.le_of_ble_eq_true rfl) rfl hB (by decide +kernel) (hst_a d_L_planned_17 (Nat.le_of_ble_eq_true rfl))) ?_
    refine xv (x_iconst 20 d_L_planned_19 rfl) ?_
    refine xv_r (x_ireturn d_L_planned_20 rfl rfl) ?_
    rw [show (2 : Int) = t from ht.symm]
    exact hQ h1 fr_rf (fun z => by omega) hO (by omega)
theorem H_reach {p : Int32} {x0 : Int32} (hB : q_cl E q_m_X7_reach [.ref x, .int p] h = some (r, h1)) (hs : Rs [xIO] r t (.int x0)) (hb : h.1 x = some (.inr (7, fs))) (hO : LAo h1 o) : Hp E q_m_L_reach [.ref x, .int p, .ref o] h h1 o t (x0.toInt64) := by
  suffices K : ∀ Q : q_R → q_H → Prop, (∀ h1', Fr o 1 h1 h1' → (t = 0 → q_gL h1' o (zi 0) = some (.long (x0.toInt64))) → LAo h1' o → 0 ≤ t ∧ t ≤ 2 → Q (.inl (some (.int (zi t)))) h1') → Xv E q_m_L_reach 0 [.ref x, .int p, .ref o, .null] [] h Q by
    obtain ⟨r2, h2, e2, h3, e3, e4⟩ := K (fun r' h' => ∃ h1', (r' = .inl (some (.int (zi t))) ∧ h' = h1') ∧ Fr o 1 h1 h1' ∧ (t = 0 → q_gL h1' o (zi 0) = some (.long (x0.toInt64))) ∧ LAo h1' o ∧ 0 ≤ t ∧ t ≤ 2) (fun h1' a b c d => ⟨h1', ⟨rfl, rfl⟩, a, b, c, d⟩)
    rw [e3.1, e3.2] at e2
    exact ⟨h3, e2, e4⟩
  intro Q hQ
  refine xv (x_aload_n 1 d_L_reach_0 rfl rfl) ?_
  refine xv (x_iconst 2 d_L_reach_1 rfl) ?_
  refine xv (x_aload_n 3 d_L_reach_2 rfl rfl) ?_
  refine xv (x_iload_n 4 d_L_reach_3 rfl rfl) ?_
  rcases rs_1 hs with ⟨ht, er⟩ | ⟨ht, er⟩
  · rw [er] at hB
    refine xv (x_inv1 7 (as := [.int p]) (rest := [.int (zi 0), .ref o]) d_L_reach_4 rfl c_9_76 rfl (Nat.le_of_ble_eq_true rfl) (Nat.le_of_ble_eq_true rfl) hb (Nat.le_of_ble_eq_true rfl) (Nat.le_of_ble_eq_true rfl) rfl hB) ?_
    refine xv (x_i2l 8 d_L_reach_7 rfl) ?_
    obtain ⟨h2, w1, w2, w3, w4⟩ := la_put (x := x0.toInt64) hO
    refine xv (x_lastore 9 d_L_reach_8 rfl w1) ?_
    refine xv (x_goto 15 d_L_reach_9 rfl) ?_
    refine xv (x_iconst 16 d_L_reach_15 rfl) ?_
    refine xv_r (x_ireturn d_L_reach_16 rfl rfl) ?_
    rw [show (0 : Int) = t from ht.symm]
    exact hQ h2 w2 (fun _ => w3) w4 (by omega)
  · rw [er] at hB
    refine xv (x_invH 13 (as := [.int p]) (rest := [.int (zi 0), .ref o]) (hp := 12) d_L_reach_4 c_9_76 rfl (Nat.le_of_ble_eq_true rfl) (Nat.le_of_ble_eq_true rfl) hb (Nat.le_of_ble_eq_true rfl) (Nat.le_of_ble_eq_true rfl) rfl hB (by decide +kernel) (hst_n d_L_reach_12 (Nat.le_of_ble_eq_true rfl))) ?_
    refine xv (x_iconst 14 d_L_reach_13 rfl) ?_
    refine xv_r (x_ireturn d_L_reach_14 rfl rfl) ?_
    rw [show (1 : Int) = t from ht.symm]
    exact hQ h1 fr_rf (fun z => by omega) hO (by omega)
theorem H_reason {p : Int32} {x0 : Int32} (hB : q_cl E q_m_X7_reason [.ref x, .int p] h = some (r, h1)) (hs : Rs [xNS] r t (.int x0)) (hb : h.1 x = some (.inr (7, fs))) (hO : LAo h1 o) : Hp E q_m_L_reason [.ref x, .int p, .ref o] h h1 o t (x0.toInt64) := by
  suffices K : ∀ Q : q_R → q_H → Prop, (∀ h1', Fr o 1 h1 h1' → (t = 0 → q_gL h1' o (zi 0) = some (.long (x0.toInt64))) → LAo h1' o → 0 ≤ t ∧ t ≤ 2 → Q (.inl (some (.int (zi t)))) h1') → Xv E q_m_L_reason 0 [.ref x, .int p, .ref o, .null] [] h Q by
    obtain ⟨r2, h2, e2, h3, e3, e4⟩ := K (fun r' h' => ∃ h1', (r' = .inl (some (.int (zi t))) ∧ h' = h1') ∧ Fr o 1 h1 h1' ∧ (t = 0 → q_gL h1' o (zi 0) = some (.long (x0.toInt64))) ∧ LAo h1' o ∧ 0 ≤ t ∧ t ≤ 2) (fun h1' a b c d => ⟨h1', ⟨rfl, rfl⟩, a, b, c, d⟩)
    rw [e3.1, e3.2] at e2
    exact ⟨h3, e2, e4⟩
  intro Q hQ
  refine xv (x_aload_n 1 d_L_reason_0 rfl rfl) ?_
  refine xv (x_iconst 2 d_L_reason_1 rfl) ?_
  refine xv (x_aload_n 3 d_L_reason_2 rfl rfl) ?_
  refine xv (x_iload_n 4 d_L_reason_3 rfl rfl) ?_
  rcases rs_1 hs with ⟨ht, er⟩ | ⟨ht, er⟩
  · rw [er] at hB
    refine xv (x_inv1 7 (as := [.int p]) (rest := [.int (zi 0), .ref o]) d_L_reason_4 rfl c_9_122 rfl (Nat.le_of_ble_eq_true rfl) (Nat.le_of_ble_eq_true rfl) hb (Nat.le_of_ble_eq_true rfl) (Nat.le_of_ble_eq_true rfl) rfl hB) ?_
    refine xv (x_i2l 8 d_L_reason_7 rfl) ?_
    obtain ⟨h2, w1, w2, w3, w4⟩ := la_put (x := x0.toInt64) hO
    refine xv (x_lastore 9 d_L_reason_8 rfl w1) ?_
    refine xv (x_goto 15 d_L_reason_9 rfl) ?_
    refine xv (x_iconst 16 d_L_reason_15 rfl) ?_
    refine xv_r (x_ireturn d_L_reason_16 rfl rfl) ?_
    rw [show (0 : Int) = t from ht.symm]
    exact hQ h2 w2 (fun _ => w3) w4 (by omega)
  · rw [er] at hB
    refine xv (x_invH 13 (as := [.int p]) (rest := [.int (zi 0), .ref o]) (hp := 12) d_L_reason_4 c_9_122 rfl (Nat.le_of_ble_eq_true rfl) (Nat.le_of_ble_eq_true rfl) hb (Nat.le_of_ble_eq_true rfl) (Nat.le_of_ble_eq_true rfl) rfl hB (by decide +kernel) (hst_n d_L_reason_12 (Nat.le_of_ble_eq_true rfl))) ?_
    refine xv (x_iconst 14 d_L_reason_13 rfl) ?_
    refine xv_r (x_ireturn d_L_reason_14 rfl rfl) ?_
    rw [show (1 : Int) = t from ht.symm]
    exact hQ h1 fr_rf (fun z => by omega) hO (by omega)
theorem H_release {p : Int32} {x0 : Int32} (hB : q_cl E q_m_X7_release [.ref x, .int p] h = some (r, h1)) (hs : Rs [xUO] r t (.int x0)) (hb : h.1 x = some (.inr (7, fs))) (hO : LAo h1 o) : Hp E q_m_L_release [.ref x, .int p, .ref o] h h1 o t (x0.toInt64) := by
  suffices K : ∀ Q : q_R → q_H → Prop, (∀ h1', Fr o 1 h1 h1' → (t = 0 → q_gL h1' o (zi 0) = some (.long (x0.toInt64))) → LAo h1' o → 0 ≤ t ∧ t ≤ 2 → Q (.inl (some (.int (zi t)))) h1') → Xv E q_m_L_release 0 [.ref x, .int p, .ref o, .null] [] h Q by
    obtain ⟨r2, h2, e2, h3, e3, e4⟩ := K (fun r' h' => ∃ h1', (r' = .inl (some (.int (zi t))) ∧ h' = h1') ∧ Fr o 1 h1 h1' ∧ (t = 0 → q_gL h1' o (zi 0) = some (.long (x0.toInt64))) ∧ LAo h1' o ∧ 0 ≤ t ∧ t ≤ 2) (fun h1' a b c d => ⟨h1', ⟨rfl, rfl⟩, a, b, c, d⟩)
    rw [e3.1, e3.2] at e2
    exact ⟨h3, e2, e4⟩
  intro Q hQ
  refine xv (x_aload_n 1 d_L_release_0 rfl rfl) ?_
  refine xv (x_iconst 2 d_L_release_1 rfl) ?_
  refine xv (x_aload_n 3 d_L_release_2 rfl rfl) ?_
  refine xv (x_iload_n 4 d_L_release_3 rfl rfl) ?_
  rcases rs_1 hs with ⟨ht, er⟩ | ⟨ht, er⟩
  · rw [er] at hB
    refine xv (x_inv1 7 (as := [.int p]) (rest := [.int (zi 0), .ref o]) d_L_release_4 rfl c_9_38 rfl (Nat.le_of_ble_eq_true rfl) (Nat.le_of_ble_eq_true rfl) hb (Nat.le_of_ble_eq_true rfl) (Nat.le_of_ble_eq_true rfl) rfl hB) ?_
    refine xv (x_i2l 8 d_L_release_7 rfl) ?_
    obtain ⟨h2, w1, w2, w3, w4⟩ := la_put (x := x0.toInt64) hO
    refine xv (x_lastore 9 d_L_release_8 rfl w1) ?_
    refine xv (x_goto 15 d_L_release_9 rfl) ?_
    refine xv (x_iconst 16 d_L_release_15 rfl) ?_
    refine xv_r (x_ireturn d_L_release_16 rfl rfl) ?_
    rw [show (0 : Int) = t from ht.symm]
    exact hQ h2 w2 (fun _ => w3) w4 (by omega)
  · rw [er] at hB
    refine xv (x_invH 13 (as := [.int p]) (rest := [.int (zi 0), .ref o]) (hp := 12) d_L_release_4 c_9_38 rfl (Nat.le_of_ble_eq_true rfl) (Nat.le_of_ble_eq_true rfl) hb (Nat.le_of_ble_eq_true rfl) (Nat.le_of_ble_eq_true rfl) rfl hB (by decide +kernel) (hst_n d_L_release_12 (Nat.le_of_ble_eq_true rfl))) ?_
    refine xv (x_iconst 14 d_L_release_13 rfl) ?_
    refine xv_r (x_ireturn d_L_release_14 rfl rfl) ?_
    rw [show (1 : Int) = t from ht.symm]
    exact hQ h1 fr_rf (fun z => by omega) hO (by omega)
theorem H_reserved {p q : Int32} {x0 : Int32} (hB : q_cl E q_m_X7_reserved [.ref x, .int p, .int q] h = some (r, h1)) (hs : Rs [xIO, xIA] r t (.int x0)) (hb : h.1 x = some (.inr (7, fs))) (hO : LAo h1 o) : Hp E q_m_L_reserved [.ref x, .int p, .int q, .ref o] h h1 o t (x0.toInt64) := by
  suffices K : ∀ Q : q_R → q_H → Prop, (∀ h1', Fr o 1 h1 h1' → (t = 0 → q_gL h1' o (zi 0) = some (.long (x0.toInt64))) → LAo h1' o → 0 ≤ t ∧ t ≤ 2 → Q (.inl (some (.int (zi t)))) h1') → Xv E q_m_L_reserved 0 [.ref x, .int p, .int q, .ref o, .null] [] h Q by
    obtain ⟨r2, h2, e2, h3, e3, e4⟩ := K (fun r' h' => ∃ h1', (r' = .inl (some (.int (zi t))) ∧ h' = h1') ∧ Fr o 1 h1 h1' ∧ (t = 0 → q_gL h1' o (zi 0) = some (.long (x0.toInt64))) ∧ LAo h1' o ∧ 0 ≤ t ∧ t ≤ 2) (fun h1' a b c d => ⟨h1', ⟨rfl, rfl⟩, a, b, c, d⟩)
    rw [e3.1, e3.2] at e2
    exact ⟨h3, e2, e4⟩
  intro Q hQ
  refine xv (x_aload_n 1 d_L_reserved_0 rfl rfl) ?_
  refine xv (x_iconst 2 d_L_reserved_1 rfl) ?_
  refine xv (x_aload_n 3 d_L_reserved_2 rfl rfl) ?_
  refine xv (x_iload_n 4 d_L_reserved_3 rfl rfl) ?_
  refine xv (x_iload_n 5 d_L_reserved_4 rfl rfl) ?_
  rcases rs_2 hs with ⟨ht, er⟩ | ⟨ht, er⟩ | ⟨ht, er⟩
  · rw [er] at hB
    refine xv (x_inv1 8 (as := [.int p, .int q]) (rest := [.int (zi 0), .ref o]) d_L_reserved_5 rfl c_9_88 rfl (Nat.le_of_ble_eq_true rfl) (Nat.le_of_ble_eq_true rfl) hb (Nat.le_of_ble_eq_true rfl) (Nat.le_of_ble_eq_true rfl) rfl hB) ?_
    refine xv (x_i2l 9 d_L_reserved_8 rfl) ?_
    obtain ⟨h2, w1, w2, w3, w4⟩ := la_put (x := x0.toInt64) hO
    refine xv (x_lastore 10 d_L_reserved_9 rfl w1) ?_
    refine xv (x_goto 21 d_L_reserved_10 rfl) ?_
    refine xv (x_iconst 22 d_L_reserved_21 rfl) ?_
    refine xv_r (x_ireturn d_L_reserved_22 rfl rfl) ?_
    rw [show (0 : Int) = t from ht.symm]
    exact hQ h2 w2 (fun _ => w3) w4 (by omega)
  · rw [er] at hB
    refine xv (x_invH 15 (as := [.int p, .int q]) (rest := [.int (zi 0), .ref o]) (hp := 13) d_L_reserved_5 c_9_88 rfl (Nat.le_of_ble_eq_true rfl) (Nat.le_of_ble_eq_true rfl) hb (Nat.le_of_ble_eq_true rfl) (Nat.le_of_ble_eq_true rfl) rfl hB (by decide +kernel) (hst_a d_L_reserved_13 (Nat.le_of_ble_eq_true rfl))) ?_
    refine xv (x_iconst 16 d_L_reserved_15 rfl) ?_
    refine xv_r (x_ireturn d_L_reserved_16 rfl rfl) ?_
    rw [show (1 : Int) = t from ht.symm]
    exact hQ h1 fr_rf (fun z => by omega) hO (by omega)
  · rw [er] at hB
    refine xv (x_invH 19 (as := [.int p, .int q]) (rest := [.int (zi 0), .ref o]) (hp := 17) d_L_reserved_5 c_9_88 rfl (Nat.le_of_ble_eq_true rfl) (Nat.le_of_ble_eq_true rfl) hb (Nat.le_of_ble_eq_true rfl) (Nat.le_of_ble_eq_true rfl) rfl hB (by decide +kernel) (hst_a d_L_reserved_17 (Nat.le_of_ble_eq_true rfl))) ?_
    refine xv (x_iconst 20 d_L_reserved_19 rfl) ?_
    refine xv_r (x_ireturn d_L_reserved_20 rfl rfl) ?_
    rw [show (2 : Int) = t from ht.symm]
    exact hQ h1 fr_rf (fun z => by omega) hO (by omega)
theorem H_restore {x0 : Int32} (hB : q_cl E q_m_X7_restore [.ref x] h = some (r, h1)) (hs : Rs [xIS] r t (.int x0)) (hb : h.1 x = some (.inr (7, fs))) (hO : LAo h1 o) : Hp E q_m_L_restore [.ref x, .ref o] h h1 o t (x0.toInt64) := by
  suffices K : ∀ Q : q_R → q_H → Prop, (∀ h1', Fr o 1 h1 h1' → (t = 0 → q_gL h1' o (zi 0) = some (.long (x0.toInt64))) → LAo h1' o → 0 ≤ t ∧ t ≤ 2 → Q (.inl (some (.int (zi t)))) h1') → Xv E q_m_L_restore 0 [.ref x, .ref o, .null] [] h Q by
    obtain ⟨r2, h2, e2, h3, e3, e4⟩ := K (fun r' h' => ∃ h1', (r' = .inl (some (.int (zi t))) ∧ h' = h1') ∧ Fr o 1 h1 h1' ∧ (t = 0 → q_gL h1' o (zi 0) = some (.long (x0.toInt64))) ∧ LAo h1' o ∧ 0 ≤ t ∧ t ≤ 2) (fun h1' a b c d => ⟨h1', ⟨rfl, rfl⟩, a, b, c, d⟩)
    rw [e3.1, e3.2] at e2
    exact ⟨h3, e2, e4⟩
  intro Q hQ
  refine xv (x_aload_n 1 d_L_restore_0 rfl rfl) ?_
  refine xv (x_iconst 2 d_L_restore_1 rfl) ?_
  refine xv (x_aload_n 3 d_L_restore_2 rfl rfl) ?_
  rcases rs_1 hs with ⟨ht, er⟩ | ⟨ht, er⟩
  · rw [er] at hB
    refine xv (x_inv1 6 (as := []) (rest := [.int (zi 0), .ref o]) d_L_restore_3 rfl c_9_132 rfl (Nat.le_of_ble_eq_true rfl) (Nat.le_of_ble_eq_true rfl) hb (Nat.le_of_ble_eq_true rfl) (Nat.le_of_ble_eq_true rfl) rfl hB) ?_
    refine xv (x_i2l 7 d_L_restore_6 rfl) ?_
    obtain ⟨h2, w1, w2, w3, w4⟩ := la_put (x := x0.toInt64) hO
    refine xv (x_lastore 8 d_L_restore_7 rfl w1) ?_
    refine xv (x_goto 14 d_L_restore_8 rfl) ?_
    refine xv (x_iconst 15 d_L_restore_14 rfl) ?_
    refine xv_r (x_ireturn d_L_restore_15 rfl rfl) ?_
    rw [show (0 : Int) = t from ht.symm]
    exact hQ h2 w2 (fun _ => w3) w4 (by omega)
  · rw [er] at hB
    refine xv (x_invH 12 (as := []) (rest := [.int (zi 0), .ref o]) (hp := 11) d_L_restore_3 c_9_132 rfl (Nat.le_of_ble_eq_true rfl) (Nat.le_of_ble_eq_true rfl) hb (Nat.le_of_ble_eq_true rfl) (Nat.le_of_ble_eq_true rfl) rfl hB (by decide +kernel) (hst_n d_L_restore_11 (Nat.le_of_ble_eq_true rfl))) ?_
    refine xv (x_iconst 13 d_L_restore_12 rfl) ?_
    refine xv_r (x_ireturn d_L_restore_13 rfl rfl) ?_
    rw [show (1 : Int) = t from ht.symm]
    exact hQ h1 fr_rf (fun z => by omega) hO (by omega)
theorem H_robotOf {p q : Int32} {x0 : Int32} (hB : q_cl E q_m_X7_robotOf [.ref x, .int p, .int q] h = some (r, h1)) (hs : Rs [xIO, xIA] r t (.int x0)) (hb : h.1 x = some (.inr (7, fs))) (hO : LAo h1 o) : Hp E q_m_L_robotOf [.ref x, .int p, .int q, .ref o] h h1 o t (x0.toInt64) := by
  suffices K : ∀ Q : q_R → q_H → Prop, (∀ h1', Fr o 1 h1 h1' → (t = 0 → q_gL h1' o (zi 0) = some (.long (x0.toInt64))) → LAo h1' o → 0 ≤ t ∧ t ≤ 2 → Q (.inl (some (.int (zi t)))) h1') → Xv E q_m_L_robotOf 0 [.ref x, .int p, .int q, .ref o, .null] [] h Q by
    obtain ⟨r2, h2, e2, h3, e3, e4⟩ := K (fun r' h' => ∃ h1', (r' = .inl (some (.int (zi t))) ∧ h' = h1') ∧ Fr o 1 h1 h1' ∧ (t = 0 → q_gL h1' o (zi 0) = some (.long (x0.toInt64))) ∧ LAo h1' o ∧ 0 ≤ t ∧ t ≤ 2) (fun h1' a b c d => ⟨h1', ⟨rfl, rfl⟩, a, b, c, d⟩)
    rw [e3.1, e3.2] at e2
    exact ⟨h3, e2, e4⟩
  intro Q hQ
  refine xv (x_aload_n 1 d_L_robotOf_0 rfl rfl) ?_
  refine xv (x_iconst 2 d_L_robotOf_1 rfl) ?_
  refine xv (x_aload_n 3 d_L_robotOf_2 rfl rfl) ?_
  refine xv (x_iload_n 4 d_L_robotOf_3 rfl rfl) ?_
  refine xv (x_iload_n 5 d_L_robotOf_4 rfl rfl) ?_
  rcases rs_2 hs with ⟨ht, er⟩ | ⟨ht, er⟩ | ⟨ht, er⟩
  · rw [er] at hB
    refine xv (x_inv1 8 (as := [.int p, .int q]) (rest := [.int (zi 0), .ref o]) d_L_robotOf_5 rfl c_9_82 rfl (Nat.le_of_ble_eq_true rfl) (Nat.le_of_ble_eq_true rfl) hb (Nat.le_of_ble_eq_true rfl) (Nat.le_of_ble_eq_true rfl) rfl hB) ?_
    refine xv (x_i2l 9 d_L_robotOf_8 rfl) ?_
    obtain ⟨h2, w1, w2, w3, w4⟩ := la_put (x := x0.toInt64) hO
    refine xv (x_lastore 10 d_L_robotOf_9 rfl w1) ?_
    refine xv (x_goto 21 d_L_robotOf_10 rfl) ?_
    refine xv (x_iconst 22 d_L_robotOf_21 rfl) ?_
    refine xv_r (x_ireturn d_L_robotOf_22 rfl rfl) ?_
    rw [show (0 : Int) = t from ht.symm]
    exact hQ h2 w2 (fun _ => w3) w4 (by omega)
  · rw [er] at hB
    refine xv (x_invH 15 (as := [.int p, .int q]) (rest := [.int (zi 0), .ref o]) (hp := 13) d_L_robotOf_5 c_9_82 rfl (Nat.le_of_ble_eq_true rfl) (Nat.le_of_ble_eq_true rfl) hb (Nat.le_of_ble_eq_true rfl) (Nat.le_of_ble_eq_true rfl) rfl hB (by decide +kernel) (hst_a d_L_robotOf_13 (Nat.le_of_ble_eq_true rfl))) ?_
    refine xv (x_iconst 16 d_L_robotOf_15 rfl) ?_
    refine xv_r (x_ireturn d_L_robotOf_16 rfl rfl) ?_
    rw [show (1 : Int) = t from ht.symm]
    exact hQ h1 fr_rf (fun z => by omega) hO (by omega)
  · rw [er] at hB
    refine xv (x_invH 19 (as := [.int p, .int q]) (rest := [.int (zi 0), .ref o]) (hp := 17) d_L_robotOf_5 c_9_82 rfl (Nat.le_of_ble_eq_true rfl) (Nat.le_of_ble_eq_true rfl) hb (Nat.le_of_ble_eq_true rfl) (Nat.le_of_ble_eq_true rfl) rfl hB (by decide +kernel) (hst_a d_L_robotOf_17 (Nat.le_of_ble_eq_true rfl))) ?_
    refine xv (x_iconst 20 d_L_robotOf_19 rfl) ?_
    refine xv_r (x_ireturn d_L_robotOf_20 rfl rfl) ?_
    rw [show (2 : Int) = t from ht.symm]
    exact hQ h1 fr_rf (fun z => by omega) hO (by omega)
theorem H_set {p q : Int32} {x0 : Int32} (hB : q_cl E q_m_X7_set [.ref x, .int p, .int q] h = some (r, h1)) (hs : Rs [xUO] r t (.int x0)) (hb : h.1 x = some (.inr (7, fs))) (hO : LAo h1 o) : Hp E q_m_L_set [.ref x, .int p, .int q, .ref o] h h1 o t (x0.toInt64) := by
  suffices K : ∀ Q : q_R → q_H → Prop, (∀ h1', Fr o 1 h1 h1' → (t = 0 → q_gL h1' o (zi 0) = some (.long (x0.toInt64))) → LAo h1' o → 0 ≤ t ∧ t ≤ 2 → Q (.inl (some (.int (zi t)))) h1') → Xv E q_m_L_set 0 [.ref x, .int p, .int q, .ref o, .null] [] h Q by
    obtain ⟨r2, h2, e2, h3, e3, e4⟩ := K (fun r' h' => ∃ h1', (r' = .inl (some (.int (zi t))) ∧ h' = h1') ∧ Fr o 1 h1 h1' ∧ (t = 0 → q_gL h1' o (zi 0) = some (.long (x0.toInt64))) ∧ LAo h1' o ∧ 0 ≤ t ∧ t ≤ 2) (fun h1' a b c d => ⟨h1', ⟨rfl, rfl⟩, a, b, c, d⟩)
    rw [e3.1, e3.2] at e2
    exact ⟨h3, e2, e4⟩
  intro Q hQ
  refine xv (x_aload_n 1 d_L_set_0 rfl rfl) ?_
  refine xv (x_iconst 2 d_L_set_1 rfl) ?_
  refine xv (x_aload_n 3 d_L_set_2 rfl rfl) ?_
  refine xv (x_iload_n 4 d_L_set_3 rfl rfl) ?_
  refine xv (x_iload_n 5 d_L_set_4 rfl rfl) ?_
  rcases rs_1 hs with ⟨ht, er⟩ | ⟨ht, er⟩
  · rw [er] at hB
    refine xv (x_inv1 8 (as := [.int p, .int q]) (rest := [.int (zi 0), .ref o]) d_L_set_5 rfl c_9_47 rfl (Nat.le_of_ble_eq_true rfl) (Nat.le_of_ble_eq_true rfl) hb (Nat.le_of_ble_eq_true rfl) (Nat.le_of_ble_eq_true rfl) rfl hB) ?_
    refine xv (x_i2l 9 d_L_set_8 rfl) ?_
    obtain ⟨h2, w1, w2, w3, w4⟩ := la_put (x := x0.toInt64) hO
    refine xv (x_lastore 10 d_L_set_9 rfl w1) ?_
    refine xv (x_goto 17 d_L_set_10 rfl) ?_
    refine xv (x_iconst 18 d_L_set_17 rfl) ?_
    refine xv_r (x_ireturn d_L_set_18 rfl rfl) ?_
    rw [show (0 : Int) = t from ht.symm]
    exact hQ h2 w2 (fun _ => w3) w4 (by omega)
  · rw [er] at hB
    refine xv (x_invH 15 (as := [.int p, .int q]) (rest := [.int (zi 0), .ref o]) (hp := 13) d_L_set_5 c_9_47 rfl (Nat.le_of_ble_eq_true rfl) (Nat.le_of_ble_eq_true rfl) hb (Nat.le_of_ble_eq_true rfl) (Nat.le_of_ble_eq_true rfl) rfl hB (by decide +kernel) (hst_a d_L_set_13 (Nat.le_of_ble_eq_true rfl))) ?_
    refine xv (x_iconst 16 d_L_set_15 rfl) ?_
    refine xv_r (x_ireturn d_L_set_16 rfl rfl) ?_
    rw [show (1 : Int) = t from ht.symm]
    exact hQ h1 fr_rf (fun z => by omega) hO (by omega)
theorem H_suited {p : Int32} {x0 : Int32} (hB : q_cl E q_m_X7_suited [.ref x, .int p] h = some (r, h1)) (hs : Rs [xIO, xNS] r t (.int x0)) (hb : h.1 x = some (.inr (7, fs))) (hO : LAo h1 o) : Hp E q_m_L_suited [.ref x, .int p, .ref o] h h1 o t (x0.toInt64) := by
  suffices K : ∀ Q : q_R → q_H → Prop, (∀ h1', Fr o 1 h1 h1' → (t = 0 → q_gL h1' o (zi 0) = some (.long (x0.toInt64))) → LAo h1' o → 0 ≤ t ∧ t ≤ 2 → Q (.inl (some (.int (zi t)))) h1') → Xv E q_m_L_suited 0 [.ref x, .int p, .ref o, .null] [] h Q by
    obtain ⟨r2, h2, e2, h3, e3, e4⟩ := K (fun r' h' => ∃ h1', (r' = .inl (some (.int (zi t))) ∧ h' = h1') ∧ Fr o 1 h1 h1' ∧ (t = 0 → q_gL h1' o (zi 0) = some (.long (x0.toInt64))) ∧ LAo h1' o ∧ 0 ≤ t ∧ t ≤ 2) (fun h1' a b c d => ⟨h1', ⟨rfl, rfl⟩, a, b, c, d⟩)
    rw [e3.1, e3.2] at e2
    exact ⟨h3, e2, e4⟩
  intro Q hQ
  refine xv (x_aload_n 1 d_L_suited_0 rfl rfl) ?_
  refine xv (x_iconst 2 d_L_suited_1 rfl) ?_
  refine xv (x_aload_n 3 d_L_suited_2 rfl rfl) ?_
  refine xv (x_iload_n 4 d_L_suited_3 rfl rfl) ?_
  rcases rs_2 hs with ⟨ht, er⟩ | ⟨ht, er⟩ | ⟨ht, er⟩
  · rw [er] at hB
    refine xv (x_inv1 7 (as := [.int p]) (rest := [.int (zi 0), .ref o]) d_L_suited_4 rfl c_9_106 rfl (Nat.le_of_ble_eq_true rfl) (Nat.le_of_ble_eq_true rfl) hb (Nat.le_of_ble_eq_true rfl) (Nat.le_of_ble_eq_true rfl) rfl hB) ?_
    refine xv (x_i2l 8 d_L_suited_7 rfl) ?_
    obtain ⟨h2, w1, w2, w3, w4⟩ := la_put (x := x0.toInt64) hO
    refine xv (x_lastore 9 d_L_suited_8 rfl w1) ?_
    refine xv (x_goto 18 d_L_suited_9 rfl) ?_
    refine xv (x_iconst 19 d_L_suited_18 rfl) ?_
    refine xv_r (x_ireturn d_L_suited_19 rfl rfl) ?_
    rw [show (0 : Int) = t from ht.symm]
    exact hQ h2 w2 (fun _ => w3) w4 (by omega)
  · rw [er] at hB
    refine xv (x_invH 13 (as := [.int p]) (rest := [.int (zi 0), .ref o]) (hp := 12) d_L_suited_4 c_9_106 rfl (Nat.le_of_ble_eq_true rfl) (Nat.le_of_ble_eq_true rfl) hb (Nat.le_of_ble_eq_true rfl) (Nat.le_of_ble_eq_true rfl) rfl hB (by decide +kernel) (hst_n d_L_suited_12 (Nat.le_of_ble_eq_true rfl))) ?_
    refine xv (x_iconst 14 d_L_suited_13 rfl) ?_
    refine xv_r (x_ireturn d_L_suited_14 rfl rfl) ?_
    rw [show (1 : Int) = t from ht.symm]
    exact hQ h1 fr_rf (fun z => by omega) hO (by omega)
  · rw [er] at hB
    refine xv (x_invH 16 (as := [.int p]) (rest := [.int (zi 0), .ref o]) (hp := 15) d_L_suited_4 c_9_106 rfl (Nat.le_of_ble_eq_true rfl) (Nat.le_of_ble_eq_true rfl) hb (Nat.le_of_ble_eq_true rfl) (Nat.le_of_ble_eq_true rfl) rfl hB (by decide +kernel) (hst_n d_L_suited_15 (Nat.le_of_ble_eq_true rfl))) ?_
    refine xv (x_iconst 17 d_L_suited_16 rfl) ?_
    refine xv_r (x_ireturn d_L_suited_17 rfl rfl) ?_
    rw [show (2 : Int) = t from ht.symm]
    exact hQ h1 fr_rf (fun z => by omega) hO (by omega)
theorem H_takeOff {p : Int32} {x0 : Int32} (hB : q_cl E q_m_X7_takeOff [.ref x, .int p] h = some (r, h1)) (hs : Rs [xUO] r t (.int x0)) (hb : h.1 x = some (.inr (7, fs))) (hO : LAo h1 o) : Hp E q_m_L_takeOff [.ref x, .int p, .ref o] h h1 o t (x0.toInt64) := by
  suffices K : ∀ Q : q_R → q_H → Prop, (∀ h1', Fr o 1 h1 h1' → (t = 0 → q_gL h1' o (zi 0) = some (.long (x0.toInt64))) → LAo h1' o → 0 ≤ t ∧ t ≤ 2 → Q (.inl (some (.int (zi t)))) h1') → Xv E q_m_L_takeOff 0 [.ref x, .int p, .ref o, .null] [] h Q by
    obtain ⟨r2, h2, e2, h3, e3, e4⟩ := K (fun r' h' => ∃ h1', (r' = .inl (some (.int (zi t))) ∧ h' = h1') ∧ Fr o 1 h1 h1' ∧ (t = 0 → q_gL h1' o (zi 0) = some (.long (x0.toInt64))) ∧ LAo h1' o ∧ 0 ≤ t ∧ t ≤ 2) (fun h1' a b c d => ⟨h1', ⟨rfl, rfl⟩, a, b, c, d⟩)
    rw [e3.1, e3.2] at e2
    exact ⟨h3, e2, e4⟩
  intro Q hQ
  refine xv (x_aload_n 1 d_L_takeOff_0 rfl rfl) ?_
  refine xv (x_iconst 2 d_L_takeOff_1 rfl) ?_
  refine xv (x_aload_n 3 d_L_takeOff_2 rfl rfl) ?_
  refine xv (x_iload_n 4 d_L_takeOff_3 rfl rfl) ?_
  rcases rs_1 hs with ⟨ht, er⟩ | ⟨ht, er⟩
  · rw [er] at hB
    refine xv (x_inv1 7 (as := [.int p]) (rest := [.int (zi 0), .ref o]) d_L_takeOff_4 rfl c_9_27 rfl (Nat.le_of_ble_eq_true rfl) (Nat.le_of_ble_eq_true rfl) hb (Nat.le_of_ble_eq_true rfl) (Nat.le_of_ble_eq_true rfl) rfl hB) ?_
    refine xv (x_i2l 8 d_L_takeOff_7 rfl) ?_
    obtain ⟨h2, w1, w2, w3, w4⟩ := la_put (x := x0.toInt64) hO
    refine xv (x_lastore 9 d_L_takeOff_8 rfl w1) ?_
    refine xv (x_goto 15 d_L_takeOff_9 rfl) ?_
    refine xv (x_iconst 16 d_L_takeOff_15 rfl) ?_
    refine xv_r (x_ireturn d_L_takeOff_16 rfl rfl) ?_
    rw [show (0 : Int) = t from ht.symm]
    exact hQ h2 w2 (fun _ => w3) w4 (by omega)
  · rw [er] at hB
    refine xv (x_invH 13 (as := [.int p]) (rest := [.int (zi 0), .ref o]) (hp := 12) d_L_takeOff_4 c_9_27 rfl (Nat.le_of_ble_eq_true rfl) (Nat.le_of_ble_eq_true rfl) hb (Nat.le_of_ble_eq_true rfl) (Nat.le_of_ble_eq_true rfl) rfl hB (by decide +kernel) (hst_n d_L_takeOff_12 (Nat.le_of_ble_eq_true rfl))) ?_
    refine xv (x_iconst 14 d_L_takeOff_13 rfl) ?_
    refine xv_r (x_ireturn d_L_takeOff_14 rfl rfl) ?_
    rw [show (1 : Int) = t from ht.symm]
    exact hQ h1 fr_rf (fun z => by omega) hO (by omega)
theorem H_tour {p : Int32} {x0 : Int32} (hB : q_cl E q_m_X7_tour [.ref x, .int p] h = some (r, h1)) (hs : Rs [xIO, xNS] r t (.int x0)) (hb : h.1 x = some (.inr (7, fs))) (hO : LAo h1 o) : Hp E q_m_L_tour [.ref x, .int p, .ref o] h h1 o t (x0.toInt64) := by
  suffices K : ∀ Q : q_R → q_H → Prop, (∀ h1', Fr o 1 h1 h1' → (t = 0 → q_gL h1' o (zi 0) = some (.long (x0.toInt64))) → LAo h1' o → 0 ≤ t ∧ t ≤ 2 → Q (.inl (some (.int (zi t)))) h1') → Xv E q_m_L_tour 0 [.ref x, .int p, .ref o, .null] [] h Q by
    obtain ⟨r2, h2, e2, h3, e3, e4⟩ := K (fun r' h' => ∃ h1', (r' = .inl (some (.int (zi t))) ∧ h' = h1') ∧ Fr o 1 h1 h1' ∧ (t = 0 → q_gL h1' o (zi 0) = some (.long (x0.toInt64))) ∧ LAo h1' o ∧ 0 ≤ t ∧ t ≤ 2) (fun h1' a b c d => ⟨h1', ⟨rfl, rfl⟩, a, b, c, d⟩)
    rw [e3.1, e3.2] at e2
    exact ⟨h3, e2, e4⟩
  intro Q hQ
  refine xv (x_aload_n 1 d_L_tour_0 rfl rfl) ?_
  refine xv (x_iconst 2 d_L_tour_1 rfl) ?_
  refine xv (x_aload_n 3 d_L_tour_2 rfl rfl) ?_
  refine xv (x_iload_n 4 d_L_tour_3 rfl rfl) ?_
  rcases rs_2 hs with ⟨ht, er⟩ | ⟨ht, er⟩ | ⟨ht, er⟩
  · rw [er] at hB
    refine xv (x_inv1 7 (as := [.int p]) (rest := [.int (zi 0), .ref o]) d_L_tour_4 rfl c_9_109 rfl (Nat.le_of_ble_eq_true rfl) (Nat.le_of_ble_eq_true rfl) hb (Nat.le_of_ble_eq_true rfl) (Nat.le_of_ble_eq_true rfl) rfl hB) ?_
    refine xv (x_i2l 8 d_L_tour_7 rfl) ?_
    obtain ⟨h2, w1, w2, w3, w4⟩ := la_put (x := x0.toInt64) hO
    refine xv (x_lastore 9 d_L_tour_8 rfl w1) ?_
    refine xv (x_goto 18 d_L_tour_9 rfl) ?_
    refine xv (x_iconst 19 d_L_tour_18 rfl) ?_
    refine xv_r (x_ireturn d_L_tour_19 rfl rfl) ?_
    rw [show (0 : Int) = t from ht.symm]
    exact hQ h2 w2 (fun _ => w3) w4 (by omega)
  · rw [er] at hB
    refine xv (x_invH 13 (as := [.int p]) (rest := [.int (zi 0), .ref o]) (hp := 12) d_L_tour_4 c_9_109 rfl (Nat.le_of_ble_eq_true rfl) (Nat.le_of_ble_eq_true rfl) hb (Nat.le_of_ble_eq_true rfl) (Nat.le_of_ble_eq_true rfl) rfl hB (by decide +kernel) (hst_n d_L_tour_12 (Nat.le_of_ble_eq_true rfl))) ?_
    refine xv (x_iconst 14 d_L_tour_13 rfl) ?_
    refine xv_r (x_ireturn d_L_tour_14 rfl rfl) ?_
    rw [show (1 : Int) = t from ht.symm]
    exact hQ h1 fr_rf (fun z => by omega) hO (by omega)
  · rw [er] at hB
    refine xv (x_invH 16 (as := [.int p]) (rest := [.int (zi 0), .ref o]) (hp := 15) d_L_tour_4 c_9_109 rfl (Nat.le_of_ble_eq_true rfl) (Nat.le_of_ble_eq_true rfl) hb (Nat.le_of_ble_eq_true rfl) (Nat.le_of_ble_eq_true rfl) rfl hB (by decide +kernel) (hst_n d_L_tour_15 (Nat.le_of_ble_eq_true rfl))) ?_
    refine xv (x_iconst 17 d_L_tour_16 rfl) ?_
    refine xv_r (x_ireturn d_L_tour_17 rfl rfl) ?_
    rw [show (2 : Int) = t from ht.symm]
    exact hQ h1 fr_rf (fun z => by omega) hO (by omega)
theorem H_undo {x0 : Int32} (hB : q_cl E q_m_X7_undo [.ref x] h = some (r, h1)) (hs : Rs [xIS] r t (.int x0)) (hb : h.1 x = some (.inr (7, fs))) (hO : LAo h1 o) : Hp E q_m_L_undo [.ref x, .ref o] h h1 o t (x0.toInt64) := by
  suffices K : ∀ Q : q_R → q_H → Prop, (∀ h1', Fr o 1 h1 h1' → (t = 0 → q_gL h1' o (zi 0) = some (.long (x0.toInt64))) → LAo h1' o → 0 ≤ t ∧ t ≤ 2 → Q (.inl (some (.int (zi t)))) h1') → Xv E q_m_L_undo 0 [.ref x, .ref o, .null] [] h Q by
    obtain ⟨r2, h2, e2, h3, e3, e4⟩ := K (fun r' h' => ∃ h1', (r' = .inl (some (.int (zi t))) ∧ h' = h1') ∧ Fr o 1 h1 h1' ∧ (t = 0 → q_gL h1' o (zi 0) = some (.long (x0.toInt64))) ∧ LAo h1' o ∧ 0 ≤ t ∧ t ≤ 2) (fun h1' a b c d => ⟨h1', ⟨rfl, rfl⟩, a, b, c, d⟩)
    rw [e3.1, e3.2] at e2
    exact ⟨h3, e2, e4⟩
  intro Q hQ
  refine xv (x_aload_n 1 d_L_undo_0 rfl rfl) ?_
  refine xv (x_iconst 2 d_L_undo_1 rfl) ?_
  refine xv (x_aload_n 3 d_L_undo_2 rfl rfl) ?_
  rcases rs_1 hs with ⟨ht, er⟩ | ⟨ht, er⟩
  · rw [er] at hB
    refine xv (x_inv1 6 (as := []) (rest := [.int (zi 0), .ref o]) d_L_undo_3 rfl c_9_129 rfl (Nat.le_of_ble_eq_true rfl) (Nat.le_of_ble_eq_true rfl) hb (Nat.le_of_ble_eq_true rfl) (Nat.le_of_ble_eq_true rfl) rfl hB) ?_
    refine xv (x_i2l 7 d_L_undo_6 rfl) ?_
    obtain ⟨h2, w1, w2, w3, w4⟩ := la_put (x := x0.toInt64) hO
    refine xv (x_lastore 8 d_L_undo_7 rfl w1) ?_
    refine xv (x_goto 14 d_L_undo_8 rfl) ?_
    refine xv (x_iconst 15 d_L_undo_14 rfl) ?_
    refine xv_r (x_ireturn d_L_undo_15 rfl rfl) ?_
    rw [show (0 : Int) = t from ht.symm]
    exact hQ h2 w2 (fun _ => w3) w4 (by omega)
  · rw [er] at hB
    refine xv (x_invH 12 (as := []) (rest := [.int (zi 0), .ref o]) (hp := 11) d_L_undo_3 c_9_129 rfl (Nat.le_of_ble_eq_true rfl) (Nat.le_of_ble_eq_true rfl) hb (Nat.le_of_ble_eq_true rfl) (Nat.le_of_ble_eq_true rfl) rfl hB (by decide +kernel) (hst_n d_L_undo_11 (Nat.le_of_ble_eq_true rfl))) ?_
    refine xv (x_iconst 13 d_L_undo_12 rfl) ?_
    refine xv_r (x_ireturn d_L_undo_13 rfl rfl) ?_
    rw [show (1 : Int) = t from ht.symm]
    exact hQ h1 fr_rf (fun z => by omega) hO (by omega)
theorem H_waiting {p : Int32} {x0 : Int32} (hB : q_cl E q_m_X7_waiting [.ref x, .int p] h = some (r, h1)) (hs : Rs [xNS] r t (.int x0)) (hb : h.1 x = some (.inr (7, fs))) (hO : LAo h1 o) : Hp E q_m_L_waiting [.ref x, .int p, .ref o] h h1 o t (x0.toInt64) := by
  suffices K : ∀ Q : q_R → q_H → Prop, (∀ h1', Fr o 1 h1 h1' → (t = 0 → q_gL h1' o (zi 0) = some (.long (x0.toInt64))) → LAo h1' o → 0 ≤ t ∧ t ≤ 2 → Q (.inl (some (.int (zi t)))) h1') → Xv E q_m_L_waiting 0 [.ref x, .int p, .ref o, .null] [] h Q by
    obtain ⟨r2, h2, e2, h3, e3, e4⟩ := K (fun r' h' => ∃ h1', (r' = .inl (some (.int (zi t))) ∧ h' = h1') ∧ Fr o 1 h1 h1' ∧ (t = 0 → q_gL h1' o (zi 0) = some (.long (x0.toInt64))) ∧ LAo h1' o ∧ 0 ≤ t ∧ t ≤ 2) (fun h1' a b c d => ⟨h1', ⟨rfl, rfl⟩, a, b, c, d⟩)
    rw [e3.1, e3.2] at e2
    exact ⟨h3, e2, e4⟩
  intro Q hQ
  refine xv (x_aload_n 1 d_L_waiting_0 rfl rfl) ?_
  refine xv (x_iconst 2 d_L_waiting_1 rfl) ?_
  refine xv (x_aload_n 3 d_L_waiting_2 rfl rfl) ?_
  refine xv (x_iload_n 4 d_L_waiting_3 rfl rfl) ?_
  rcases rs_1 hs with ⟨ht, er⟩ | ⟨ht, er⟩
  · rw [er] at hB
    refine xv (x_inv1 7 (as := [.int p]) (rest := [.int (zi 0), .ref o]) d_L_waiting_4 rfl c_9_103 rfl (Nat.le_of_ble_eq_true rfl) (Nat.le_of_ble_eq_true rfl) hb (Nat.le_of_ble_eq_true rfl) (Nat.le_of_ble_eq_true rfl) rfl hB) ?_
    refine xv (x_i2l 8 d_L_waiting_7 rfl) ?_
    obtain ⟨h2, w1, w2, w3, w4⟩ := la_put (x := x0.toInt64) hO
    refine xv (x_lastore 9 d_L_waiting_8 rfl w1) ?_
    refine xv (x_goto 15 d_L_waiting_9 rfl) ?_
    refine xv (x_iconst 16 d_L_waiting_15 rfl) ?_
    refine xv_r (x_ireturn d_L_waiting_16 rfl rfl) ?_
    rw [show (0 : Int) = t from ht.symm]
    exact hQ h2 w2 (fun _ => w3) w4 (by omega)
  · rw [er] at hB
    refine xv (x_invH 13 (as := [.int p]) (rest := [.int (zi 0), .ref o]) (hp := 12) d_L_waiting_4 c_9_103 rfl (Nat.le_of_ble_eq_true rfl) (Nat.le_of_ble_eq_true rfl) hb (Nat.le_of_ble_eq_true rfl) (Nat.le_of_ble_eq_true rfl) rfl hB (by decide +kernel) (hst_n d_L_waiting_12 (Nat.le_of_ble_eq_true rfl))) ?_
    refine xv (x_iconst 14 d_L_waiting_13 rfl) ?_
    refine xv_r (x_ireturn d_L_waiting_14 rfl rfl) ?_
    rw [show (1 : Int) = t from ht.symm]
    exact hQ h1 fr_rf (fun z => by omega) hO (by omega)
end OUT
