/-! builders: what is laid behind, the text that is made (printed by program) -/
section E2
variable {E : q_E} {h h' : q_H} {a b d m n N cp v w s c cw nc : Nat} {f g : Int → Int} {z k p q dp t : Int}
theorem S_J5_inflate (hE : q_EN E N) (hB : SBO h a v cp k g) (hcp : cp ≤ 10000) (hT : TXT E h d b n f)  : ∃ r_ h', q_cl E q_m_J5_inflateIfNeededFor_a7421 [Value.ref a, Value.ref d] h = some (r_, h') ∧ (r_ = .inl none ∧ h' = h) := by
  suffices K : ∀ Q : q_R → q_H → Prop, (∀ r_ h', (r_ = .inl none ∧ h' = h) → Q r_ h') → Xv E q_m_J5_inflateIfNeededFor_a7421 0 [Value.ref a, Value.ref d] [] h Q from K _ fun _ _ p => p
  intro Q hQ
  obtain ⟨_, _, _, _, e4, ⟨v5, e5, c5⟩, _⟩ := id hE
  refine xv (x_getstatic 3 d_J5_inflateIfNeededFor_a7421_0 rfl rfl (Nat.le_of_ble_eq_true rfl) (show E.1 4 = some (.int (zi 1)) from e4)) ?_
  refine v_if_eq 21 6 d_J5_inflateIfNeededFor_a7421_3 rfl rfl (by omega) (by omega) (fun k3 => ?_) (fun k3 => ?_)
  · omega
  · refine xv (x_aload_n 7 d_J5_inflateIfNeededFor_a7421_6 rfl rfl) ?_
    refine xv (x_getfield 10 d_J5_inflateIfNeededFor_a7421_7 rfl f_15_22 (Nat.le_of_ble_eq_true rfl) (Nat.le_of_ble_eq_true rfl) (q_gf_of hB.1 rfl)) ?_
    refine xv (x_aload_n 11 d_J5_inflateIfNeededFor_a7421_10 rfl rfl) ?_
    refine xv (x_invS 14 (as := []) d_J5_inflateIfNeededFor_a7421_11 rfl c_15_40 rfl rfl (Nat.le_of_ble_eq_true rfl) hT.2.1 (Nat.le_of_ble_eq_true rfl) (Nat.le_of_ble_eq_true rfl) rfl (S_J0_coder hE hT)) ?_
    show Xv E q_m_J5_inflateIfNeededFor_a7421 14 [Value.ref a, Value.ref d] [Value.int (zi 0), Value.int (zi 0)] h Q
    refine v_icmp_eq 21 17 d_J5_inflateIfNeededFor_a7421_14 rfl rfl (by omega) (by omega) (by omega) (by omega) (fun k14 => ?_) (fun k14 => ?_)
    · refine xv_r (x_return d_J5_inflateIfNeededFor_a7421_21 rfl) ?_
      exact hQ _ _ ⟨rfl, rfl⟩
    · omega
theorem S_J0_getBytes (hE : q_EN E N) (hT : TXT E h d b n f) (hV : AI h v 4 cp g) (hcp : cp ≤ 10000) (h0 : 0 ≤ dp) (h1 : dp + n ≤ cp) (n1 : d ≠ v) (n2 : b ≠ v) : ∃ r_ h', q_cl E q_m_J0_getBytes_840e7 [Value.ref d, Value.ref v, Value.int (zi dp), Value.int (zi 0)] h = some (r_, h') ∧ (r_ = .inl none ∧ AI h' v 4 cp (cpI f g 0 dp n) ∧ Fr v 1 h h') := by
  suffices K : ∀ Q : q_R → q_H → Prop, (∀ r_ h', (r_ = .inl none ∧ AI h' v 4 cp (cpI f g 0 dp n) ∧ Fr v 1 h h') → Q r_ h') → Xv E q_m_J0_getBytes_840e7 0 [Value.ref d, Value.ref v, Value.int (zi dp), Value.int (zi 0)] [] h Q from K _ fun _ _ p => p
  intro Q hQ
  have n60 := hT.1.1
  refine xv (x_aload_n 1 d_J0_getBytes_840e7_0 rfl rfl) ?_
  refine xv (x_invS 4 (as := []) d_J0_getBytes_840e7_1 rfl c_12_335 rfl rfl (Nat.le_of_ble_eq_true rfl) hT.2.1 (Nat.le_of_ble_eq_true rfl) (Nat.le_of_ble_eq_true rfl) rfl (S_J0_coder hE hT)) ?_
  show Xv E q_m_J0_getBytes_840e7 4 [Value.ref d, Value.ref v, Value.int (zi dp), Value.int (zi 0)] [Value.int (zi 0)] h Q
  refine xv (x_iload_n 5 d_J0_getBytes_840e7_4 rfl rfl) ?_
  refine v_icmp_ne 28 8 d_J0_getBytes_840e7_5 rfl rfl (by omega) (by omega) (by omega) (by omega) (fun k5 => ?_) (fun k5 => ?_)
  · omega
  · refine xv (x_aload_n 9 d_J0_getBytes_840e7_8 rfl rfl) ?_
    refine xv (x_getE 12 d_J0_getBytes_840e7_9 rfl f_12_9 (Nat.le_of_ble_eq_true rfl) hT.2.2.1.1) ?_
    refine xv (x_iconst 13 d_J0_getBytes_840e7_12 rfl) ?_
    refine xv (x_aload_n 14 d_J0_getBytes_840e7_13 rfl rfl) ?_
    refine xv (x_iload_n 15 d_J0_getBytes_840e7_14 rfl rfl) ?_
    refine xv (x_iload_n 16 d_J0_getBytes_840e7_15 rfl rfl) ?_
    refine xv (x_ishl 17 d_J0_getBytes_840e7_16 rfl) ?_
    rw [shl0]
    refine xv (x_aload_n 18 d_J0_getBytes_840e7_17 rfl rfl) ?_
    refine xv (x_getE 21 d_J0_getBytes_840e7_18 rfl f_12_9 (Nat.le_of_ble_eq_true rfl) hT.2.2.1.1) ?_
    refine xv (x_arraylength 22 d_J0_getBytes_840e7_21 rfl (by_l hT.2.2.2)) ?_
    obtain ⟨h22, e22, w22, f22⟩ := by_c (dp := dp) hT.2.2.2 hT.1.2 hV (by omega) (by omega) (by omega)
    have T_22 : TXT E h22 d b n f := txt_eq (f22.2 _ (by omega)) (f22.2 _ (by omega)) hT
    refine xv (x_copy 25 d_J0_getBytes_840e7_22 rfl rfl rfl (Nat.le_of_ble_eq_true rfl) (Nat.le_of_ble_eq_true rfl) (Nat.le_of_ble_eq_true rfl) e22) ?_
    show Xv E q_m_J0_getBytes_840e7 25 [Value.ref d, Value.ref v, Value.int (zi dp), Value.int (zi 0)] [] h22 Q
    refine xv (x_goto 43 d_J0_getBytes_840e7_25 rfl) ?_
    refine xv_r (x_return d_J0_getBytes_840e7_43 rfl) ?_
    exact hQ _ _ ⟨rfl, w22, f22⟩
theorem S_J5_putStringAt (hE : q_EN E N) (hB : SBO h a v cp k g) (hcp : cp ≤ 10000) (hT : TXT E h d b n f) (h0 : 0 ≤ dp) (h1 : dp + n ≤ cp) (n1 : d ≠ v) (n2 : b ≠ v) (n3 : a ≠ v) : ∃ r_ h', q_cl E q_m_J5_putStringAt_47b60 [Value.ref a, Value.int (zi dp), Value.ref d] h = some (r_, h') ∧ (r_ = .inl none ∧ SBO h' a v cp k (cpI f g 0 dp n) ∧ Fr v 1 h h') := by
  suffices K : ∀ Q : q_R → q_H → Prop, (∀ r_ h', (r_ = .inl none ∧ SBO h' a v cp k (cpI f g 0 dp n) ∧ Fr v 1 h h') → Q r_ h') → Xv E q_m_J5_putStringAt_47b60 0 [Value.ref a, Value.int (zi dp), Value.ref d] [] h Q from K _ fun _ _ p => p
  intro Q hQ
  refine xv (x_aload_n 1 d_J5_putStringAt_47b60_0 rfl rfl) ?_
  refine xv (x_aload_n 2 d_J5_putStringAt_47b60_1 rfl rfl) ?_
  obtain ⟨r2, h2, e2, x2, y2⟩ := S_J5_inflate (E := E) hE hB hcp hT
  subst x2
  replace y2 := y2.symm
  subst y2
  refine xv (x_invU 5 (as := [Value.ref d]) d_J5_putStringAt_47b60_2 rfl rfl w_15_397 (Nat.le_of_ble_eq_true rfl) (Nat.le_of_ble_eq_true rfl) hB.1 (Nat.le_of_ble_eq_true rfl) (Nat.le_of_ble_eq_true rfl) rfl e2) ?_
  show Xv E q_m_J5_putStringAt_47b60 5 [Value.ref a, Value.int (zi dp), Value.ref d] [] h Q
  refine xv (x_aload_n 6 d_J5_putStringAt_47b60_5 rfl rfl) ?_
  refine xv (x_aload_n 7 d_J5_putStringAt_47b60_6 rfl rfl) ?_
  refine xv (x_getfield 10 d_J5_putStringAt_47b60_7 rfl f_15_15 (Nat.le_of_ble_eq_true rfl) (Nat.le_of_ble_eq_true rfl) (q_gf_of hB.1 rfl)) ?_
  refine xv (x_iload_n 11 d_J5_putStringAt_47b60_10 rfl rfl) ?_
  refine xv (x_aload_n 12 d_J5_putStringAt_47b60_11 rfl rfl) ?_
  refine xv (x_getfield 15 d_J5_putStringAt_47b60_12 rfl f_15_22 (Nat.le_of_ble_eq_true rfl) (Nat.le_of_ble_eq_true rfl) (q_gf_of hB.1 rfl)) ?_
  obtain ⟨r15, h15, e15, x15, y15, f15⟩ := S_J0_getBytes (E := E) (dp := dp) hE hT hB.2 (by omega) (by omega) (by omega) (by omega) (by omega)
  subst x15
  refine xv (x_invS 18 (as := [Value.ref v, Value.int (zi dp), Value.int (zi 0)]) d_J5_putStringAt_47b60_15 rfl c_15_399 rfl rfl (Nat.le_of_ble_eq_true rfl) hT.2.1 (Nat.le_of_ble_eq_true rfl) (Nat.le_of_ble_eq_true rfl) rfl e15) ?_
  show Xv E q_m_J5_putStringAt_47b60 18 [Value.ref a, Value.int (zi dp), Value.ref d] [] h15 Q
  refine xv_r (x_return d_J5_putStringAt_47b60_18 rfl) ?_
  exact hQ _ _ ⟨rfl, ⟨(f15.2 _ (by omega)).trans hB.1, y15⟩, f15⟩
theorem bytes_1 {cp1 : Nat} {g1 : Int → Int} (hf : ∀ i : Int, 0 ≤ i → i < cp → 0 ≤ g i ∧ g i ≤ 127) (hT : TXT E h d b n f) (hk : 0 ≤ k ∧ k ≤ cp) (D : (cp1 = cp ∧ g1 = g) ∨ g1 = cpI g (fun _ => 0) 0 0 cp) : (∀ i : Int, 0 ≤ i → i < k + n → cpI f g1 0 k n i = cpI f g 0 k n i) ∧ ∀ i : Int, 0 ≤ i → i < cp1 → 0 ≤ cpI f g1 0 k n i ∧ cpI f g1 0 k n i ≤ 127 := by
  have e : ∀ i, cpI f g1 0 k n i = if k ≤ i ∧ i < k + n then f (0 + (i - k)) else g1 i := fun i => rfl
  have e' : ∀ i, cpI f g 0 k n i = if k ≤ i ∧ i < k + n then f (0 + (i - k)) else g i := fun i => rfl
  have e2 : ∀ i, cpI g (fun _ => 0) 0 0 cp i = if 0 ≤ i ∧ i < 0 + (cp : Int) then g (0 + (i - 0)) else 0 := fun i => rfl
  have q : ∀ i : Int, 0 ≤ i → i < cp → g1 i = g i := fun i a b => by
    rcases D with ⟨_, D⟩ | D
    · rw [D]
    · rw [D, e2, if_pos (by omega)]
      congr 1
      omega
  refine ⟨fun i a b => ?_, fun i a b => ?_⟩
  · rw [e, e']
    split
    · rfl
    · exact q i a (by omega)
  · rw [e]
    split
    · exact hT.1.2 _ (by omega) (by omega)
    · by_cases z : i < cp
      · rw [q i a z]
        exact hf i a z
      · rcases D with ⟨D0, D⟩ | D
        · omega
        · rw [D, e2, if_neg (by omega)]
          omega
theorem S_J5_append (hE : q_EN E N) (hB : SBO h a v cp k g) (hcp : cp ≤ 2000) (hf : ∀ i : Int, 0 ≤ i → i < cp → 0 ≤ g i ∧ g i ≤ 127) (hs : h.2 = (some s, c, cw)) (hv : v < s) (ha : a < s) (hk : 0 ≤ k ∧ k ≤ cp ∧ k + n ≤ 60) (hT : TXT E h d b n f) (hd : d < s ∧ b < s) (n1 : d ≠ v) (n2 : b ≠ v) (n3 : d ≠ a) (n4 : b ≠ a) (n5 : a ≠ v) : ∃ r_ h', q_cl E q_m_J5_append_cf1ce [Value.ref a, Value.ref d] h = some (r_, h') ∧ (r_ = .inl (some (.ref a)) ∧ ∃ v' cp' g' s' c' w', SBO h' a v' cp' (k + n) g' ∧ (∀ i : Int, 0 ≤ i → i < k + n → g' i = cpI f g 0 k n i) ∧ (∀ i : Int, 0 ≤ i → i < cp' → 0 ≤ g' i ∧ g' i ≤ 127) ∧ (v' = v ∨ v' = s) ∧ (cp' ≤ 2 * cp + 62 ∧ k + n ≤ cp') ∧ h'.2 = (some s', c', w') ∧ (s ≤ s' ∧ s' ≤ s + 1 ∧ v' < s' ∧ c' ≤ c + 1 ∧ w' ≤ cw + 2 * cp + 62) ∧ (∀ q, ((q < s ∧ q ≠ a ∧ q ≠ v) ∨ s + 3 ≤ q) → h'.1 q = h.1 q)) := by
  suffices K : ∀ Q : q_R → q_H → Prop, (∀ r_ h', (r_ = .inl (some (.ref a)) ∧ ∃ v' cp' g' s' c' w', SBO h' a v' cp' (k + n) g' ∧ (∀ i : Int, 0 ≤ i → i < k + n → g' i = cpI f g 0 k n i) ∧ (∀ i : Int, 0 ≤ i → i < cp' → 0 ≤ g' i ∧ g' i ≤ 127) ∧ (v' = v ∨ v' = s) ∧ (cp' ≤ 2 * cp + 62 ∧ k + n ≤ cp') ∧ h'.2 = (some s', c', w') ∧ (s ≤ s' ∧ s' ≤ s + 1 ∧ v' < s' ∧ c' ≤ c + 1 ∧ w' ≤ cw + 2 * cp + 62) ∧ (∀ q, ((q < s ∧ q ≠ a ∧ q ≠ v) ∨ s + 3 ≤ q) → h'.1 q = h.1 q)) → Q r_ h') → Xv E q_m_J5_append_cf1ce 0 [Value.ref a, Value.ref d, Value.null] [] h Q from K _ fun _ _ p => p
  intro Q hQ
  have n60 := hT.1.1
  refine xv (x_aload_n 1 d_J5_append_cf1ce_0 rfl rfl) ?_
  refine xv (x_ifnonnull 9 d_J5_append_cf1ce_1 rfl) ?_
  refine xv (x_aload_n 10 d_J5_append_cf1ce_9 rfl rfl) ?_
  refine xv (x_invS 13 (as := []) d_J5_append_cf1ce_10 rfl c_15_32 rfl rfl (Nat.le_of_ble_eq_true rfl) hT.2.1 (Nat.le_of_ble_eq_true rfl) (Nat.le_of_ble_eq_true rfl) rfl (S_J0_length hE hT)) ?_
  show Xv E q_m_J5_append_cf1ce 13 [Value.ref a, Value.ref d, Value.null] [Value.int (zi (n : Int))] h Q
  refine xv (x_istore_n 14 d_J5_append_cf1ce_13 rfl (Nat.le_of_ble_eq_true rfl)) ?_
  show Xv E q_m_J5_append_cf1ce 14 [Value.ref a, Value.ref d, Value.int (zi (n : Int))] [] h Q
  refine xv (x_aload_n 15 d_J5_append_cf1ce_14 rfl rfl) ?_
  refine xv (x_aload_n 16 d_J5_append_cf1ce_15 rfl rfl) ?_
  refine xv (x_getfield 19 d_J5_append_cf1ce_16 rfl f_15_79 (Nat.le_of_ble_eq_true rfl) (Nat.le_of_ble_eq_true rfl) (q_gf_of hB.1 rfl)) ?_
  refine xv (x_iload_n 20 d_J5_append_cf1ce_19 rfl rfl) ?_
  refine xv (x_iadd 21 d_J5_append_cf1ce_20 rfl) ?_
  obtain ⟨r21, h21, e21, x21, v1, cp1, g1, s1, c1, w1, B1, D1, m1, z1, f1⟩ := S_J5_ensure (E := E) (z := k + (n : Int)) hB hcp hf hs hv ha (by omega)
  subst x21
  have T1 : TXT E h21 d b n f := txt_eq (f1 _ (by omega)) (f1 _ (by omega)) hT
  refine xv (x_invU 24 (as := [Value.int (zi (k + (n : Int)))]) d_J5_append_cf1ce_21 rfl rfl w_15_100 (Nat.le_of_ble_eq_true rfl) (Nat.le_of_ble_eq_true rfl) hB.1 (Nat.le_of_ble_eq_true rfl) (Nat.le_of_ble_eq_true rfl) rfl e21) ?_
  show Xv E q_m_J5_append_cf1ce 24 [Value.ref a, Value.ref d, Value.int (zi (n : Int))] [] h21 Q
  refine xv (x_aload_n 25 d_J5_append_cf1ce_24 rfl rfl) ?_
  refine xv (x_aload_n 26 d_J5_append_cf1ce_25 rfl rfl) ?_
  refine xv (x_getfield 29 d_J5_append_cf1ce_26 rfl f_15_79 (Nat.le_of_ble_eq_true rfl) (Nat.le_of_ble_eq_true rfl) (q_gf_of B1.1 rfl)) ?_
  refine xv (x_aload_n 30 d_J5_append_cf1ce_29 rfl rfl) ?_
  obtain ⟨r30, h30, e30, x30, B2, f2⟩ := S_J5_putStringAt (E := E) (dp := k) hE B1 (by omega) T1 (by omega) (by omega) (by omega) (by omega) (by omega)
  subst x30
  refine xv (x_invU 33 (as := [Value.int (zi k), Value.ref d]) d_J5_append_cf1ce_30 rfl rfl w_15_208 (Nat.le_of_ble_eq_true rfl) (Nat.le_of_ble_eq_true rfl) B1.1 (Nat.le_of_ble_eq_true rfl) (Nat.le_of_ble_eq_true rfl) rfl e30) ?_
  show Xv E q_m_J5_append_cf1ce 33 [Value.ref a, Value.ref d, Value.int (zi (n : Int))] [] h30 Q
  refine xv (x_aload_n 34 d_J5_append_cf1ce_33 rfl rfl) ?_
  refine xv (x_dup 35 d_J5_append_cf1ce_34 rfl rfl) ?_
  refine xv (x_getfield 38 d_J5_append_cf1ce_35 rfl f_15_79 (Nat.le_of_ble_eq_true rfl) (Nat.le_of_ble_eq_true rfl) (q_gf_of B2.1 rfl)) ?_
  refine xv (x_iload_n 39 d_J5_append_cf1ce_38 rfl rfl) ?_
  refine xv (x_iadd 40 d_J5_append_cf1ce_39 rfl) ?_
  obtain ⟨h40, e40, w40, f40⟩ := obj_pf (k := 3) (v := Value.int (zi (k + (n : Int)))) B2.1 (Nat.le_of_ble_eq_true rfl)
  have V_40 : AI h40 v1 4 cp1 (cpI f g1 0 k n) := by have z_ := ai_fr B2.2 f40 (by omega); exact z_
  replace w40 : h40.1 a = some (.inr (8, [Value.ref v1, Value.int (zi 0), Value.int (zi 0), Value.int (zi (k + (n : Int)))])) := w40
  refine xv (x_putfield 43 d_J5_append_cf1ce_40 rfl f_15_79 (Nat.le_of_ble_eq_true rfl) e40 rfl rfl (fun e => absurd e (by decide))) ?_
  show Xv E q_m_J5_append_cf1ce 43 [Value.ref a, Value.ref d, Value.int (zi (n : Int))] [] h40 Q
  refine xv (x_aload_n 44 d_J5_append_cf1ce_43 rfl rfl) ?_
  refine xv_r (x_areturn d_J5_append_cf1ce_44 rfl) ?_
  obtain ⟨y1, y2⟩ := bytes_1 (cp1 := cp1) (g1 := g1) (k := k) hf hT ⟨by omega, by omega⟩ (by rcases D1 with D1 | D1; exact Or.inl ⟨D1.2.1, D1.2.2.1⟩; exact Or.inr D1.2.2.1)
  exact hQ _ _ ⟨rfl, v1, cp1, _, s1, c1, w1, ⟨w40, V_40⟩, y1, y2, by omega, ⟨by omega, by omega⟩, f40.1.trans (f2.1.trans z1), by omega, fun q hq => (f40.2 _ (by omega)).trans ((f2.2 _ (by omega)).trans (f1 _ (by omega)))⟩
theorem S_J4_append (hE : q_EN E N) (hB : SBO h a v cp k g) (hcp : cp ≤ 2000) (hf : ∀ i : Int, 0 ≤ i → i < cp → 0 ≤ g i ∧ g i ≤ 127) (hs : h.2 = (some s, c, cw)) (hv : v < s) (ha : a < s) (hk : 0 ≤ k ∧ k ≤ cp ∧ k + n ≤ 60) (hT : TXT E h d b n f) (hd : d < s ∧ b < s) (n1 : d ≠ v) (n2 : b ≠ v) (n3 : d ≠ a) (n4 : b ≠ a) (n5 : a ≠ v) : ∃ r_ h', q_cl E q_m_J4_append_15ec4 [Value.ref a, Value.ref d] h = some (r_, h') ∧ (r_ = .inl (some (.ref a)) ∧ ∃ v' cp' g' s' c' w', SBO h' a v' cp' (k + n) g' ∧ (∀ i : Int, 0 ≤ i → i < k + n → g' i = cpI f g 0 k n i) ∧ (∀ i : Int, 0 ≤ i → i < cp' → 0 ≤ g' i ∧ g' i ≤ 127) ∧ (v' = v ∨ v' = s) ∧ (cp' ≤ 2 * cp + 62 ∧ k + n ≤ cp') ∧ h'.2 = (some s', c', w') ∧ (s ≤ s' ∧ s' ≤ s + 1 ∧ v' < s' ∧ c' ≤ c + 1 ∧ w' ≤ cw + 2 * cp + 62) ∧ (∀ q, ((q < s ∧ q ≠ a ∧ q ≠ v) ∨ s + 3 ≤ q) → h'.1 q = h.1 q)) := by
  suffices K : ∀ Q : q_R → q_H → Prop, (∀ r_ h', (r_ = .inl (some (.ref a)) ∧ ∃ v' cp' g' s' c' w', SBO h' a v' cp' (k + n) g' ∧ (∀ i : Int, 0 ≤ i → i < k + n → g' i = cpI f g 0 k n i) ∧ (∀ i : Int, 0 ≤ i → i < cp' → 0 ≤ g' i ∧ g' i ≤ 127) ∧ (v' = v ∨ v' = s) ∧ (cp' ≤ 2 * cp + 62 ∧ k + n ≤ cp') ∧ h'.2 = (some s', c', w') ∧ (s ≤ s' ∧ s' ≤ s + 1 ∧ v' < s' ∧ c' ≤ c + 1 ∧ w' ≤ cw + 2 * cp + 62) ∧ (∀ q, ((q < s ∧ q ≠ a ∧ q ≠ v) ∨ s + 3 ≤ q) → h'.1 q = h.1 q)) → Q r_ h') → Xv E q_m_J4_append_15ec4 0 [Value.ref a, Value.ref d] [] h Q from K _ fun _ _ p => p
  intro Q hQ
  refine xv (x_aload_n 1 d_J4_append_15ec4_0 rfl rfl) ?_
  refine xv (x_aload_n 2 d_J4_append_15ec4_1 rfl rfl) ?_
  obtain ⟨r2, h2, e2, x2, K2⟩ := S_J5_append (E := E) hE hB hcp hf hs hv ha hk hT hd n1 n2 n3 n4 n5
  subst x2
  refine xv (x_insS 5 (as := [Value.ref d]) d_J4_append_15ec4_2 rfl rfl w_8_29 (Nat.le_of_ble_eq_true rfl) (Nat.le_of_ble_eq_true rfl) hB.1 (Nat.le_of_ble_eq_true rfl) (Nat.le_of_ble_eq_true rfl) rfl e2) ?_
  show Xv E q_m_J4_append_15ec4 5 [Value.ref a, Value.ref d] [Value.ref a] h2 Q
  refine xv (x_pop 6 d_J4_append_15ec4_5 rfl rfl) ?_
  refine xv (x_aload_n 7 d_J4_append_15ec4_6 rfl rfl) ?_
  refine xv_r (x_areturn d_J4_append_15ec4_7 rfl) ?_
  exact hQ _ _ ⟨rfl, K2⟩
theorem S_J5_getValue (hB : SBO h a v cp k g) (hcp : cp ≤ 2000)  : ∃ r_ h', q_cl E q_m_J5_getValue_6d5f1 [Value.ref a] h = some (r_, h') ∧ (r_ = .inl (some (.ref v)) ∧ h' = h) := by
  suffices K : ∀ Q : q_R → q_H → Prop, (∀ r_ h', (r_ = .inl (some (.ref v)) ∧ h' = h) → Q r_ h') → Xv E q_m_J5_getValue_6d5f1 0 [Value.ref a] [] h Q from K _ fun _ _ p => p
  intro Q hQ
  refine xv (x_aload_n 1 d_J5_getValue_6d5f1_0 rfl rfl) ?_
  refine xv (x_getfield 4 d_J5_getValue_6d5f1_1 rfl f_15_15 (Nat.le_of_ble_eq_true rfl) (Nat.le_of_ble_eq_true rfl) (q_gf_of hB.1 rfl)) ?_
  refine xv_r (x_areturnA d_J5_getValue_6d5f1_4 rfl) ?_
  exact hQ _ _ ⟨rfl, rfl⟩
theorem S_J5_length (hB : SBO h a v cp k g) (hcp : cp ≤ 2000)  : q_cl E q_m_J5_length_8abf5 [Value.ref a] h = some (.inl (some (Value.int (zi k))), h) := by
  suffices K : ∀ Q : q_R → q_H → Prop, Q (.inl (some (Value.int (zi k)))) h → Xv E q_m_J5_length_8abf5 0 [Value.ref a] [] h Q by
    obtain ⟨r_, g_, a_, b_, c_⟩ := K (fun r_ g_ => r_ = .inl (some (Value.int (zi k))) ∧ g_ = h) ⟨rfl, rfl⟩
    subst b_; subst c_; exact a_
  intro Q hQ
  refine xv (x_aload_n 1 d_J5_length_8abf5_0 rfl rfl) ?_
  refine xv (x_getfield 4 d_J5_length_8abf5_1 rfl f_15_79 (Nat.le_of_ble_eq_true rfl) (Nat.le_of_ble_eq_true rfl) (q_gf_of hB.1 rfl)) ?_
  refine xv_r (x_ireturn d_J5_length_8abf5_4 rfl rfl) ?_
  refine lq hQ ?_
  rfl
theorem S_J4_length (hB : SBO h a v cp k g) (hcp : cp ≤ 2000)  : q_cl E q_m_J4_length_8abf5 [Value.ref a] h = some (.inl (some (Value.int (zi k))), h) := by
  suffices K : ∀ Q : q_R → q_H → Prop, Q (.inl (some (Value.int (zi k)))) h → Xv E q_m_J4_length_8abf5 0 [Value.ref a] [] h Q by
    obtain ⟨r_, g_, a_, b_, c_⟩ := K (fun r_ g_ => r_ = .inl (some (Value.int (zi k))) ∧ g_ = h) ⟨rfl, rfl⟩
    subst b_; subst c_; exact a_
  intro Q hQ
  refine xv (x_aload_n 1 d_J4_length_8abf5_0 rfl rfl) ?_
  refine xv (x_insS 4 (as := []) d_J4_length_8abf5_1 rfl rfl w_8_343 (Nat.le_of_ble_eq_true rfl) (Nat.le_of_ble_eq_true rfl) hB.1 (Nat.le_of_ble_eq_true rfl) (Nat.le_of_ble_eq_true rfl) rfl (S_J5_length hB hcp)) ?_
  show Xv E q_m_J4_length_8abf5 4 [Value.ref a] [Value.int (zi k)] h Q
  refine xv_r (x_ireturn d_J4_length_8abf5_4 rfl rfl) ?_
  refine lq hQ ?_
  rfl
theorem S_J5_isLatin1 (hE : q_EN E N) (hB : SBO h a v cp k g) (hcp : cp ≤ 2000)  : q_cl E q_m_J5_isLatin1_aae02 [Value.ref a] h = some (.inl (some (Value.int (zi 1))), h) := by
  suffices K : ∀ Q : q_R → q_H → Prop, Q (.inl (some (Value.int (zi 1)))) h → Xv E q_m_J5_isLatin1_aae02 0 [Value.ref a] [] h Q by
    obtain ⟨r_, g_, a_, b_, c_⟩ := K (fun r_ g_ => r_ = .inl (some (Value.int (zi 1))) ∧ g_ = h) ⟨rfl, rfl⟩
    subst b_; subst c_; exact a_
  intro Q hQ
  obtain ⟨_, _, _, _, e4, ⟨v5, e5, c5⟩, _⟩ := id hE
  refine xv (x_getstatic 3 d_J5_isLatin1_aae02_0 rfl rfl (Nat.le_of_ble_eq_true rfl) (show E.1 4 = some (.int (zi 1)) from e4)) ?_
  refine v_if_eq 17 6 d_J5_isLatin1_aae02_3 rfl rfl (by omega) (by omega) (fun k3 => ?_) (fun k3 => ?_)
  · omega
  · refine xv (x_aload_n 7 d_J5_isLatin1_aae02_6 rfl rfl) ?_
    refine xv (x_getfield 10 d_J5_isLatin1_aae02_7 rfl f_15_22 (Nat.le_of_ble_eq_true rfl) (Nat.le_of_ble_eq_true rfl) (q_gf_of hB.1 rfl)) ?_
    refine v_if_ne 17 13 d_J5_isLatin1_aae02_10 rfl rfl (by omega) (by omega) (fun k10 => ?_) (fun k10 => ?_)
    · omega
    · refine xv (x_iconst 14 d_J5_isLatin1_aae02_13 rfl) ?_
      refine xv (x_goto 18 d_J5_isLatin1_aae02_14 rfl) ?_
      refine xv_r (x_ireturn d_J5_isLatin1_aae02_18 rfl rfl) ?_
      refine lq hQ ?_
      rfl
theorem S_J7_checkLength (hk : 0 ≤ k ∧ k < 1000) : ∃ r_ h', q_cl E q_m_J7_checkLength_df160 [Value.int (zi 0), Value.int (zi k)] h = some (r_, h') ∧ (r_ = .inl none ∧ h' = h) := by
  suffices K : ∀ Q : q_R → q_H → Prop, (∀ r_ h', (r_ = .inl none ∧ h' = h) → Q r_ h') → Xv E q_m_J7_checkLength_df160 0 [Value.int (zi 0), Value.int (zi k)] [] h Q from K _ fun _ _ p => p
  intro Q hQ
  refine xv (x_iload_n 1 d_J7_checkLength_df160_0 rfl rfl) ?_
  refine xv (x_iload_n 2 d_J7_checkLength_df160_1 rfl rfl) ?_
  refine v_icmp_ge 37 5 d_J7_checkLength_df160_2 rfl rfl (by omega) (by omega) (by omega) (by omega) (fun k2 => ?_) (fun k2 => ?_)
  · refine xv_r (x_return d_J7_checkLength_df160_37 rfl) ?_
    exact hQ _ _ ⟨rfl, rfl⟩
  · omega
variable {kn : Nat}
theorem S_J7_corByte (hV : AI h v 4 cp g) (hcp : cp ≤ 2000) (hf : ∀ i : Int, 0 ≤ i → i < cp → 0 ≤ g i ∧ g i ≤ 127) (hs : h.2 = (some s, c, cw)) (hv : v < s) (hk : kn ≤ cp ∧ kn ≤ 100) : ∃ r_ h', q_cl E q_m_J7_copyOfRangeByte_39247 [Value.ref v, Value.int (zi 0), Value.int (zi (kn : Int))] h = some (r_, h') ∧ (r_ = .inl (some (.ref s)) ∧ AI h' s 4 kn g ∧ h'.2 = (some (s + 1), c + 1, cw + kn) ∧ (∀ q, (q < s ∨ s + 3 ≤ q) → h'.1 q = h.1 q)) := by
  suffices K : ∀ Q : q_R → q_H → Prop, (∀ r_ h', (r_ = .inl (some (.ref s)) ∧ AI h' s 4 kn g ∧ h'.2 = (some (s + 1), c + 1, cw + kn) ∧ (∀ q, (q < s ∨ s + 3 ≤ q) → h'.1 q = h.1 q)) → Q r_ h') → Xv E q_m_J7_copyOfRangeByte_39247 0 [Value.ref v, Value.int (zi 0), Value.int (zi (kn : Int)), Value.null, Value.null] [] h Q from K _ fun _ _ p => p
  intro Q hQ
  have hF : ∀ q, (q < s ∨ s + 3 ≤ q) → h.1 q = h.1 q := fun _ _ => rfl
  refine xv (x_iload_n 1 d_J7_copyOfRangeByte_39247_0 rfl rfl) ?_
  refine xv (x_iload_n 2 d_J7_copyOfRangeByte_39247_1 rfl rfl) ?_
  obtain ⟨r2, g2, e2, x2, y2⟩ := S_J7_checkLength (E := E) (h := h) (k := (kn : Int)) (by omega)
  subst x2
  replace y2 := y2.symm
  subst y2
  refine xv (x_ins0 5 (as := [Value.int (zi 0), Value.int (zi (kn : Int))]) d_J7_copyOfRangeByte_39247_2 rfl c_10_343 rfl (Nat.le_of_ble_eq_true rfl) (Nat.le_of_ble_eq_true rfl) (Nat.le_of_ble_eq_true rfl) rfl e2) ?_
  show Xv E q_m_J7_copyOfRangeByte_39247 5 [Value.ref v, Value.int (zi 0), Value.int (zi (kn : Int)), Value.null, Value.null] [] h Q
  refine xv (x_iload_n 6 d_J7_copyOfRangeByte_39247_5 rfl rfl) ?_
  refine xv (x_iload_n 7 d_J7_copyOfRangeByte_39247_6 rfl rfl) ?_
  refine xv (x_isub 8 d_J7_copyOfRangeByte_39247_7 rfl) ?_
  refine xv (x_istore_n 9 d_J7_copyOfRangeByte_39247_8 rfl (Nat.le_of_ble_eq_true rfl)) ?_
  show Xv E q_m_J7_copyOfRangeByte_39247 9 [Value.ref v, Value.int (zi 0), Value.int (zi (kn : Int)), Value.int (zi ((kn : Int) - 0)), Value.null] [] h Q
  refine xv (x_iload_n 10 d_J7_copyOfRangeByte_39247_9 rfl rfl) ?_
  show Xv E q_m_J7_copyOfRangeByte_39247 10 [Value.ref v, Value.int (zi 0), Value.int (zi kn), Value.int (zi ((kn : Int) - 0)), .null] [Value.int (zi ((kn : Int) - 0))] h Q
  rw [show (kn : Int) - 0 = (kn : Int) by omega]
  obtain ⟨h10, e10, a10, f10, z10⟩ := al_x (h := h) (e := .inl (4, kn, .inl fun _ => 0)) (n := kn) hs
  have V_10 : AI h10 v 4 cp g := by have z_ := ai_fr hV f10 (by omega); exact z_
  have F_10 : ∀ q, (q < s ∨ s + 3 ≤ q) → h10.1 q = h.1 q := fun q hq => (f10.2 q (by omega)).trans (hF q hq)
  refine xv (xA_newarray (n := kn) 12 d_J7_copyOfRangeByte_39247_10 rfl rfl (by omega) (sz_1 hs) e10) ?_
  have N10 : AI h10 s 4 kn (fun _ => 0) := ai_new a10 rfl
  show Xv E q_m_J7_copyOfRangeByte_39247 12 [Value.ref v, Value.int (zi 0), Value.int (zi (kn : Int)), Value.int (zi ((kn : Int) - 0)), Value.null] [Value.ref s] h10 Q
  refine xv (x_astore 14 d_J7_copyOfRangeByte_39247_12 rfl (Nat.le_of_ble_eq_true rfl)) ?_
  show Xv E q_m_J7_copyOfRangeByte_39247 14 [Value.ref v, Value.int (zi 0), Value.int (zi (kn : Int)), Value.int (zi ((kn : Int) - 0)), Value.ref s] [] h10 Q
  refine xv (x_aload_n 15 d_J7_copyOfRangeByte_39247_14 rfl rfl) ?_
  refine xv (x_iload_n 16 d_J7_copyOfRangeByte_39247_15 rfl rfl) ?_
  refine xv (x_aload 18 d_J7_copyOfRangeByte_39247_16 rfl rfl) ?_
  refine xv (x_iconst 19 d_J7_copyOfRangeByte_39247_18 rfl) ?_
  refine xv (x_aload_n 20 d_J7_copyOfRangeByte_39247_19 rfl rfl) ?_
  refine xv (x_arraylength 21 d_J7_copyOfRangeByte_39247_20 rfl (ai_l V_10 (by decide))) ?_
  refine xv (x_iload_n 22 d_J7_copyOfRangeByte_39247_21 rfl rfl) ?_
  refine xv (x_isub 23 d_J7_copyOfRangeByte_39247_22 rfl) ?_
  refine xv (x_iload_n 24 d_J7_copyOfRangeByte_39247_23 rfl rfl) ?_
  refine xv (x_mmin 27 d_J7_copyOfRangeByte_39247_24 rfl rfl rfl rfl (Nat.le_of_ble_eq_true rfl) (Nat.le_of_ble_eq_true rfl) (Nat.le_of_ble_eq_true rfl) (by omega) (by omega) (by omega) (by omega)) ?_
  rw [show min ((cp : Int) - 0) ((kn : Int) - 0) = (kn : Int) by omega]
  obtain ⟨h27, e27, w27, f27⟩ := ai_cb (dp := 0) (n := (kn : Int)) V_10 (by omega) (by omega) (by omega) (fun k k0 k1 => hf k k0 (by omega)) N10 (by omega) (by omega) (by omega)
  have V_27 : AI h27 v 4 cp g := by have z_ := ai_fr V_10 f27 (by omega); exact z_
  have Z_27 : h27.2 = (some (s + 1), c + 1, cw + kn) := f27.1.trans z10
  have F_27 : ∀ q, (q < s ∨ s + 3 ≤ q) → h27.1 q = h.1 q := fun q hq => (f27.2 q (by omega)).trans (F_10 q hq)
  refine xv (x_copy 30 d_J7_copyOfRangeByte_39247_27 rfl rfl rfl (Nat.le_of_ble_eq_true rfl) (Nat.le_of_ble_eq_true rfl) (Nat.le_of_ble_eq_true rfl) e27) ?_
  show Xv E q_m_J7_copyOfRangeByte_39247 30 [Value.ref v, Value.int (zi 0), Value.int (zi (kn : Int)), Value.int (zi ((kn : Int) - 0)), Value.ref s] [] h27 Q
  refine xv (x_aload 32 d_J7_copyOfRangeByte_39247_30 rfl rfl) ?_
  refine xv_r (x_areturnA d_J7_copyOfRangeByte_39247_32 rfl) ?_
  have NN : AI h27 s 4 kn g := ai_cg w27 fun i i0 i1 => by show (if 0 ≤ i ∧ i < 0 + (kn : Int) then g (0 + (i - 0)) else (0 : Int)) = g i; rw [if_pos (by omega)]; congr 1; omega
  exact hQ _ _ ⟨rfl, NN, Z_27, F_27⟩
theorem S_J7_cor (hV : AI h v 4 cp g) (hcp : cp ≤ 2000) (hf : ∀ i : Int, 0 ≤ i → i < cp → 0 ≤ g i ∧ g i ≤ 127) (hs : h.2 = (some s, c, cw)) (hv : v < s) (hk : kn ≤ cp ∧ kn ≤ 100) : ∃ r_ h', q_cl E q_m_J7_copyOfRange_39247 [Value.ref v, Value.int (zi 0), Value.int (zi (kn : Int))] h = some (r_, h') ∧ (r_ = .inl (some (.ref s)) ∧ AI h' s 4 kn g ∧ h'.2 = (some (s + 1), c + 1, cw + kn) ∧ (∀ q, (q < s ∨ s + 3 ≤ q) → h'.1 q = h.1 q)) := by
  suffices K : ∀ Q : q_R → q_H → Prop, (∀ r_ h', (r_ = .inl (some (.ref s)) ∧ AI h' s 4 kn g ∧ h'.2 = (some (s + 1), c + 1, cw + kn) ∧ (∀ q, (q < s ∨ s + 3 ≤ q) → h'.1 q = h.1 q)) → Q r_ h') → Xv E q_m_J7_copyOfRange_39247 0 [Value.ref v, Value.int (zi 0), Value.int (zi (kn : Int))] [] h Q from K _ fun _ _ p => p
  intro Q hQ
  have hF : ∀ q, (q < s ∨ s + 3 ≤ q) → h.1 q = h.1 q := fun _ _ => rfl
  refine xv (x_iload_n 1 d_J7_copyOfRange_39247_0 rfl rfl) ?_
  refine v_if_ne 10 4 d_J7_copyOfRange_39247_1 rfl rfl (by omega) (by omega) (fun k1 => ?_) (fun k1 => ?_)
  · omega
  · refine xv (x_iload_n 5 d_J7_copyOfRange_39247_4 rfl rfl) ?_
    refine xv (x_aload_n 6 d_J7_copyOfRange_39247_5 rfl rfl) ?_
    refine xv (x_arraylength 7 d_J7_copyOfRange_39247_6 rfl (ai_l hV (by decide))) ?_
    refine v_icmp_eq 17 10 d_J7_copyOfRange_39247_7 rfl rfl (by omega) (by omega) (by omega) (by omega) (fun k7 => ?_) (fun k7 => ?_)
    · refine xv (x_aload_n 18 d_J7_copyOfRange_39247_17 rfl rfl) ?_
      obtain ⟨g18, b18, c18⟩ := id hV
      obtain ⟨h18, e18, a18, f18, z18⟩ := al_x (h := h) (e := .inl (4, cp, .inl g18)) (n := cp) hs
      have V_18 : AI h18 v 4 cp g := by have z_ := ai_fr hV f18 (by omega); exact z_
      have F_18 : ∀ q, (q < s ∨ s + 3 ≤ q) → h18.1 q = h.1 q := fun q hq => (f18.2 q (by omega)).trans (hF q hq)
      refine xv ((x_clone 21 d_J7_copyOfRange_39247_18 rfl rfl rfl rfl (Nat.le_of_ble_eq_true rfl) (Nat.le_of_ble_eq_true rfl) (Nat.le_of_ble_eq_true rfl) b18 (sz_1 hs) (fun i hi => by rw [c18 i hi]; have := hf i (by omega) (by omega); exact fits_b this.1 this.2)).trans (congrArg (q_ex E _ 21 _ _) e18)) ?_
      have N18 : AI h18 s 4 cp g := ⟨_, a18, c18⟩
      show Xv E q_m_J7_copyOfRange_39247 21 [Value.ref v, Value.int (zi 0), Value.int (zi (kn : Int))] [Value.ref s] h18 Q
      obtain ⟨g21, b21, _⟩ := id N18
      refine xv (x_checkcast 24 d_J7_copyOfRange_39247_21 rfl rfl (Nat.le_of_ble_eq_true rfl) b21) ?_
      refine xv_r (x_areturnA d_J7_copyOfRange_39247_24 rfl) ?_
      have ek : kn = cp := by omega
      subst ek
      exact hQ _ _ ⟨rfl, N18, z18, F_18⟩
    · refine xv (x_aload_n 11 d_J7_copyOfRange_39247_10 rfl rfl) ?_
      refine xv (x_iload_n 12 d_J7_copyOfRange_39247_11 rfl rfl) ?_
      refine xv (x_iload_n 13 d_J7_copyOfRange_39247_12 rfl rfl) ?_
      obtain ⟨r13, h13, e13, x13, K13⟩ := S_J7_corByte (E := E) hV hcp hf hs hv (by omega)
      subst x13
      refine xv (x_ins1 16 (as := [Value.ref v, Value.int (zi 0), Value.int (zi (kn : Int))]) d_J7_copyOfRange_39247_13 rfl c_10_339 rfl (Nat.le_of_ble_eq_true rfl) (Nat.le_of_ble_eq_true rfl) (Nat.le_of_ble_eq_true rfl) rfl e13) ?_
      show Xv E q_m_J7_copyOfRange_39247 16 [Value.ref v, Value.int (zi 0), Value.int (zi (kn : Int))] [Value.ref s] h13 Q
      refine xv_r (x_areturnA d_J7_copyOfRange_39247_16 rfl) ?_
      exact hQ _ _ ⟨rfl, K13⟩
theorem S_J0_initA (hE : q_EN E N) (hO : h.1 d = some (.inr (9, q_df 9))) (hB : SBO h a v cp kn g) (hcp : cp ≤ 2000) (hf : ∀ i : Int, 0 ≤ i → i < cp → 0 ≤ g i ∧ g i ≤ 127) (hs : h.2 = (some s, c, cw)) (hd : d < s ∧ a < s ∧ v < s) (n1 : d ≠ a) (n2 : d ≠ v) (hk : kn ≤ cp ∧ kn ≤ 100) : ∃ r_ h', q_cl E q_m_J0_init_db425 [Value.ref d, Value.ref a, Value.null] h = some (r_, h') ∧ (r_ = .inl none ∧ h'.1 d = some (.inr (9, [.ref s, .int (zi 0), .int (zi 0), .int (zi 0)])) ∧ AI h' s 4 kn g ∧ h'.2 = (some (s + 1), c + 1, cw + kn) ∧ (∀ q, ((q < s ∧ q ≠ d) ∨ s + 3 ≤ q) → h'.1 q = h.1 q)) := by
  suffices K : ∀ Q : q_R → q_H → Prop, (∀ r_ h', (r_ = .inl none ∧ h'.1 d = some (.inr (9, [.ref s, .int (zi 0), .int (zi 0), .int (zi 0)])) ∧ AI h' s 4 kn g ∧ h'.2 = (some (s + 1), c + 1, cw + kn) ∧ (∀ q, ((q < s ∧ q ≠ d) ∨ s + 3 ≤ q) → h'.1 q = h.1 q)) → Q r_ h') → Xv E q_m_J0_init_db425 0 [Value.ref d, Value.ref a, Value.null, Value.null, Value.null] [] h Q from K _ fun _ _ p => p
  intro Q hQ
  have hF : ∀ q, ((q < s ∧ q ≠ d) ∨ s + 3 ≤ q) → h.1 q = h.1 q := fun _ _ => rfl
  refine xv (x_aload_n 1 d_J0_init_db425_0 rfl rfl) ?_
  refine xv (x_obj 4 d_J0_init_db425_1 rfl rfl rfl (Nat.le_of_ble_eq_true rfl) (Nat.le_of_ble_eq_true rfl) (Nat.le_of_ble_eq_true rfl)) ?_
  refine xv (x_aload_n 5 d_J0_init_db425_4 rfl rfl) ?_
  obtain ⟨r5, g5, e5, x5, y5⟩ := S_J5_getValue (E := E) (h := h) ⟨hB.1, hB.2⟩ hcp
  subst x5
  replace y5 := y5.symm
  subst y5
  refine xv (x_invU 8 (as := []) d_J0_init_db425_5 rfl rfl w_12_552 (Nat.le_of_ble_eq_true rfl) (Nat.le_of_ble_eq_true rfl) hB.1 (Nat.le_of_ble_eq_true rfl) (Nat.le_of_ble_eq_true rfl) rfl e5) ?_
  show Xv E q_m_J0_init_db425 8 [Value.ref d, Value.ref a, Value.null, Value.null, Value.null] [Value.ref v] h Q
  refine xv (x_astore_n 9 d_J0_init_db425_8 rfl (Nat.le_of_ble_eq_true rfl)) ?_
  show Xv E q_m_J0_init_db425 9 [Value.ref d, Value.ref a, Value.null, Value.ref v, Value.null] [] h Q
  refine xv (x_aload_n 10 d_J0_init_db425_9 rfl rfl) ?_
  refine xv (x_invU 13 (as := []) d_J0_init_db425_10 rfl rfl w_12_549 (Nat.le_of_ble_eq_true rfl) (Nat.le_of_ble_eq_true rfl) hB.1 (Nat.le_of_ble_eq_true rfl) (Nat.le_of_ble_eq_true rfl) rfl (S_J4_length ⟨hB.1, hB.2⟩ hcp)) ?_
  show Xv E q_m_J0_init_db425 13 [Value.ref d, Value.ref a, Value.null, Value.ref v, Value.null] [Value.int (zi (kn : Int))] h Q
  refine xv (x_istore 15 d_J0_init_db425_13 rfl (Nat.le_of_ble_eq_true rfl)) ?_
  show Xv E q_m_J0_init_db425 15 [Value.ref d, Value.ref a, Value.null, Value.ref v, Value.int (zi (kn : Int))] [] h Q
  refine xv (x_aload_n 16 d_J0_init_db425_15 rfl rfl) ?_
  refine xv (x_invU 19 (as := []) d_J0_init_db425_16 rfl rfl w_12_1047 (Nat.le_of_ble_eq_true rfl) (Nat.le_of_ble_eq_true rfl) hB.1 (Nat.le_of_ble_eq_true rfl) (Nat.le_of_ble_eq_true rfl) rfl (S_J5_isLatin1 hE ⟨hB.1, hB.2⟩ hcp)) ?_
  show Xv E q_m_J0_init_db425 19 [Value.ref d, Value.ref a, Value.null, Value.ref v, Value.int (zi (kn : Int))] [Value.int (zi 1)] h Q
  refine v_if_eq 41 22 d_J0_init_db425_19 rfl rfl (by omega) (by omega) (fun k19 => ?_) (fun k19 => ?_)
  · omega
  · refine xv (x_aload_n 23 d_J0_init_db425_22 rfl rfl) ?_
    refine xv (x_iconst 24 d_J0_init_db425_23 rfl) ?_
    obtain ⟨h24, e24, w24, f24⟩ := obj_pf (k := 1) (v := Value.int (zi 0)) hO (Nat.le_of_ble_eq_true rfl)
    have O_24 : h24.1 a = some (.inr (8, [Value.ref v, Value.int (zi 0), Value.int (zi 0), Value.int (zi (kn : Int))])) := (f24.2 _ (by omega)).trans hB.1
    have V_24 : AI h24 v 4 cp g := by have z_ := ai_fr hB.2 f24 (by omega); exact z_
    have Z_24 : h24.2 = (some (s), c, cw) := f24.1.trans hs
    have F_24 : ∀ q, ((q < s ∧ q ≠ d) ∨ s + 3 ≤ q) → h24.1 q = h.1 q := fun q hq => (f24.2 q (by omega)).trans (hF q hq)
    replace w24 : h24.1 d = some (.inr (9, [Value.null, Value.int (zi 0), Value.int (zi 0), Value.int (zi 0)])) := w24
    refine xv (x_putfield 27 d_J0_init_db425_24 rfl f_12_15 (Nat.le_of_ble_eq_true rfl) e24 rfl rfl (fun _ => ⟨rfl, rfl⟩)) ?_
    show Xv E q_m_J0_init_db425 27 [Value.ref d, Value.ref a, Value.null, Value.ref v, Value.int (zi (kn : Int))] [] h24 Q
    refine xv (x_aload_n 28 d_J0_init_db425_27 rfl rfl) ?_
    refine xv (x_aload_n 29 d_J0_init_db425_28 rfl rfl) ?_
    refine xv (x_iconst 30 d_J0_init_db425_29 rfl) ?_
    refine xv (x_iload 32 d_J0_init_db425_30 rfl rfl) ?_
    obtain ⟨r32, h32, e32, x32, y32, z32, f32⟩ := S_J7_cor (E := E) (kn := kn) V_24 hcp hf Z_24 (by omega) (by omega)
    subst x32
    have NO32 : h32.1 d = some (.inr (9, [Value.null, Value.int (zi 0), Value.int (zi 0), Value.int (zi 0)])) := (f32 _ (by omega)).trans w24
    have F32 : ∀ q, ((q < s ∧ q ≠ d) ∨ s + 3 ≤ q) → h32.1 q = h.1 q := fun q hq => (f32 _ (by omega)).trans (F_24 q hq)
    refine xv (x_ins1 35 (as := [Value.ref v, Value.int (zi 0), Value.int (zi (kn : Int))]) d_J0_init_db425_32 rfl c_12_54 rfl (Nat.le_of_ble_eq_true rfl) (Nat.le_of_ble_eq_true rfl) (Nat.le_of_ble_eq_true rfl) rfl e32) ?_
    show Xv E q_m_J0_init_db425 35 [Value.ref d, Value.ref a, Value.null, Value.ref v, Value.int (zi (kn : Int))] [Value.ref s, Value.ref d] h32 Q
    obtain ⟨h35, e35, w35, f35⟩ := obj_pf (k := 0) (v := Value.ref s) NO32 (Nat.le_of_ble_eq_true rfl)
    have N_35 : AI h35 s 4 kn g := by have z_ := ai_fr y32 f35 (by omega); exact z_
    have Z_35 : h35.2 = (some (s + 1), c + 1, cw + kn) := f35.1.trans z32
    have F_35 : ∀ q, ((q < s ∧ q ≠ d) ∨ s + 3 ≤ q) → h35.1 q = h.1 q := fun q hq => (f35.2 q (by omega)).trans (F32 q hq)
    replace w35 : h35.1 d = some (.inr (9, [Value.ref s, Value.int (zi 0), Value.int (zi 0), Value.int (zi 0)])) := w35
    refine xv (x_putfield 38 d_J0_init_db425_35 rfl f_12_9 (Nat.le_of_ble_eq_true rfl) e35 rfl rfl (fun _ => ⟨rfl, rfl⟩)) ?_
    show Xv E q_m_J0_init_db425 38 [Value.ref d, Value.ref a, Value.null, Value.ref v, Value.int (zi (kn : Int))] [] h35 Q
    refine xv (x_goto 97 d_J0_init_db425_38 rfl) ?_
    refine xv_r (x_return d_J0_init_db425_97 rfl) ?_
    exact hQ _ _ ⟨rfl, w35, N_35, Z_35, F_35⟩
theorem S_J0_initB (hE : q_EN E N) (hO : h.1 d = some (.inr (9, q_df 9))) (hB : SBO h a v cp kn g) (hcp : cp ≤ 2000) (hf : ∀ i : Int, 0 ≤ i → i < cp → 0 ≤ g i ∧ g i ≤ 127) (hs : h.2 = (some s, c, cw)) (hd : d < s ∧ a < s ∧ v < s) (n1 : d ≠ a) (n2 : d ≠ v) (hk : kn ≤ cp ∧ kn ≤ 100) : ∃ r_ h', q_cl E q_m_J0_init_81219 [Value.ref d, Value.ref a] h = some (r_, h') ∧ (r_ = .inl none ∧ h'.1 d = some (.inr (9, [.ref s, .int (zi 0), .int (zi 0), .int (zi 0)])) ∧ AI h' s 4 kn g ∧ h'.2 = (some (s + 1), c + 1, cw + kn) ∧ (∀ q, ((q < s ∧ q ≠ d) ∨ s + 3 ≤ q) → h'.1 q = h.1 q)) := by
  suffices K : ∀ Q : q_R → q_H → Prop, (∀ r_ h', (r_ = .inl none ∧ h'.1 d = some (.inr (9, [.ref s, .int (zi 0), .int (zi 0), .int (zi 0)])) ∧ AI h' s 4 kn g ∧ h'.2 = (some (s + 1), c + 1, cw + kn) ∧ (∀ q, ((q < s ∧ q ≠ d) ∨ s + 3 ≤ q) → h'.1 q = h.1 q)) → Q r_ h') → Xv E q_m_J0_init_81219 0 [Value.ref d, Value.ref a] [] h Q from K _ fun _ _ p => p
  intro Q hQ
  refine xv (x_aload_n 1 d_J0_init_81219_0 rfl rfl) ?_
  refine xv (x_aload_n 2 d_J0_init_81219_1 rfl rfl) ?_
  refine xv (x_aconst_null 3 d_J0_init_81219_2 rfl) ?_
  obtain ⟨r3, h3, e3, x3, K3⟩ := S_J0_initA (E := E) hE hO hB hcp hf hs hd n1 n2 hk
  subst x3
  refine xv (x_ini 6 (as := [Value.ref a, Value.null]) d_J0_init_81219_3 rfl c_12_489 rfl (Nat.le_of_ble_eq_true rfl) (Nat.le_of_ble_eq_true rfl) (Nat.le_of_ble_eq_true rfl) rfl e3) ?_
  show Xv E q_m_J0_init_81219 6 [Value.ref d, Value.ref a] [] h3 Q
  refine xv_r (x_return d_J0_init_81219_6 rfl) ?_
  exact hQ _ _ ⟨rfl, K3⟩
theorem S_J4_toString (hE : q_EN E N) (hB : SBO h a v cp kn g) (hcp : cp ≤ 2000) (hf : ∀ i : Int, 0 ≤ i → i < cp → 0 ≤ g i ∧ g i ≤ 127) (hs : h.2 = (some s, c, cw)) (hd : a < s ∧ v < s) (hk : kn ≤ cp ∧ kn ≤ 100) : ∃ r_ h', q_cl E q_m_J4_toString_0e30d [Value.ref a] h = some (r_, h') ∧ (r_ = .inl (some (.ref s)) ∧ h'.1 s = some (.inr (9, [.ref (s + 1), .int (zi 0), .int (zi 0), .int (zi 0)])) ∧ AI h' (s + 1) 4 kn g ∧ h'.2 = (some (s + 2), c + 2, cw + 4 + kn) ∧ (∀ q, (q < s ∨ s + 4 ≤ q) → h'.1 q = h.1 q)) := by
  suffices K : ∀ Q : q_R → q_H → Prop, (∀ r_ h', (r_ = .inl (some (.ref s)) ∧ h'.1 s = some (.inr (9, [.ref (s + 1), .int (zi 0), .int (zi 0), .int (zi 0)])) ∧ AI h' (s + 1) 4 kn g ∧ h'.2 = (some (s + 2), c + 2, cw + 4 + kn) ∧ (∀ q, (q < s ∨ s + 4 ≤ q) → h'.1 q = h.1 q)) → Q r_ h') → Xv E q_m_J4_toString_0e30d 0 [Value.ref a] [] h Q from K _ fun _ _ p => p
  intro Q hQ
  obtain ⟨h0, e0, a0, f0, z0⟩ := al_x (h := h) (e := .inr (9, q_df 9)) (n := q_N 9) hs
  have O_0 : h0.1 a = some (.inr (8, [Value.ref v, Value.int (zi 0), Value.int (zi 0), Value.int (zi (kn : Int))])) := (f0.2 _ (by omega)).trans hB.1
  have V_0 : AI h0 v 4 cp g := by have z_ := ai_fr hB.2 f0 (by omega); exact z_
  refine xv (xA_new 3 d_J4_toString_0e30d_0 rfl rfl (Nat.le_of_ble_eq_true rfl) (sz_1 hs) e0) ?_
  show Xv E q_m_J4_toString_0e30d 3 [Value.ref a] [Value.ref s] h0 Q
  refine xv (x_dup 4 d_J4_toString_0e30d_3 rfl rfl) ?_
  refine xv (x_aload_n 5 d_J4_toString_0e30d_4 rfl rfl) ?_
  obtain ⟨r5, h5, e5, x5, y5, N5, z5, f5⟩ := S_J0_initB (E := E) (d := s) hE a0 ⟨O_0, V_0⟩ hcp hf z0 (by omega) (by omega) (by omega) hk
  subst x5
  refine xv (x_ini 8 (as := [Value.ref a]) d_J4_toString_0e30d_5 rfl c_8_137 rfl (Nat.le_of_ble_eq_true rfl) (Nat.le_of_ble_eq_true rfl) (Nat.le_of_ble_eq_true rfl) rfl e5) ?_
  show Xv E q_m_J4_toString_0e30d 8 [Value.ref a] [Value.ref s] h5 Q
  refine xv_r (x_areturn d_J4_toString_0e30d_8 rfl) ?_
  exact hQ _ _ ⟨rfl, y5, N5, z5, fun q hq => (f5 q (by omega)).trans (f0.2 q (by omega))⟩
end E2
