/-! what the class's robots, orders and warehouse answer, readings (printed by program) -/
section CR
variable {E : q_E} {h : q_H} {w a : Nat} {l f : Int → Int} {p : Int → Nat}
/-- the greatest of the places below n of which P says yes; -1: none -/
noncomputable def bfd (P : Int → Prop) : Nat → Int
  | 0 => -1
  | n + 1 => @ite _ (P n) (Classical.propDecidable _) n (bfd P n)
theorem bfd_t {P : Int → Prop} {n : Nat} (h : P n) : bfd P (n + 1) = n := if_pos h
theorem bfd_f {P : Int → Prop} {n : Nat} (h : ¬ P n) : bfd P (n + 1) = bfd P n := if_neg h
theorem bfd_r {P : Int → Prop} : ∀ {n : Nat}, -1 ≤ bfd P n ∧ bfd P n < n
  | 0 => ⟨by show (-1 : Int) ≤ -1; omega, by show (-1 : Int) < 0; omega⟩
  | n + 1 => by
    have := @bfd_r P n
    by_cases h : P n
    · rw [bfd_t h]; omega
    · rw [bfd_f h]; omega
theorem ahf_r {f : Int → Int} {n o t : Int} (hf : Rf n o f) (h : 0 ≤ t) : 0 ≤ ahf f t ∧ ahf f t < n := by
  obtain ⟨e0, e1, e2, e3, e4, e5, e6⟩ := hf
  unfold ahf
  split
  · exact e0
  · split
    · have := e6 (f 3 - 1) (by omega) (by omega)
      rw [show 6 + f 3 - 1 = 6 + (f 3 - 1) by omega]
      exact this
    · have := e6 (t - 1) (by omega) (by omega)
      rw [show 6 + t - 1 = 6 + (t - 1) by omega]
      exact this
/-- the last tick ahead in a cell as the class counts it: 30: for good -/
noncomputable def lti (f : Int → Int) (c : Int) : Int := @ite _ (ahf f (f 3) = c) (Classical.propDecidable _) 30 (bfd (fun t => ahf f t = c) (f 3 + 1).toNat)
theorem lti_r {f : Int → Int} {c : Int} (h : 0 ≤ f 3 ∧ f 3 ≤ 30) : -1 ≤ lti f c ∧ lti f c ≤ 30 := by
  have := @bfd_r (fun t => ahf f t = c) (f 3 + 1).toNat
  unfold lti
  split <;> omega
theorem bfd_b {P : Int → Prop} {k : Int} (h : 0 ≤ k) (hp : ¬ P k) : bfd P (k + 1).toNat = bfd P k.toNat := by
  rw [show (k + 1).toNat = k.toNat + 1 by omega, bfd_f (by rw [Int.toNat_of_nonneg h]; exact hp)]
theorem bfd_h {P : Int → Prop} {k : Int} (h : 0 ≤ k) (hp : P k) : bfd P (k + 1).toNat = k := by
  rw [show (k + 1).toNat = k.toNat + 1 by omega, bfd_t (by rw [Int.toNat_of_nonneg h]; exact hp), Int.toNat_of_nonneg h]
theorem ahf_0 {f : Int → Int} {t : Int} (h : t = 0 ∨ f 3 = 0) : ahf f t = f 0 := if_pos h
theorem ahf_1 {f : Int → Int} {t : Int} (h : 0 < t) (k : t ≤ f 3) : ahf f t = f (6 + (t - 1)) := by
  unfold ahf
  rw [if_neg (by omega), if_neg (by omega), show 6 + t - 1 = 6 + (t - 1) by omega]
theorem ahf_2 {f : Int → Int} {t : Int} (h : 0 < f 3) (k : f 3 ≤ t) : ahf f t = f (6 + (f 3 - 1)) := by
  unfold ahf
  rw [if_neg (by omega)]
  by_cases e : t > f 3
  · rw [if_pos e, show 6 + f 3 - 1 = 6 + (f 3 - 1) by omega]
  · rw [if_neg e, show t = f 3 by omega, show 6 + f 3 - 1 = 6 + (f 3 - 1) by omega]
abbrev evr (f : Int → Int) (c : Int) : Prop := ∃ t, (0 ≤ t ∧ t ≤ f 3) ∧ ahf f t = c
theorem S_X5_cellAhead (hA : RB h a f) {n o : Int} (hf : Rf n o f) {t : Int} (t0 : 0 ≤ t) (t1 : t < 2147483648) : q_cl E q_m_X5_cellAhead [Value.ref a, Value.int (zi t)] h = some (.inl (some (Value.int (zi (ahf f t)))), h) := by
  suffices K : ∀ Q : q_R → q_H → Prop, Q (.inl (some (Value.int (zi (ahf f t))))) h → Xv E q_m_X5_cellAhead 0 [Value.ref a, Value.int (zi t), Value.null] [] h Q by
    obtain ⟨r_, g_, a_, b_, c_⟩ := K (fun r_ g_ => r_ = .inl (some (Value.int (zi (ahf f t)))) ∧ g_ = h) ⟨rfl, rfl⟩
    subst b_; subst c_; exact a_
  intro Q hQ
  obtain ⟨e0, e1, e2, e3, e4, e5, e6⟩ := id hf
  refine xv (x_iload_n 1 d_X5_cellAhead_0 rfl rfl) ?_
  refine xv (x_aload_n 2 d_X5_cellAhead_1 rfl rfl) ?_
  refine xv (x_getfield 5 d_X5_cellAhead_2 rfl f_5_28 (Nat.le_of_ble_eq_true rfl) (Nat.le_of_ble_eq_true rfl) (q_gf_of hA.1 rfl)) ?_
  refine v_icmp_ge 12 8 d_X5_cellAhead_5 rfl rfl (by omega) (by omega) (by omega) (by omega) (fun k5 => ?_) (fun k5 => ?_)
  · refine xv (x_aload_n 13 d_X5_cellAhead_12 rfl rfl) ?_
    refine xv (x_getfield 16 d_X5_cellAhead_13 rfl f_5_28 (Nat.le_of_ble_eq_true rfl) (Nat.le_of_ble_eq_true rfl) (q_gf_of hA.1 rfl)) ?_
    refine xv (x_iconst 17 d_X5_cellAhead_16 rfl) ?_
    refine xv (x_isub 18 d_X5_cellAhead_17 rfl) ?_
    refine xv (x_istore_n 19 d_X5_cellAhead_18 rfl (Nat.le_of_ble_eq_true rfl)) ?_
    show Xv E q_m_X5_cellAhead 19 [Value.ref a, Value.int (zi t), Value.int (zi ((f 3) - 1))] [] h Q
    refine xv (x_iload_n 20 d_X5_cellAhead_19 rfl rfl) ?_
    refine v_if_lt 32 23 d_X5_cellAhead_20 rfl rfl (by omega) (by omega) (fun k20 => ?_) (fun k20 => ?_)
    · refine xv (x_aload_n 33 d_X5_cellAhead_32 rfl rfl) ?_
      refine xv (x_getfield 36 d_X5_cellAhead_33 rfl f_5_19 (Nat.le_of_ble_eq_true rfl) (Nat.le_of_ble_eq_true rfl) (q_gf_of hA.1 rfl)) ?_
      refine xv (x_goto 45 d_X5_cellAhead_36 rfl) ?_
      refine xv_r (x_ireturn d_X5_cellAhead_45 rfl rfl) ?_
      refine lq hQ ?_
      first | exact (ahf_0 (by omega)).symm | exact (ahf_1 (by omega) (by omega)).symm | exact (ahf_2 (by omega) (by omega)).symm
    · refine xv (x_iload_n 24 d_X5_cellAhead_23 rfl rfl) ?_
      refine xv (x_aload_n 25 d_X5_cellAhead_24 rfl rfl) ?_
      refine xv (x_getfield 28 d_X5_cellAhead_25 rfl f_5_9 (Nat.le_of_ble_eq_true rfl) (Nat.le_of_ble_eq_true rfl) (q_gf_of hA.1 rfl)) ?_
      refine xv (x_arraylength 29 d_X5_cellAhead_28 rfl (ai_l hA.2 (by decide))) ?_
      refine v_icmp_lt 39 32 d_X5_cellAhead_29 rfl rfl (by omega) (by omega) (by omega) (by omega) (fun k29 => ?_) (fun k29 => ?_)
      · refine xv (x_aload_n 40 d_X5_cellAhead_39 rfl rfl) ?_
        refine xv (x_getfield 43 d_X5_cellAhead_40 rfl f_5_9 (Nat.le_of_ble_eq_true rfl) (Nat.le_of_ble_eq_true rfl) (q_gf_of hA.1 rfl)) ?_
        refine xv (x_iload_n 44 d_X5_cellAhead_43 rfl rfl) ?_
        refine xv (x_iaload 45 d_X5_cellAhead_44 rfl (ai_g hA.2 (by omega) (by omega) (by decide))) ?_
        refine xv_r (x_ireturn d_X5_cellAhead_45 rfl rfl) ?_
        refine lq hQ ?_
        first | exact (ahf_0 (by omega)).symm | exact (ahf_1 (by omega) (by omega)).symm | exact (ahf_2 (by omega) (by omega)).symm
      · refine xv (x_aload_n 33 d_X5_cellAhead_32 rfl rfl) ?_
        refine xv (x_getfield 36 d_X5_cellAhead_33 rfl f_5_19 (Nat.le_of_ble_eq_true rfl) (Nat.le_of_ble_eq_true rfl) (q_gf_of hA.1 rfl)) ?_
        refine xv (x_goto 45 d_X5_cellAhead_36 rfl) ?_
        refine xv_r (x_ireturn d_X5_cellAhead_45 rfl rfl) ?_
        refine lq hQ ?_
        first | exact (ahf_0 (by omega)).symm | exact (ahf_1 (by omega) (by omega)).symm | exact (ahf_2 (by omega) (by omega)).symm
  · refine xv (x_iload_n 9 d_X5_cellAhead_8 rfl rfl) ?_
    refine xv (x_goto 16 d_X5_cellAhead_9 rfl) ?_
    refine xv (x_iconst 17 d_X5_cellAhead_16 rfl) ?_
    refine xv (x_isub 18 d_X5_cellAhead_17 rfl) ?_
    refine xv (x_istore_n 19 d_X5_cellAhead_18 rfl (Nat.le_of_ble_eq_true rfl)) ?_
    show Xv E q_m_X5_cellAhead 19 [Value.ref a, Value.int (zi t), Value.int (zi (t - 1))] [] h Q
    refine xv (x_iload_n 20 d_X5_cellAhead_19 rfl rfl) ?_
    refine v_if_lt 32 23 d_X5_cellAhead_20 rfl rfl (by omega) (by omega) (fun k20 => ?_) (fun k20 => ?_)
    · refine xv (x_aload_n 33 d_X5_cellAhead_32 rfl rfl) ?_
      refine xv (x_getfield 36 d_X5_cellAhead_33 rfl f_5_19 (Nat.le_of_ble_eq_true rfl) (Nat.le_of_ble_eq_true rfl) (q_gf_of hA.1 rfl)) ?_
      refine xv (x_goto 45 d_X5_cellAhead_36 rfl) ?_
      refine xv_r (x_ireturn d_X5_cellAhead_45 rfl rfl) ?_
      refine lq hQ ?_
      first | exact (ahf_0 (by omega)).symm | exact (ahf_1 (by omega) (by omega)).symm | exact (ahf_2 (by omega) (by omega)).symm
    · refine xv (x_iload_n 24 d_X5_cellAhead_23 rfl rfl) ?_
      refine xv (x_aload_n 25 d_X5_cellAhead_24 rfl rfl) ?_
      refine xv (x_getfield 28 d_X5_cellAhead_25 rfl f_5_9 (Nat.le_of_ble_eq_true rfl) (Nat.le_of_ble_eq_true rfl) (q_gf_of hA.1 rfl)) ?_
      refine xv (x_arraylength 29 d_X5_cellAhead_28 rfl (ai_l hA.2 (by decide))) ?_
      refine v_icmp_lt 39 32 d_X5_cellAhead_29 rfl rfl (by omega) (by omega) (by omega) (by omega) (fun k29 => ?_) (fun k29 => ?_)
      · refine xv (x_aload_n 40 d_X5_cellAhead_39 rfl rfl) ?_
        refine xv (x_getfield 43 d_X5_cellAhead_40 rfl f_5_9 (Nat.le_of_ble_eq_true rfl) (Nat.le_of_ble_eq_true rfl) (q_gf_of hA.1 rfl)) ?_
        refine xv (x_iload_n 44 d_X5_cellAhead_43 rfl rfl) ?_
        refine xv (x_iaload 45 d_X5_cellAhead_44 rfl (ai_g hA.2 (by omega) (by omega) (by decide))) ?_
        refine xv_r (x_ireturn d_X5_cellAhead_45 rfl rfl) ?_
        refine lq hQ ?_
        first | exact (ahf_0 (by omega)).symm | exact (ahf_1 (by omega) (by omega)).symm | exact (ahf_2 (by omega) (by omega)).symm
      · refine xv (x_aload_n 33 d_X5_cellAhead_32 rfl rfl) ?_
        refine xv (x_getfield 36 d_X5_cellAhead_33 rfl f_5_19 (Nat.le_of_ble_eq_true rfl) (Nat.le_of_ble_eq_true rfl) (q_gf_of hA.1 rfl)) ?_
        refine xv (x_goto 45 d_X5_cellAhead_36 rfl) ?_
        refine xv_r (x_ireturn d_X5_cellAhead_45 rfl rfl) ?_
        refine lq hQ ?_
        first | exact (ahf_0 (by omega)).symm | exact (ahf_1 (by omega) (by omega)).symm | exact (ahf_2 (by omega) (by omega)).symm
theorem S_X5_lastCell (hA : RB h a f) {n o : Int} (hf : Rf n o f) : q_cl E q_m_X5_lastCell [Value.ref a] h = some (.inl (some (Value.int (zi (ahf f (f 3))))), h) := by
  suffices K : ∀ Q : q_R → q_H → Prop, Q (.inl (some (Value.int (zi (ahf f (f 3)))))) h → Xv E q_m_X5_lastCell 0 [Value.ref a] [] h Q by
    obtain ⟨r_, g_, a_, b_, c_⟩ := K (fun r_ g_ => r_ = .inl (some (Value.int (zi (ahf f (f 3))))) ∧ g_ = h) ⟨rfl, rfl⟩
    subst b_; subst c_; exact a_
  intro Q hQ
  obtain ⟨e0, e1, e2, e3, e4, e5, e6⟩ := id hf
  refine xv (x_aload_n 1 d_X5_lastCell_0 rfl rfl) ?_
  refine xv (x_aload_n 2 d_X5_lastCell_1 rfl rfl) ?_
  refine xv (x_getfield 5 d_X5_lastCell_2 rfl f_5_28 (Nat.le_of_ble_eq_true rfl) (Nat.le_of_ble_eq_true rfl) (q_gf_of hA.1 rfl)) ?_
  refine xv (x_inv1 8 (as := [Value.int (zi (f 3))]) d_X5_lastCell_5 rfl c_5_40 rfl (Nat.le_of_ble_eq_true rfl) (Nat.le_of_ble_eq_true rfl) hA.1 (Nat.le_of_ble_eq_true rfl) (Nat.le_of_ble_eq_true rfl) rfl (S_X5_cellAhead hA hf (by omega) (by omega))) ?_
  have q5 := ahf_r (t := f 3) hf (by omega)
  show Xv E q_m_X5_lastCell 8 [Value.ref a] [Value.int (zi (ahf (f) (f 3)))] h Q
  refine xv_r (x_ireturn d_X5_lastCell_8 rfl rfl) ?_
  refine lq hQ ?_
  rfl
theorem S_X5_isEverIn (hA : RB h a f) {n o : Int} (hf : Rf n o f) (hn : n ≤ 48) {c : Int} (c0 : -2147483648 ≤ c) (c1 : c < 2147483648) : q_cl E q_m_X5_isEverIn [Value.ref a, Value.int (zi c)] h = some (.inl (some (Value.int (zi (bI (evr f c))))), h) := by
  suffices K : ∀ Q : q_R → q_H → Prop, Q (.inl (some (Value.int (zi (bI (evr f c)))))) h → Xv E q_m_X5_isEverIn 0 [Value.ref a, Value.int (zi c), Value.null] [] h Q by
    obtain ⟨r_, g_, a_, b_, c_⟩ := K (fun r_ g_ => r_ = .inl (some (Value.int (zi (bI (evr f c))))) ∧ g_ = h) ⟨rfl, rfl⟩
    subst b_; subst c_; exact a_
  intro Q hQ
  obtain ⟨e0, e1, e2, e3, e4, e5, e6⟩ := id hf
  refine xv (x_iconst 1 d_X5_isEverIn_0 rfl) ?_
  refine xv (x_istore_n 2 d_X5_isEverIn_1 rfl (Nat.le_of_ble_eq_true rfl)) ?_
  show Xv E q_m_X5_isEverIn 2 [Value.ref a, Value.int (zi c), Value.int (zi 0)] [] h Q
  have L2 : ∀ (n : Nat) (k : Int), (0 ≤ k) → (k ≤ f 3 + 1) → (∀ t, 0 ≤ t → t < k → ¬ ahf f t = c) → (f 3 + 1 - k).toNat = n → Xv E q_m_X5_isEverIn 2 [Value.ref a, Value.int (zi c), Value.int (zi k)] [] h Q := by
    intro n
    induction n using Nat.strongRecOn with
    | _ n ih2 =>
      intro k k0 k1 hk em
      refine xv (x_iload_n 3 d_X5_isEverIn_2 rfl rfl) ?_
      refine xv (x_aload_n 4 d_X5_isEverIn_3 rfl rfl) ?_
      refine xv (x_getfield 7 d_X5_isEverIn_4 rfl f_5_28 (Nat.le_of_ble_eq_true rfl) (Nat.le_of_ble_eq_true rfl) (q_gf_of hA.1 rfl)) ?_
      refine v_icmp_gt 27 10 d_X5_isEverIn_7 rfl rfl (by omega) (by omega) (by omega) (by omega) (fun k7 => ?_) (fun k7 => ?_)
      · refine xv (x_iconst 28 d_X5_isEverIn_27 rfl) ?_
        refine xv_r (x_ireturn d_X5_isEverIn_28 rfl rfl) ?_
        refine lq hQ ?_
        refine (bI_f ?_).symm
        rintro ⟨t, ht, e⟩
        exact hk t ht.1 (by omega) e
      · refine xv (x_aload_n 11 d_X5_isEverIn_10 rfl rfl) ?_
        refine xv (x_iload_n 12 d_X5_isEverIn_11 rfl rfl) ?_
        refine xv (x_inv1 15 (as := [Value.int (zi k)]) d_X5_isEverIn_12 rfl c_5_40 rfl (Nat.le_of_ble_eq_true rfl) (Nat.le_of_ble_eq_true rfl) hA.1 (Nat.le_of_ble_eq_true rfl) (Nat.le_of_ble_eq_true rfl) rfl (S_X5_cellAhead hA hf (by omega) (by omega))) ?_
        have q12 := ahf_r (t := k) hf (by omega)
        show Xv E q_m_X5_isEverIn 15 [Value.ref a, Value.int (zi c), Value.int (zi k)] [Value.int (zi (ahf (f) k))] h Q
        refine xv (x_iload_n 16 d_X5_isEverIn_15 rfl rfl) ?_
        refine v_icmp_ne 21 19 d_X5_isEverIn_16 rfl rfl (by omega) (by omega) (by omega) (by omega) (fun k16 => ?_) (fun k16 => ?_)
        · refine xv (x_iinc 24 d_X5_isEverIn_21 rfl rfl) ?_
          show Xv E q_m_X5_isEverIn 24 [Value.ref a, Value.int (zi c), Value.int (zi (k + 1))] [] h Q
          refine xv (x_goto 2 d_X5_isEverIn_24 rfl) ?_
          refine ih2 _ (by omega) (k + 1) (by omega) (by omega) (fun t a b => ?_) rfl
          rcases (by omega : t < k ∨ t = k) with z | z
          · exact hk t a z
          · rw [z]; exact k16
        · refine xv (x_iconst 20 d_X5_isEverIn_19 rfl) ?_
          refine xv_r (x_ireturn d_X5_isEverIn_20 rfl rfl) ?_
          refine lq hQ ?_
          exact (bI_t ⟨k, by omega, k16⟩).symm
  exact L2 _ 0 (by omega) (by omega) (fun t a b => by omega) rfl
theorem S_X5_lastTickIn (hA : RB h a f) {n o : Int} (hf : Rf n o f) (hn : n ≤ 48) {c : Int} (c0 : -2147483648 ≤ c) (c1 : c < 2147483648) : q_cl E q_m_X5_lastTickIn [Value.ref a, Value.int (zi c)] h = some (.inl (some (Value.int (zi (lti f c)))), h) := by
  suffices K : ∀ Q : q_R → q_H → Prop, Q (.inl (some (Value.int (zi (lti f c))))) h → Xv E q_m_X5_lastTickIn 0 [Value.ref a, Value.int (zi c), Value.null] [] h Q by
    obtain ⟨r_, g_, a_, b_, c_⟩ := K (fun r_ g_ => r_ = .inl (some (Value.int (zi (lti f c)))) ∧ g_ = h) ⟨rfl, rfl⟩
    subst b_; subst c_; exact a_
  intro Q hQ
  obtain ⟨e0, e1, e2, e3, e4, e5, e6⟩ := id hf
  refine xv (x_aload_n 1 d_X5_lastTickIn_0 rfl rfl) ?_
  refine xv (x_inv1 4 (as := []) d_X5_lastTickIn_1 rfl c_5_44 rfl (Nat.le_of_ble_eq_true rfl) (Nat.le_of_ble_eq_true rfl) hA.1 (Nat.le_of_ble_eq_true rfl) (Nat.le_of_ble_eq_true rfl) rfl (S_X5_lastCell hA hf)) ?_
  have q1 := ahf_r (t := f 3) hf (by omega)
  show Xv E q_m_X5_lastTickIn 4 [Value.ref a, Value.int (zi c), Value.null] [Value.int (zi (ahf (f) (f 3)))] h Q
  refine xv (x_iload_n 5 d_X5_lastTickIn_4 rfl rfl) ?_
  refine v_icmp_ne 11 8 d_X5_lastTickIn_5 rfl rfl (by omega) (by omega) (by omega) (by omega) (fun k5 => ?_) (fun k5 => ?_)
  · refine xv (x_aload_n 12 d_X5_lastTickIn_11 rfl rfl) ?_
    refine xv (x_getfield 15 d_X5_lastTickIn_12 rfl f_5_28 (Nat.le_of_ble_eq_true rfl) (Nat.le_of_ble_eq_true rfl) (q_gf_of hA.1 rfl)) ?_
    refine xv (x_istore_n 16 d_X5_lastTickIn_15 rfl (Nat.le_of_ble_eq_true rfl)) ?_
    show Xv E q_m_X5_lastTickIn 16 [Value.ref a, Value.int (zi c), Value.int (zi (f 3))] [] h Q
    have L16 : ∀ (n : Nat) (k : Int), (-1 ≤ k) → (k ≤ f 3) → (lti f c = bfd (fun t => ahf f t = c) (k + 1).toNat) → (k + 1).toNat = n → Xv E q_m_X5_lastTickIn 16 [Value.ref a, Value.int (zi c), Value.int (zi k)] [] h Q := by
      intro n
      induction n using Nat.strongRecOn with
      | _ n ih16 =>
        intro k k0 k1 hv em
        refine xv (x_iload_n 17 d_X5_lastTickIn_16 rfl rfl) ?_
        refine v_if_lt 37 20 d_X5_lastTickIn_17 rfl rfl (by omega) (by omega) (fun k17 => ?_) (fun k17 => ?_)
        · refine xv (x_iconst 38 d_X5_lastTickIn_37 rfl) ?_
          refine xv_r (x_ireturn d_X5_lastTickIn_38 rfl rfl) ?_
          refine lq hQ ?_
          rw [hv, show (k + 1).toNat = 0 by omega]; rfl
        · refine xv (x_aload_n 21 d_X5_lastTickIn_20 rfl rfl) ?_
          refine xv (x_iload_n 22 d_X5_lastTickIn_21 rfl rfl) ?_
          refine xv (x_inv1 25 (as := [Value.int (zi k)]) d_X5_lastTickIn_22 rfl c_5_40 rfl (Nat.le_of_ble_eq_true rfl) (Nat.le_of_ble_eq_true rfl) hA.1 (Nat.le_of_ble_eq_true rfl) (Nat.le_of_ble_eq_true rfl) rfl (S_X5_cellAhead hA hf (by omega) (by omega))) ?_
          have q22 := ahf_r (t := k) hf (by omega)
          show Xv E q_m_X5_lastTickIn 25 [Value.ref a, Value.int (zi c), Value.int (zi k)] [Value.int (zi (ahf (f) k))] h Q
          refine xv (x_iload_n 26 d_X5_lastTickIn_25 rfl rfl) ?_
          refine v_icmp_ne 31 29 d_X5_lastTickIn_26 rfl rfl (by omega) (by omega) (by omega) (by omega) (fun k26 => ?_) (fun k26 => ?_)
          · refine xv (x_iinc 34 d_X5_lastTickIn_31 rfl rfl) ?_
            show Xv E q_m_X5_lastTickIn 34 [Value.ref a, Value.int (zi c), Value.int (zi (k + (-1)))] [] h Q
            refine xv (x_goto 16 d_X5_lastTickIn_34 rfl) ?_
            refine ih16 _ (by omega) (k + -1) (by omega) (by omega) ?_ rfl
            rw [hv, show k + -1 + 1 = k by omega]
            exact bfd_b (P := fun t => ahf f t = c) (by omega) k26
          · refine xv (x_iload_n 30 d_X5_lastTickIn_29 rfl rfl) ?_
            refine xv_r (x_ireturn d_X5_lastTickIn_30 rfl rfl) ?_
            refine lq hQ ?_
            rw [hv]; exact (bfd_h (P := fun t => ahf f t = c) (by omega) k26).symm
    exact L16 _ (f 3) (by omega) (by omega) (if_neg k5) rfl
  · refine xv (x_bipush 10 d_X5_lastTickIn_8 rfl rfl) ?_
    refine xv_r (x_ireturn d_X5_lastTickIn_10 rfl rfl) ?_
    refine lq hQ ?_
    exact (if_pos k5).symm
theorem S_X3_linesLeft (hA : OB h a f) {n : Int} (hf : Of n f) : q_cl E q_m_X3_linesLeft [Value.ref a] h = some (.inl (some (Value.int (zi (f 1 - f 2)))), h) := by
  suffices K : ∀ Q : q_R → q_H → Prop, Q (.inl (some (Value.int (zi (f 1 - f 2))))) h → Xv E q_m_X3_linesLeft 0 [Value.ref a] [] h Q by
    obtain ⟨r_, g_, a_, b_, c_⟩ := K (fun r_ g_ => r_ = .inl (some (Value.int (zi (f 1 - f 2)))) ∧ g_ = h) ⟨rfl, rfl⟩
    subst b_; subst c_; exact a_
  intro Q hQ
  obtain ⟨e0, e1, e2, e4, e5, e6⟩ := id hf
  refine xv (x_aload_n 1 d_X3_linesLeft_0 rfl rfl) ?_
  refine xv (x_getfield 4 d_X3_linesLeft_1 rfl f_3_22 (Nat.le_of_ble_eq_true rfl) (Nat.le_of_ble_eq_true rfl) (q_gf_of hA.1 rfl)) ?_
  refine xv (x_aload_n 5 d_X3_linesLeft_4 rfl rfl) ?_
  refine xv (x_getfield 8 d_X3_linesLeft_5 rfl f_3_25 (Nat.le_of_ble_eq_true rfl) (Nat.le_of_ble_eq_true rfl) (q_gf_of hA.1 rfl)) ?_
  refine xv (x_isub 9 d_X3_linesLeft_8 rfl) ?_
  refine xv_r (x_ireturn d_X3_linesLeft_9 rfl rfl) ?_
  refine lq hQ ?_
  rfl
theorem S_X3_isNextLine (hA : OB h a f) {n : Int} (hf : Of n f) (hn : n ≤ 48) {c : Int} (c0 : -2147483648 ≤ c) (c1 : c < 2147483648) : q_cl E q_m_X3_isNextLine [Value.ref a, Value.int (zi c)] h = some (.inl (some (Value.int (zi (bI (f 2 < f 1 ∧ f (5 + f 2) = c))))), h) := by
  suffices K : ∀ Q : q_R → q_H → Prop, Q (.inl (some (Value.int (zi (bI (f 2 < f 1 ∧ f (5 + f 2) = c)))))) h → Xv E q_m_X3_isNextLine 0 [Value.ref a, Value.int (zi c)] [] h Q by
    obtain ⟨r_, g_, a_, b_, c_⟩ := K (fun r_ g_ => r_ = .inl (some (Value.int (zi (bI (f 2 < f 1 ∧ f (5 + f 2) = c))))) ∧ g_ = h) ⟨rfl, rfl⟩
    subst b_; subst c_; exact a_
  intro Q hQ
  obtain ⟨e0, e1, e2, e4, e5, e6⟩ := id hf
  refine xv (x_aload_n 1 d_X3_isNextLine_0 rfl rfl) ?_
  refine xv (x_getfield 4 d_X3_isNextLine_1 rfl f_3_25 (Nat.le_of_ble_eq_true rfl) (Nat.le_of_ble_eq_true rfl) (q_gf_of hA.1 rfl)) ?_
  refine v_if_lt 47 7 d_X3_isNextLine_4 rfl rfl (by omega) (by omega) (fun k4 => ?_) (fun k4 => ?_)
  · refine xv (x_iconst 48 d_X3_isNextLine_47 rfl) ?_
    refine xv_r (x_ireturn d_X3_isNextLine_48 rfl rfl) ?_
    refine lq hQ ?_
    exact (bI_f (by omega)).symm
  · refine xv (x_aload_n 8 d_X3_isNextLine_7 rfl rfl) ?_
    refine xv (x_getfield 11 d_X3_isNextLine_8 rfl f_3_25 (Nat.le_of_ble_eq_true rfl) (Nat.le_of_ble_eq_true rfl) (q_gf_of hA.1 rfl)) ?_
    refine xv (x_aload_n 12 d_X3_isNextLine_11 rfl rfl) ?_
    refine xv (x_getfield 15 d_X3_isNextLine_12 rfl f_3_22 (Nat.le_of_ble_eq_true rfl) (Nat.le_of_ble_eq_true rfl) (q_gf_of hA.1 rfl)) ?_
    refine v_icmp_ge 47 18 d_X3_isNextLine_15 rfl rfl (by omega) (by omega) (by omega) (by omega) (fun k15 => ?_) (fun k15 => ?_)
    · refine xv (x_iconst 48 d_X3_isNextLine_47 rfl) ?_
      refine xv_r (x_ireturn d_X3_isNextLine_48 rfl rfl) ?_
      refine lq hQ ?_
      exact (bI_f (by omega)).symm
    · refine xv (x_aload_n 19 d_X3_isNextLine_18 rfl rfl) ?_
      refine xv (x_getfield 22 d_X3_isNextLine_19 rfl f_3_25 (Nat.le_of_ble_eq_true rfl) (Nat.le_of_ble_eq_true rfl) (q_gf_of hA.1 rfl)) ?_
      refine xv (x_aload_n 23 d_X3_isNextLine_22 rfl rfl) ?_
      refine xv (x_getfield 26 d_X3_isNextLine_23 rfl f_3_9 (Nat.le_of_ble_eq_true rfl) (Nat.le_of_ble_eq_true rfl) (q_gf_of hA.1 rfl)) ?_
      refine xv (x_arraylength 27 d_X3_isNextLine_26 rfl (ai_l hA.2 (by decide))) ?_
      refine v_icmp_ge 47 30 d_X3_isNextLine_27 rfl rfl (by omega) (by omega) (by omega) (by omega) (fun k27 => ?_) (fun k27 => ?_)
      · refine xv (x_iconst 48 d_X3_isNextLine_47 rfl) ?_
        refine xv_r (x_ireturn d_X3_isNextLine_48 rfl rfl) ?_
        refine lq hQ ?_
        exact (bI_f (by omega)).symm
      · refine xv (x_aload_n 31 d_X3_isNextLine_30 rfl rfl) ?_
        refine xv (x_getfield 34 d_X3_isNextLine_31 rfl f_3_9 (Nat.le_of_ble_eq_true rfl) (Nat.le_of_ble_eq_true rfl) (q_gf_of hA.1 rfl)) ?_
        refine xv (x_aload_n 35 d_X3_isNextLine_34 rfl rfl) ?_
        refine xv (x_getfield 38 d_X3_isNextLine_35 rfl f_3_25 (Nat.le_of_ble_eq_true rfl) (Nat.le_of_ble_eq_true rfl) (q_gf_of hA.1 rfl)) ?_
        refine xv (x_iaload 39 d_X3_isNextLine_38 rfl (ai_g hA.2 (by omega) (by omega) (by decide))) ?_
        have q38 := e5 (f 2) (by omega) (by omega)
        refine xv (x_iload_n 40 d_X3_isNextLine_39 rfl rfl) ?_
        refine v_icmp_ne 47 43 d_X3_isNextLine_40 rfl rfl (by omega) (by omega) (by omega) (by omega) (fun k40 => ?_) (fun k40 => ?_)
        · refine xv (x_iconst 48 d_X3_isNextLine_47 rfl) ?_
          refine xv_r (x_ireturn d_X3_isNextLine_48 rfl rfl) ?_
          refine lq hQ ?_
          exact (bI_f (by omega)).symm
        · refine xv (x_iconst 44 d_X3_isNextLine_43 rfl) ?_
          refine xv (x_goto 48 d_X3_isNextLine_44 rfl) ?_
          refine xv_r (x_ireturn d_X3_isNextLine_48 rfl rfl) ?_
          refine lq hQ ?_
          exact (bI_t (by omega)).symm
theorem S_X6_cellCount (hW : WH h w l p) (hR : RgC l)  : q_cl E q_m_X6_cellCount [Value.ref w] h = some (.inl (some (Value.int (zi (cs l)))), h) := by
  suffices K : ∀ Q : q_R → q_H → Prop, Q (.inl (some (Value.int (zi (cs l))))) h → Xv E q_m_X6_cellCount 0 [Value.ref w] [] h Q by
    obtain ⟨r_, g_, a_, b_, c_⟩ := K (fun r_ g_ => r_ = .inl (some (Value.int (zi (cs l)))) ∧ g_ = h) ⟨rfl, rfl⟩
    subst b_; subst c_; exact a_
  intro Q hQ
  obtain ⟨g0, g1, g2, g3, g4, gc, g5, g6, g7, gk, gl, gr, go⟩ := id hR
  refine xv (x_aload_n 1 d_X6_cellCount_0 rfl rfl) ?_
  refine xv (x_getfield 4 d_X6_cellCount_1 rfl f_6_9 (Nat.le_of_ble_eq_true rfl) (Nat.le_of_ble_eq_true rfl) (q_gf_of (wh_o hW) rfl)) ?_
  refine xv (x_aload_n 5 d_X6_cellCount_4 rfl rfl) ?_
  refine xv (x_getfield 8 d_X6_cellCount_5 rfl f_6_15 (Nat.le_of_ble_eq_true rfl) (Nat.le_of_ble_eq_true rfl) (q_gf_of (wh_o hW) rfl)) ?_
  refine xv (x_imul 9 d_X6_cellCount_8 rfl) ?_
  refine xv_r (x_ireturn d_X6_cellCount_9 rfl rfl) ?_
  refine lq hQ ?_
  rfl
theorem S_X6_isCell (hW : WH h w l p) (hR : RgC l) {c : Int} (c0 : -2147483648 ≤ c) (c1 : c < 2147483648) : q_cl E q_m_X6_isCell [Value.ref w, Value.int (zi c)] h = some (.inl (some (Value.int (zi (bI (isC l c))))), h) := by
  suffices K : ∀ Q : q_R → q_H → Prop, Q (.inl (some (Value.int (zi (bI (isC l c)))))) h → Xv E q_m_X6_isCell 0 [Value.ref w, Value.int (zi c)] [] h Q by
    obtain ⟨r_, g_, a_, b_, c_⟩ := K (fun r_ g_ => r_ = .inl (some (Value.int (zi (bI (isC l c))))) ∧ g_ = h) ⟨rfl, rfl⟩
    subst b_; subst c_; exact a_
  intro Q hQ
  obtain ⟨g0, g1, g2, g3, g4, gc, g5, g6, g7, gk, gl, gr, go⟩ := id hR
  refine xv (x_iload_n 1 d_X6_isCell_0 rfl rfl) ?_
  refine v_if_lt 22 4 d_X6_isCell_1 rfl rfl (by omega) (by omega) (fun k1 => ?_) (fun k1 => ?_)
  · refine xv (x_iconst 23 d_X6_isCell_22 rfl) ?_
    refine xv_r (x_ireturn d_X6_isCell_23 rfl rfl) ?_
    refine lq hQ ?_
    exact (bI_f (by omega)).symm
  · refine xv (x_iload_n 5 d_X6_isCell_4 rfl rfl) ?_
    refine xv (x_aload_n 6 d_X6_isCell_5 rfl rfl) ?_
    refine xv (x_inv1 9 (as := []) d_X6_isCell_6 rfl c_6_83 rfl (Nat.le_of_ble_eq_true rfl) (Nat.le_of_ble_eq_true rfl) (wh_o hW) (Nat.le_of_ble_eq_true rfl) (Nat.le_of_ble_eq_true rfl) rfl (S_X6_cellCount hW hR)) ?_
    show Xv E q_m_X6_isCell 9 [Value.ref w, Value.int (zi c)] [Value.int (zi (cs l)), Value.int (zi c)] h Q
    refine v_icmp_ge 22 12 d_X6_isCell_9 rfl rfl (by omega) (by omega) (by omega) (by omega) (fun k9 => ?_) (fun k9 => ?_)
    · refine xv (x_iconst 23 d_X6_isCell_22 rfl) ?_
      refine xv_r (x_ireturn d_X6_isCell_23 rfl rfl) ?_
      refine lq hQ ?_
      exact (bI_f (by omega)).symm
    · refine xv (x_iload_n 13 d_X6_isCell_12 rfl rfl) ?_
      refine xv (x_bipush 15 d_X6_isCell_13 rfl rfl) ?_
      refine v_icmp_ge 22 18 d_X6_isCell_15 rfl rfl (by omega) (by omega) (by omega) (by omega) (fun k15 => ?_) (fun k15 => ?_)
      · refine xv (x_iconst 23 d_X6_isCell_22 rfl) ?_
        refine xv_r (x_ireturn d_X6_isCell_23 rfl rfl) ?_
        refine lq hQ ?_
        exact (bI_f (by omega)).symm
      · refine xv (x_iconst 19 d_X6_isCell_18 rfl) ?_
        refine xv (x_goto 23 d_X6_isCell_19 rfl) ?_
        refine xv_r (x_ireturn d_X6_isCell_23 rfl rfl) ?_
        refine lq hQ ?_
        exact (bI_t (by omega)).symm
theorem S_X6_isCellOrNone (hW : WH h w l p) (hR : RgC l) {c : Int} (c0 : -2147483648 ≤ c) (c1 : c < 2147483648) : q_cl E q_m_X6_isCellOrNone [Value.ref w, Value.int (zi c)] h = some (.inl (some (Value.int (zi (bI (c = -1 ∨ isC l c))))), h) := by
  suffices K : ∀ Q : q_R → q_H → Prop, Q (.inl (some (Value.int (zi (bI (c = -1 ∨ isC l c)))))) h → Xv E q_m_X6_isCellOrNone 0 [Value.ref w, Value.int (zi c)] [] h Q by
    obtain ⟨r_, g_, a_, b_, c_⟩ := K (fun r_ g_ => r_ = .inl (some (Value.int (zi (bI (c = -1 ∨ isC l c))))) ∧ g_ = h) ⟨rfl, rfl⟩
    subst b_; subst c_; exact a_
  intro Q hQ
  obtain ⟨g0, g1, g2, g3, g4, gc, g5, g6, g7, gk, gl, gr, go⟩ := id hR
  refine xv (x_iload_n 1 d_X6_isCellOrNone_0 rfl rfl) ?_
  refine xv (x_iconst 2 d_X6_isCellOrNone_1 rfl) ?_
  refine v_icmp_eq 13 5 d_X6_isCellOrNone_2 rfl rfl (by omega) (by omega) (by omega) (by omega) (fun k2 => ?_) (fun k2 => ?_)
  · refine xv (x_iconst 14 d_X6_isCellOrNone_13 rfl) ?_
    refine xv (x_goto 18 d_X6_isCellOrNone_14 rfl) ?_
    refine xv_r (x_ireturn d_X6_isCellOrNone_18 rfl rfl) ?_
    refine lq hQ ?_
    exact (bI_t (by omega)).symm
  · refine xv (x_aload_n 6 d_X6_isCellOrNone_5 rfl rfl) ?_
    refine xv (x_iload_n 7 d_X6_isCellOrNone_6 rfl rfl) ?_
    refine xv (x_inv1 10 (as := [Value.int (zi c)]) d_X6_isCellOrNone_7 rfl c_6_87 rfl (Nat.le_of_ble_eq_true rfl) (Nat.le_of_ble_eq_true rfl) (wh_o hW) (Nat.le_of_ble_eq_true rfl) (Nat.le_of_ble_eq_true rfl) rfl (S_X6_isCell hW hR (by omega) (by omega))) ?_
    show Xv E q_m_X6_isCellOrNone 10 [Value.ref w, Value.int (zi c)] [Value.int (zi (bI (isC l c)))] h Q
    refine v_if_eq 17 13 d_X6_isCellOrNone_10 rfl rfl (by have := bI_r (isC l c); omega) (by have := bI_r (isC l c); omega) (fun k10 => ?_) (fun k10 => ?_)
    · replace k10 := bI_0.mp k10
      refine xv (x_iconst 18 d_X6_isCellOrNone_17 rfl) ?_
      refine xv_r (x_ireturn d_X6_isCellOrNone_18 rfl rfl) ?_
      refine lq hQ ?_
      exact (bI_f (by omega)).symm
    · replace k10 := bI_n0.mp k10
      refine xv (x_iconst 14 d_X6_isCellOrNone_13 rfl) ?_
      refine xv (x_goto 18 d_X6_isCellOrNone_14 rfl) ?_
      refine xv_r (x_ireturn d_X6_isCellOrNone_18 rfl rfl) ?_
      refine lq hQ ?_
      exact (bI_t (by omega)).symm
theorem S_X6_isRobot (hW : WH h w l p) (hR : RgC l) {c : Int} (c0 : -2147483648 ≤ c) (c1 : c < 2147483648) : q_cl E q_m_X6_isRobot [Value.ref w, Value.int (zi c)] h = some (.inl (some (Value.int (zi (bI (isR l c))))), h) := by
  suffices K : ∀ Q : q_R → q_H → Prop, Q (.inl (some (Value.int (zi (bI (isR l c)))))) h → Xv E q_m_X6_isRobot 0 [Value.ref w, Value.int (zi c)] [] h Q by
    obtain ⟨r_, g_, a_, b_, c_⟩ := K (fun r_ g_ => r_ = .inl (some (Value.int (zi (bI (isR l c))))) ∧ g_ = h) ⟨rfl, rfl⟩
    subst b_; subst c_; exact a_
  intro Q hQ
  obtain ⟨g0, g1, g2, g3, g4, gc, g5, g6, g7, gk, gl, gr, go⟩ := id hR
  refine xv (x_iload_n 1 d_X6_isRobot_0 rfl rfl) ?_
  refine v_if_lt 22 4 d_X6_isRobot_1 rfl rfl (by omega) (by omega) (fun k1 => ?_) (fun k1 => ?_)
  · refine xv (x_iconst 23 d_X6_isRobot_22 rfl) ?_
    refine xv_r (x_ireturn d_X6_isRobot_23 rfl rfl) ?_
    refine lq hQ ?_
    exact (bI_f (by omega)).symm
  · refine xv (x_iload_n 5 d_X6_isRobot_4 rfl rfl) ?_
    refine xv (x_aload_n 6 d_X6_isRobot_5 rfl rfl) ?_
    refine xv (x_getfield 9 d_X6_isRobot_6 rfl f_6_55 (Nat.le_of_ble_eq_true rfl) (Nat.le_of_ble_eq_true rfl) (q_gf_of (wh_o hW) rfl)) ?_
    refine v_icmp_ge 22 12 d_X6_isRobot_9 rfl rfl (by omega) (by omega) (by omega) (by omega) (fun k9 => ?_) (fun k9 => ?_)
    · refine xv (x_iconst 23 d_X6_isRobot_22 rfl) ?_
      refine xv_r (x_ireturn d_X6_isRobot_23 rfl rfl) ?_
      refine lq hQ ?_
      exact (bI_f (by omega)).symm
    · refine xv (x_iload_n 13 d_X6_isRobot_12 rfl rfl) ?_
      refine xv (x_bipush 15 d_X6_isRobot_13 rfl rfl) ?_
      refine v_icmp_ge 22 18 d_X6_isRobot_15 rfl rfl (by omega) (by omega) (by omega) (by omega) (fun k15 => ?_) (fun k15 => ?_)
      · refine xv (x_iconst 23 d_X6_isRobot_22 rfl) ?_
        refine xv_r (x_ireturn d_X6_isRobot_23 rfl rfl) ?_
        refine lq hQ ?_
        exact (bI_f (by omega)).symm
      · refine xv (x_iconst 19 d_X6_isRobot_18 rfl) ?_
        refine xv (x_goto 23 d_X6_isRobot_19 rfl) ?_
        refine xv_r (x_ireturn d_X6_isRobot_23 rfl rfl) ?_
        refine lq hQ ?_
        exact (bI_t (by omega)).symm
theorem S_X6_isOrder (hW : WH h w l p) (hR : RgC l) {c : Int} (c0 : -2147483648 ≤ c) (c1 : c < 2147483648) : q_cl E q_m_X6_isOrder [Value.ref w, Value.int (zi c)] h = some (.inl (some (Value.int (zi (bI (isO l c))))), h) := by
  suffices K : ∀ Q : q_R → q_H → Prop, Q (.inl (some (Value.int (zi (bI (isO l c)))))) h → Xv E q_m_X6_isOrder 0 [Value.ref w, Value.int (zi c)] [] h Q by
    obtain ⟨r_, g_, a_, b_, c_⟩ := K (fun r_ g_ => r_ = .inl (some (Value.int (zi (bI (isO l c))))) ∧ g_ = h) ⟨rfl, rfl⟩
    subst b_; subst c_; exact a_
  intro Q hQ
  obtain ⟨g0, g1, g2, g3, g4, gc, g5, g6, g7, gk, gl, gr, go⟩ := id hR
  refine xv (x_iload_n 1 d_X6_isOrder_0 rfl rfl) ?_
  refine v_if_lt 22 4 d_X6_isOrder_1 rfl rfl (by omega) (by omega) (fun k1 => ?_) (fun k1 => ?_)
  · refine xv (x_iconst 23 d_X6_isOrder_22 rfl) ?_
    refine xv_r (x_ireturn d_X6_isOrder_23 rfl rfl) ?_
    refine lq hQ ?_
    exact (bI_f (by omega)).symm
  · refine xv (x_iload_n 5 d_X6_isOrder_4 rfl rfl) ?_
    refine xv (x_aload_n 6 d_X6_isOrder_5 rfl rfl) ?_
    refine xv (x_getfield 9 d_X6_isOrder_6 rfl f_6_58 (Nat.le_of_ble_eq_true rfl) (Nat.le_of_ble_eq_true rfl) (q_gf_of (wh_o hW) rfl)) ?_
    refine v_icmp_ge 22 12 d_X6_isOrder_9 rfl rfl (by omega) (by omega) (by omega) (by omega) (fun k9 => ?_) (fun k9 => ?_)
    · refine xv (x_iconst 23 d_X6_isOrder_22 rfl) ?_
      refine xv_r (x_ireturn d_X6_isOrder_23 rfl rfl) ?_
      refine lq hQ ?_
      exact (bI_f (by omega)).symm
    · refine xv (x_iload_n 13 d_X6_isOrder_12 rfl rfl) ?_
      refine xv (x_bipush 15 d_X6_isOrder_13 rfl rfl) ?_
      refine v_icmp_ge 22 18 d_X6_isOrder_15 rfl rfl (by omega) (by omega) (by omega) (by omega) (fun k15 => ?_) (fun k15 => ?_)
      · refine xv (x_iconst 23 d_X6_isOrder_22 rfl) ?_
        refine xv_r (x_ireturn d_X6_isOrder_23 rfl rfl) ?_
        refine lq hQ ?_
        exact (bI_f (by omega)).symm
      · refine xv (x_iconst 19 d_X6_isOrder_18 rfl) ?_
        refine xv (x_goto 23 d_X6_isOrder_19 rfl) ?_
        refine xv_r (x_ireturn d_X6_isOrder_23 rfl rfl) ?_
        refine lq hQ ?_
        exact (bI_t (by omega)).symm
theorem S_X6_canEnter (hW : WH h w l p) (hR : RgC l) {c : Int} (c0 : -2147483648 ≤ c) (c1 : c < 2147483648) : q_cl E q_m_X6_canEnter [Value.ref w, Value.int (zi c)] h = some (.inl (some (Value.int (zi (bI (isC l c ∧ ent l c))))), h) := by
  suffices K : ∀ Q : q_R → q_H → Prop, Q (.inl (some (Value.int (zi (bI (isC l c ∧ ent l c)))))) h → Xv E q_m_X6_canEnter 0 [Value.ref w, Value.int (zi c)] [] h Q by
    obtain ⟨r_, g_, a_, b_, c_⟩ := K (fun r_ g_ => r_ = .inl (some (Value.int (zi (bI (isC l c ∧ ent l c))))) ∧ g_ = h) ⟨rfl, rfl⟩
    subst b_; subst c_; exact a_
  intro Q hQ
  obtain ⟨g0, g1, g2, g3, g4, gc, g5, g6, g7, gk, gl, gr, go⟩ := id hR
  refine xv (x_aload_n 1 d_X6_canEnter_0 rfl rfl) ?_
  refine xv (x_iload_n 2 d_X6_canEnter_1 rfl rfl) ?_
  refine xv (x_inv1 5 (as := [Value.int (zi c)]) d_X6_canEnter_2 rfl c_6_87 rfl (Nat.le_of_ble_eq_true rfl) (Nat.le_of_ble_eq_true rfl) (wh_o hW) (Nat.le_of_ble_eq_true rfl) (Nat.le_of_ble_eq_true rfl) rfl (S_X6_isCell hW hR (by omega) (by omega))) ?_
  show Xv E q_m_X6_canEnter 5 [Value.ref w, Value.int (zi c)] [Value.int (zi (bI (isC l c)))] h Q
  refine v_if_eq 31 8 d_X6_canEnter_5 rfl rfl (by have := bI_r (isC l c); omega) (by have := bI_r (isC l c); omega) (fun k5 => ?_) (fun k5 => ?_)
  · replace k5 := bI_0.mp k5
    refine xv (x_iconst 32 d_X6_canEnter_31 rfl) ?_
    refine xv_r (x_ireturn d_X6_canEnter_32 rfl rfl) ?_
    refine lq hQ ?_
    exact (bI_f (by omega)).symm
  · replace k5 := bI_n0.mp k5
    refine xv (x_aload_n 9 d_X6_canEnter_8 rfl rfl) ?_
    refine xv (x_getfield 12 d_X6_canEnter_9 rfl f_6_18 (Nat.le_of_ble_eq_true rfl) (Nat.le_of_ble_eq_true rfl) (q_gf_of (wh_o hW) rfl)) ?_
    refine xv (x_iload_n 13 d_X6_canEnter_12 rfl rfl) ?_
    refine xv (x_iaload 14 d_X6_canEnter_13 rfl (ai_g (wh_k hW) (by omega) (by omega) (by decide))) ?_
    have q13 := gk c (by omega) (by omega)
    refine xv (x_iconst 15 d_X6_canEnter_14 rfl) ?_
    refine v_icmp_eq 31 18 d_X6_canEnter_15 rfl rfl (by omega) (by omega) (by omega) (by omega) (fun k15 => ?_) (fun k15 => ?_)
    · refine xv (x_iconst 32 d_X6_canEnter_31 rfl) ?_
      refine xv_r (x_ireturn d_X6_canEnter_32 rfl rfl) ?_
      refine lq hQ ?_
      exact (bI_f (by omega)).symm
    · refine xv (x_aload_n 19 d_X6_canEnter_18 rfl rfl) ?_
      refine xv (x_getfield 22 d_X6_canEnter_19 rfl f_6_22 (Nat.le_of_ble_eq_true rfl) (Nat.le_of_ble_eq_true rfl) (q_gf_of (wh_o hW) rfl)) ?_
      refine xv (x_iload_n 23 d_X6_canEnter_22 rfl rfl) ?_
      refine xv (x_baload 24 d_X6_canEnter_23 rfl (ai_b (wh_c hW) (by omega) (by omega) (by decide))) ?_
      have q23 := gl c (by omega) (by omega)
      refine v_if_ne 31 27 d_X6_canEnter_24 rfl rfl (by omega) (by omega) (fun k24 => ?_) (fun k24 => ?_)
      · refine xv (x_iconst 32 d_X6_canEnter_31 rfl) ?_
        refine xv_r (x_ireturn d_X6_canEnter_32 rfl rfl) ?_
        refine lq hQ ?_
        exact (bI_f (by omega)).symm
      · refine xv (x_iconst 28 d_X6_canEnter_27 rfl) ?_
        refine xv (x_goto 32 d_X6_canEnter_28 rfl) ?_
        refine xv_r (x_ireturn d_X6_canEnter_32 rfl rfl) ?_
        refine lq hQ ?_
        exact (bI_t (by omega)).symm
theorem S_X6_columnOf (hW : WH h w l p) (hR : RgC l) {c : Int} (c0 : 0 ≤ c) (c1 : c < 2147483648) : q_cl E q_m_X6_columnOf [Value.ref w, Value.int (zi c)] h = some (.inl (some (Value.int (zi (c % l 1)))), h) := by
  suffices K : ∀ Q : q_R → q_H → Prop, Q (.inl (some (Value.int (zi (c % l 1))))) h → Xv E q_m_X6_columnOf 0 [Value.ref w, Value.int (zi c)] [] h Q by
    obtain ⟨r_, g_, a_, b_, c_⟩ := K (fun r_ g_ => r_ = .inl (some (Value.int (zi (c % l 1)))) ∧ g_ = h) ⟨rfl, rfl⟩
    subst b_; subst c_; exact a_
  intro Q hQ
  obtain ⟨g0, g1, g2, g3, g4, gc, g5, g6, g7, gk, gl, gr, go⟩ := id hR
  refine xv (x_aload_n 1 d_X6_columnOf_0 rfl rfl) ?_
  refine xv (x_getfield 4 d_X6_columnOf_1 rfl f_6_15 (Nat.le_of_ble_eq_true rfl) (Nat.le_of_ble_eq_true rfl) (q_gf_of (wh_o hW) rfl)) ?_
  refine v_if_le 16 7 d_X6_columnOf_4 rfl rfl (by omega) (by omega) (fun k4 => ?_) (fun k4 => ?_)
  · omega
  · refine xv (x_iload_n 8 d_X6_columnOf_7 rfl rfl) ?_
    refine xv (x_aload_n 9 d_X6_columnOf_8 rfl rfl) ?_
    refine xv (x_getfield 12 d_X6_columnOf_9 rfl f_6_15 (Nat.le_of_ble_eq_true rfl) (Nat.le_of_ble_eq_true rfl) (q_gf_of (wh_o hW) rfl)) ?_
    refine xv (x_irem 13 d_X6_columnOf_12 rfl (by omega) (by omega) (by omega) (by omega)) ?_
    refine xv (x_goto 17 d_X6_columnOf_13 rfl) ?_
    refine xv_r (x_ireturn d_X6_columnOf_17 rfl rfl) ?_
    refine lq hQ ?_
    rfl
theorem besC_r {s : Int → Int} {c w : Int} (hR : RgC s) (h1 : isC s c) : bes s c w = -1 ∨ (0 ≤ bes s c w ∧ bes s c w < cs s) := by
  obtain ⟨g0, g1, g2, g3, g4, gc, g5, g6, g7, gk, gl, gr, go⟩ := id hR
  obtain ⟨a1, a2, a3, a4, a5, a6, a7, a8, a9⟩ := bes_f g0.1 g1.1 h1.1 h1.2
  unfold cs at *
  unfold bes
  unfold cs
  repeat' split
  all_goals omega
theorem S_X6_neighbor (hW : WH h w l p) (hR : RgC l) {c d : Int} (h1 : isC l c) (d0 : -2147483648 ≤ d) (d1 : d < 2147483648) : q_cl E q_m_X6_neighbor [Value.ref w, Value.int (zi c), Value.int (zi d)] h = some (.inl (some (Value.int (zi (bes l c d)))), h) := by
  suffices K : ∀ Q : q_R → q_H → Prop, Q (.inl (some (Value.int (zi (bes l c d))))) h → Xv E q_m_X6_neighbor 0 [Value.ref w, Value.int (zi c), Value.int (zi d)] [] h Q by
    obtain ⟨r_, g_, a_, b_, c_⟩ := K (fun r_ g_ => r_ = .inl (some (Value.int (zi (bes l c d)))) ∧ g_ = h) ⟨rfl, rfl⟩
    subst b_; subst c_; exact a_
  intro Q hQ
  obtain ⟨g0, g1, g2, g3, g4, gc, g5, g6, g7, gk, gl, gr, go⟩ := id hR
  refine xv (x_iload_n 1 d_X6_neighbor_0 rfl rfl) ?_
  by_cases k1_0 : d = 0
  · refine xv (x_tsw_in 32 0 d_X6_neighbor_1 k1_0 (by decide) (by decide) (by decide) rfl rfl) ?_
    refine xv (x_iload_n 33 d_X6_neighbor_32 rfl rfl) ?_
    refine xv (x_aload_n 34 d_X6_neighbor_33 rfl rfl) ?_
    refine xv (x_getfield 37 d_X6_neighbor_34 rfl f_6_15 (Nat.le_of_ble_eq_true rfl) (Nat.le_of_ble_eq_true rfl) (q_gf_of (wh_o hW) rfl)) ?_
    refine v_icmp_lt 49 40 d_X6_neighbor_37 rfl rfl (by omega) (by omega) (by omega) (by omega) (fun k37 => ?_) (fun k37 => ?_)
    · refine xv (x_iconst 50 d_X6_neighbor_49 rfl) ?_
      refine xv_r (x_ireturn d_X6_neighbor_50 rfl rfl) ?_
      refine lq hQ ?_
      unfold bes; repeat (first | rw [if_pos (by omega)] | rw [if_neg (by omega)])
    · refine xv (x_iload_n 41 d_X6_neighbor_40 rfl rfl) ?_
      refine xv (x_aload_n 42 d_X6_neighbor_41 rfl rfl) ?_
      refine xv (x_getfield 45 d_X6_neighbor_42 rfl f_6_15 (Nat.le_of_ble_eq_true rfl) (Nat.le_of_ble_eq_true rfl) (q_gf_of (wh_o hW) rfl)) ?_
      refine xv (x_isub 46 d_X6_neighbor_45 rfl) ?_
      refine xv (x_goto 50 d_X6_neighbor_46 rfl) ?_
      refine xv_r (x_ireturn d_X6_neighbor_50 rfl rfl) ?_
      refine lq hQ ?_
      unfold bes; repeat (first | rw [if_pos (by omega)] | rw [if_neg (by omega)])
  by_cases k1_1 : d = 1
  · refine xv (x_tsw_in 51 1 d_X6_neighbor_1 k1_1 (by decide) (by decide) (by decide) rfl rfl) ?_
    refine xv (x_aload_n 52 d_X6_neighbor_51 rfl rfl) ?_
    refine xv (x_iload_n 53 d_X6_neighbor_52 rfl rfl) ?_
    refine xv (x_inv1 56 (as := [Value.int (zi c)]) d_X6_neighbor_53 rfl c_6_91 rfl (Nat.le_of_ble_eq_true rfl) (Nat.le_of_ble_eq_true rfl) (wh_o hW) (Nat.le_of_ble_eq_true rfl) (Nat.le_of_ble_eq_true rfl) rfl (S_X6_columnOf hW hR (by omega) (by omega))) ?_
    have q53 := Int.emod_nonneg c (show l 1 ≠ 0 by omega)
    have z53 := Int.emod_lt_of_pos c (show 0 < l 1 by omega)
    show Xv E q_m_X6_neighbor 56 [Value.ref w, Value.int (zi c), Value.int (zi d)] [Value.int (zi (c % l 1))] h Q
    refine xv (x_iconst 57 d_X6_neighbor_56 rfl) ?_
    refine xv (x_iadd 58 d_X6_neighbor_57 rfl) ?_
    refine xv (x_aload_n 59 d_X6_neighbor_58 rfl rfl) ?_
    refine xv (x_getfield 62 d_X6_neighbor_59 rfl f_6_15 (Nat.le_of_ble_eq_true rfl) (Nat.le_of_ble_eq_true rfl) (q_gf_of (wh_o hW) rfl)) ?_
    refine v_icmp_ge 71 65 d_X6_neighbor_62 rfl rfl (by omega) (by omega) (by omega) (by omega) (fun k62 => ?_) (fun k62 => ?_)
    · refine xv (x_iconst 72 d_X6_neighbor_71 rfl) ?_
      refine xv_r (x_ireturn d_X6_neighbor_72 rfl rfl) ?_
      refine lq hQ ?_
      unfold bes; repeat (first | rw [if_pos (by omega)] | rw [if_neg (by omega)])
    · refine xv (x_iload_n 66 d_X6_neighbor_65 rfl rfl) ?_
      refine xv (x_iconst 67 d_X6_neighbor_66 rfl) ?_
      refine xv (x_iadd 68 d_X6_neighbor_67 rfl) ?_
      refine xv (x_goto 72 d_X6_neighbor_68 rfl) ?_
      refine xv_r (x_ireturn d_X6_neighbor_72 rfl rfl) ?_
      refine lq hQ ?_
      unfold bes; repeat (first | rw [if_pos (by omega)] | rw [if_neg (by omega)])
  by_cases k1_2 : d = 2
  · refine xv (x_tsw_in 73 2 d_X6_neighbor_1 k1_2 (by decide) (by decide) (by decide) rfl rfl) ?_
    refine xv (x_iload_n 74 d_X6_neighbor_73 rfl rfl) ?_
    refine xv (x_aload_n 75 d_X6_neighbor_74 rfl rfl) ?_
    refine xv (x_getfield 78 d_X6_neighbor_75 rfl f_6_15 (Nat.le_of_ble_eq_true rfl) (Nat.le_of_ble_eq_true rfl) (q_gf_of (wh_o hW) rfl)) ?_
    refine xv (x_iadd 79 d_X6_neighbor_78 rfl) ?_
    refine xv (x_aload_n 80 d_X6_neighbor_79 rfl rfl) ?_
    refine xv (x_inv1 83 (as := []) d_X6_neighbor_80 rfl c_6_83 rfl (Nat.le_of_ble_eq_true rfl) (Nat.le_of_ble_eq_true rfl) (wh_o hW) (Nat.le_of_ble_eq_true rfl) (Nat.le_of_ble_eq_true rfl) rfl (S_X6_cellCount hW hR)) ?_
    show Xv E q_m_X6_neighbor 83 [Value.ref w, Value.int (zi c), Value.int (zi d)] [Value.int (zi (cs l)), Value.int (zi (c + (l 1)))] h Q
    refine v_icmp_ge 95 86 d_X6_neighbor_83 rfl rfl (by omega) (by omega) (by omega) (by omega) (fun k83 => ?_) (fun k83 => ?_)
    · refine xv (x_iconst 96 d_X6_neighbor_95 rfl) ?_
      refine xv_r (x_ireturn d_X6_neighbor_96 rfl rfl) ?_
      refine lq hQ ?_
      unfold bes; repeat (first | rw [if_pos (by omega)] | rw [if_neg (by omega)])
    · refine xv (x_iload_n 87 d_X6_neighbor_86 rfl rfl) ?_
      refine xv (x_aload_n 88 d_X6_neighbor_87 rfl rfl) ?_
      refine xv (x_getfield 91 d_X6_neighbor_88 rfl f_6_15 (Nat.le_of_ble_eq_true rfl) (Nat.le_of_ble_eq_true rfl) (q_gf_of (wh_o hW) rfl)) ?_
      refine xv (x_iadd 92 d_X6_neighbor_91 rfl) ?_
      refine xv (x_goto 96 d_X6_neighbor_92 rfl) ?_
      refine xv_r (x_ireturn d_X6_neighbor_96 rfl rfl) ?_
      refine lq hQ ?_
      unfold bes; repeat (first | rw [if_pos (by omega)] | rw [if_neg (by omega)])
  by_cases k1_3 : d = 3
  · refine xv (x_tsw_in 97 3 d_X6_neighbor_1 k1_3 (by decide) (by decide) (by decide) rfl rfl) ?_
    refine xv (x_aload_n 98 d_X6_neighbor_97 rfl rfl) ?_
    refine xv (x_iload_n 99 d_X6_neighbor_98 rfl rfl) ?_
    refine xv (x_inv1 102 (as := [Value.int (zi c)]) d_X6_neighbor_99 rfl c_6_91 rfl (Nat.le_of_ble_eq_true rfl) (Nat.le_of_ble_eq_true rfl) (wh_o hW) (Nat.le_of_ble_eq_true rfl) (Nat.le_of_ble_eq_true rfl) rfl (S_X6_columnOf hW hR (by omega) (by omega))) ?_
    have q99 := Int.emod_nonneg c (show l 1 ≠ 0 by omega)
    have z99 := Int.emod_lt_of_pos c (show 0 < l 1 by omega)
    show Xv E q_m_X6_neighbor 102 [Value.ref w, Value.int (zi c), Value.int (zi d)] [Value.int (zi (c % l 1))] h Q
    refine v_if_le 111 105 d_X6_neighbor_102 rfl rfl (by omega) (by omega) (fun k102 => ?_) (fun k102 => ?_)
    · refine xv (x_iconst 112 d_X6_neighbor_111 rfl) ?_
      refine xv_r (x_ireturn d_X6_neighbor_112 rfl rfl) ?_
      refine lq hQ ?_
      unfold bes; repeat (first | rw [if_pos (by omega)] | rw [if_neg (by omega)])
    · refine xv (x_iload_n 106 d_X6_neighbor_105 rfl rfl) ?_
      refine xv (x_iconst 107 d_X6_neighbor_106 rfl) ?_
      refine xv (x_isub 108 d_X6_neighbor_107 rfl) ?_
      refine xv (x_goto 112 d_X6_neighbor_108 rfl) ?_
      refine xv_r (x_ireturn d_X6_neighbor_112 rfl rfl) ?_
      refine lq hQ ?_
      unfold bes; repeat (first | rw [if_pos (by omega)] | rw [if_neg (by omega)])
  refine xv (x_tsw_out 113 d_X6_neighbor_1 (by omega) (by omega) (by omega) rfl) ?_
  refine xv (x_iload_n 114 d_X6_neighbor_113 rfl rfl) ?_
  refine xv_r (x_ireturn d_X6_neighbor_114 rfl rfl) ?_
  refine lq hQ ?_
  unfold bes; repeat (first | rw [if_pos (by omega)] | rw [if_neg (by omega)])
theorem S_X6_robotThere (hW : WH h w l p) (hR : RgC l) {c t : Int} (c0 : -2147483648 ≤ c) (c1 : c < 2147483648) (t0 : 0 ≤ t) (t1 : t < 2147483648) : q_cl E q_m_X6_robotThere [Value.ref w, Value.int (zi c), Value.int (zi t)] h = some (.inl (some (Value.int (zi (rin l c t)))), h) := by
  suffices K : ∀ Q : q_R → q_H → Prop, Q (.inl (some (Value.int (zi (rin l c t))))) h → Xv E q_m_X6_robotThere 0 [Value.ref w, Value.int (zi c), Value.int (zi t), Value.null] [] h Q by
    obtain ⟨r_, g_, a_, b_, c_⟩ := K (fun r_ g_ => r_ = .inl (some (Value.int (zi (rin l c t)))) ∧ g_ = h) ⟨rfl, rfl⟩
    subst b_; subst c_; exact a_
  intro Q hQ
  obtain ⟨g0, g1, g2, g3, g4, gc, g5, g6, g7, gk, gl, gr, go⟩ := id hR
  refine xv (x_iconst 1 d_X6_robotThere_0 rfl) ?_
  refine xv (x_istore_n 2 d_X6_robotThere_1 rfl (Nat.le_of_ble_eq_true rfl)) ?_
  show Xv E q_m_X6_robotThere 2 [Value.ref w, Value.int (zi c), Value.int (zi t), Value.int (zi 0)] [] h Q
  have L2 : ∀ (n : Nat) (r : Int), (0 ≤ r) → (r ≤ l 3) → (rin l c t = fnd (fun r => ahd l r t = c) (l 3 - r).toNat r) → (l 3 - r).toNat = n → Xv E q_m_X6_robotThere 2 [Value.ref w, Value.int (zi c), Value.int (zi t), Value.int (zi r)] [] h Q := by
    intro n
    induction n using Nat.strongRecOn with
    | _ n ih2 =>
      intro r i0 i1 hv em
      refine xv (x_aload_n 3 d_X6_robotThere_2 rfl rfl) ?_
      refine xv (x_iload_n 4 d_X6_robotThere_3 rfl rfl) ?_
      refine xv (x_inv1 7 (as := [Value.int (zi r)]) d_X6_robotThere_4 rfl c_6_106 rfl (Nat.le_of_ble_eq_true rfl) (Nat.le_of_ble_eq_true rfl) (wh_o hW) (Nat.le_of_ble_eq_true rfl) (Nat.le_of_ble_eq_true rfl) rfl (S_X6_isRobot hW hR (by omega) (by omega))) ?_
      show Xv E q_m_X6_robotThere 7 [Value.ref w, Value.int (zi c), Value.int (zi t), Value.int (zi r)] [Value.int (zi (bI (isR l r)))] h Q
      refine v_if_eq 38 10 d_X6_robotThere_7 rfl rfl (by have := bI_r (isR l r); omega) (by have := bI_r (isR l r); omega) (fun k7 => ?_) (fun k7 => ?_)
      · replace k7 := bI_0.mp k7
        refine xv (x_iconst 39 d_X6_robotThere_38 rfl) ?_
        refine xv_r (x_ireturn d_X6_robotThere_39 rfl rfl) ?_
        refine lq hQ ?_
        exact ((fnd_e (by omega)).symm.trans hv.symm)
      · replace k7 := bI_n0.mp k7
        refine xv (x_iload_n 11 d_X6_robotThere_10 rfl rfl) ?_
        refine xv (x_bipush 13 d_X6_robotThere_11 rfl rfl) ?_
        refine v_icmp_ge 38 16 d_X6_robotThere_13 rfl rfl (by omega) (by omega) (by omega) (by omega) (fun k13 => ?_) (fun k13 => ?_)
        · refine xv (x_iconst 39 d_X6_robotThere_38 rfl) ?_
          refine xv_r (x_ireturn d_X6_robotThere_39 rfl rfl) ?_
          refine lq hQ ?_
          exact ((fnd_e (by omega)).symm.trans hv.symm)
        · refine xv (x_aload_n 17 d_X6_robotThere_16 rfl rfl) ?_
          refine xv (x_getfield 20 d_X6_robotThere_17 rfl f_6_28 (Nat.le_of_ble_eq_true rfl) (Nat.le_of_ble_eq_true rfl) (q_gf_of (wh_o hW) rfl)) ?_
          refine xv (x_iload_n 21 d_X6_robotThere_20 rfl rfl) ?_
          refine xv (x_aaload 22 d_X6_robotThere_21 rfl (wh_rs hW (by omega) (by omega))) ?_
          refine xv (x_iload_n 23 d_X6_robotThere_22 rfl rfl) ?_
          refine xv (x_inv1 26 (as := [Value.int (zi t)]) d_X6_robotThere_23 rfl c_6_121 rfl (Nat.le_of_ble_eq_true rfl) (Nat.le_of_ble_eq_true rfl) (wh_r hW (by omega) (by omega)).1 (Nat.le_of_ble_eq_true rfl) (Nat.le_of_ble_eq_true rfl) rfl (S_X5_cellAhead (wh_r (r := r) hW (by omega) (by omega)) (gr r (by omega) (by omega)) (by omega) (by omega))) ?_
          have q23 := ahf_r (t := t) (gr r (by omega) (by omega)) (by omega)
          show Xv E q_m_X6_robotThere 26 [Value.ref w, Value.int (zi c), Value.int (zi t), Value.int (zi r)] [Value.int (zi (ahf (rb l r) t))] h Q
          refine xv (x_iload_n 27 d_X6_robotThere_26 rfl rfl) ?_
          refine v_icmp_ne 32 30 d_X6_robotThere_27 rfl rfl (by omega) (by omega) (by omega) (by omega) (fun k27 => ?_) (fun k27 => ?_)
          · refine xv (x_iinc 35 d_X6_robotThere_32 rfl rfl) ?_
            show Xv E q_m_X6_robotThere 35 [Value.ref w, Value.int (zi c), Value.int (zi t), Value.int (zi (r + 1))] [] h Q
            refine xv (x_goto 2 d_X6_robotThere_35 rfl) ?_
            refine ih2 _ (by omega) (r + 1) (by omega) (by omega) (hv.trans (fnd_b (P := fun r => ahd l r t = c) (by omega) ?_)) rfl
            exact k27
          · refine xv (x_iload_n 31 d_X6_robotThere_30 rfl rfl) ?_
            refine xv_r (x_ireturn d_X6_robotThere_31 rfl rfl) ?_
            refine lq hQ ?_
            exact (hv.trans (fnd_h (P := fun r => ahd l r t = c) (by omega) k27)).symm
  exact L2 _ 0 (by omega) (by omega) (by rw [Int.sub_zero]; rfl) rfl
/-- the least robot but one that is ever in a cell -/
abbrev levA (s : Int → Int) (c but r : Int) : Prop := r ≠ but ∧ evr (rb s r) c
noncomputable def lev (s : Int → Int) (c but : Int) : Int := fnd (levA s c but) (s 3).toNat 0
/-- the robot that has an order -/
noncomputable def rwo (s : Int → Int) (o : Int) : Int := fnd (fun r => rb s r 2 = o) (s 3).toNat 0
/-- an order's state as the class tells it -/
noncomputable def stc (s : Int → Int) (o : Int) : Int := if isO s o ∧ ¬ ob s o 4 = -1 then 2 else if rwo s o = -1 then 0 else 1
theorem stc_r {s : Int → Int} {o : Int} : 0 ≤ stc s o ∧ stc s o ≤ 2 := by
  unfold stc
  split
  · omega
  · split <;> omega
theorem lpI_b {g : Int → Int → Int} {n k a : Int} (h : k < n) : lpI g (n - k).toNat k a = lpI g (n - (k + 1)).toNat (k + 1) (g k a) := by
  rw [show (n - k).toNat = (n - (k + 1)).toNat + 1 by omega]; rfl
theorem lpI_e {g : Int → Int → Int} {n k a : Int} (h : n ≤ k) : lpI g (n - k).toNat k a = a := by
  rw [show (n - k).toNat = 0 by omega]; rfl
theorem S_X6_lowestRobotEverIn (hW : WH h w l p) (hR : RgC l) {c b : Int} (c0 : -2147483648 ≤ c) (c1 : c < 2147483648) (b0 : -2147483648 ≤ b) (b1 : b < 2147483648) : q_cl E q_m_X6_lowestRobotEverIn [Value.ref w, Value.int (zi c), Value.int (zi b)] h = some (.inl (some (Value.int (zi (lev l c b)))), h) := by
  suffices K : ∀ Q : q_R → q_H → Prop, Q (.inl (some (Value.int (zi (lev l c b))))) h → Xv E q_m_X6_lowestRobotEverIn 0 [Value.ref w, Value.int (zi c), Value.int (zi b), Value.null] [] h Q by
    obtain ⟨r_, g_, a_, b_, c_⟩ := K (fun r_ g_ => r_ = .inl (some (Value.int (zi (lev l c b)))) ∧ g_ = h) ⟨rfl, rfl⟩
    subst b_; subst c_; exact a_
  intro Q hQ
  obtain ⟨g0, g1, g2, g3, g4, gc, g5, g6, g7, gk, gl, gr, go⟩ := id hR
  refine xv (x_iconst 1 d_X6_lowestRobotEverIn_0 rfl) ?_
  refine xv (x_istore_n 2 d_X6_lowestRobotEverIn_1 rfl (Nat.le_of_ble_eq_true rfl)) ?_
  show Xv E q_m_X6_lowestRobotEverIn 2 [Value.ref w, Value.int (zi c), Value.int (zi b), Value.int (zi 0)] [] h Q
  have L2 : ∀ (n : Nat) (r : Int), (0 ≤ r) → (r ≤ l 3) → (lev l c b = fnd (levA l c b) (l 3 - r).toNat r) → (l 3 - r).toNat = n → Xv E q_m_X6_lowestRobotEverIn 2 [Value.ref w, Value.int (zi c), Value.int (zi b), Value.int (zi r)] [] h Q := by
    intro n
    induction n using Nat.strongRecOn with
    | _ n ih2 =>
      intro r i0 i1 hv em
      refine xv (x_aload_n 3 d_X6_lowestRobotEverIn_2 rfl rfl) ?_
      refine xv (x_iload_n 4 d_X6_lowestRobotEverIn_3 rfl rfl) ?_
      refine xv (x_inv1 7 (as := [Value.int (zi r)]) d_X6_lowestRobotEverIn_4 rfl c_6_106 rfl (Nat.le_of_ble_eq_true rfl) (Nat.le_of_ble_eq_true rfl) (wh_o hW) (Nat.le_of_ble_eq_true rfl) (Nat.le_of_ble_eq_true rfl) rfl (S_X6_isRobot hW hR (by omega) (by omega))) ?_
      show Xv E q_m_X6_lowestRobotEverIn 7 [Value.ref w, Value.int (zi c), Value.int (zi b), Value.int (zi r)] [Value.int (zi (bI (isR l r)))] h Q
      refine v_if_eq 42 10 d_X6_lowestRobotEverIn_7 rfl rfl (by have := bI_r (isR l r); omega) (by have := bI_r (isR l r); omega) (fun k7 => ?_) (fun k7 => ?_)
      · replace k7 := bI_0.mp k7
        refine xv (x_iconst 43 d_X6_lowestRobotEverIn_42 rfl) ?_
        refine xv_r (x_ireturn d_X6_lowestRobotEverIn_43 rfl rfl) ?_
        refine lq hQ ?_
        exact ((fnd_e (by omega)).symm.trans hv.symm)
      · replace k7 := bI_n0.mp k7
        refine xv (x_iload_n 11 d_X6_lowestRobotEverIn_10 rfl rfl) ?_
        refine xv (x_bipush 13 d_X6_lowestRobotEverIn_11 rfl rfl) ?_
        refine v_icmp_ge 42 16 d_X6_lowestRobotEverIn_13 rfl rfl (by omega) (by omega) (by omega) (by omega) (fun k13 => ?_) (fun k13 => ?_)
        · refine xv (x_iconst 43 d_X6_lowestRobotEverIn_42 rfl) ?_
          refine xv_r (x_ireturn d_X6_lowestRobotEverIn_43 rfl rfl) ?_
          refine lq hQ ?_
          exact ((fnd_e (by omega)).symm.trans hv.symm)
        · refine xv (x_iload_n 17 d_X6_lowestRobotEverIn_16 rfl rfl) ?_
          refine xv (x_iload_n 18 d_X6_lowestRobotEverIn_17 rfl rfl) ?_
          refine v_icmp_eq 36 21 d_X6_lowestRobotEverIn_18 rfl rfl (by omega) (by omega) (by omega) (by omega) (fun k18 => ?_) (fun k18 => ?_)
          · refine xv (x_iinc 39 d_X6_lowestRobotEverIn_36 rfl rfl) ?_
            show Xv E q_m_X6_lowestRobotEverIn 39 [Value.ref w, Value.int (zi c), Value.int (zi b), Value.int (zi (r + 1))] [] h Q
            refine xv (x_goto 2 d_X6_lowestRobotEverIn_39 rfl) ?_
            refine ih2 _ (by omega) (r + 1) (by omega) (by omega) (hv.trans (fnd_b (P := levA l c b) (by omega) ?_)) rfl
            first | exact fun x => x.1 k18 | exact fun x => k31 x.2
          · refine xv (x_aload_n 22 d_X6_lowestRobotEverIn_21 rfl rfl) ?_
            refine xv (x_getfield 25 d_X6_lowestRobotEverIn_22 rfl f_6_28 (Nat.le_of_ble_eq_true rfl) (Nat.le_of_ble_eq_true rfl) (q_gf_of (wh_o hW) rfl)) ?_
            refine xv (x_iload_n 26 d_X6_lowestRobotEverIn_25 rfl rfl) ?_
            refine xv (x_aaload 27 d_X6_lowestRobotEverIn_26 rfl (wh_rs hW (by omega) (by omega))) ?_
            refine xv (x_iload_n 28 d_X6_lowestRobotEverIn_27 rfl rfl) ?_
            refine xv (x_inv1 31 (as := [Value.int (zi c)]) d_X6_lowestRobotEverIn_28 rfl c_6_124 rfl (Nat.le_of_ble_eq_true rfl) (Nat.le_of_ble_eq_true rfl) (wh_r hW (by omega) (by omega)).1 (Nat.le_of_ble_eq_true rfl) (Nat.le_of_ble_eq_true rfl) rfl (S_X5_isEverIn (wh_r (r := r) hW (by omega) (by omega)) (gr r (by omega) (by omega)) (by omega) (by omega) (by omega))) ?_
            show Xv E q_m_X6_lowestRobotEverIn 31 [Value.ref w, Value.int (zi c), Value.int (zi b), Value.int (zi r)] [Value.int (zi (bI (evr (rb l r) c)))] h Q
            refine v_if_eq 36 34 d_X6_lowestRobotEverIn_31 rfl rfl (by have := bI_r (evr (rb l r) c); omega) (by have := bI_r (evr (rb l r) c); omega) (fun k31 => ?_) (fun k31 => ?_)
            · replace k31 := bI_0.mp k31
              refine xv (x_iinc 39 d_X6_lowestRobotEverIn_36 rfl rfl) ?_
              show Xv E q_m_X6_lowestRobotEverIn 39 [Value.ref w, Value.int (zi c), Value.int (zi b), Value.int (zi (r + 1))] [] h Q
              refine xv (x_goto 2 d_X6_lowestRobotEverIn_39 rfl) ?_
              refine ih2 _ (by omega) (r + 1) (by omega) (by omega) (hv.trans (fnd_b (P := levA l c b) (by omega) ?_)) rfl
              first | exact fun x => x.1 k18 | exact fun x => k31 x.2
            · replace k31 := bI_n0.mp k31
              refine xv (x_iload_n 35 d_X6_lowestRobotEverIn_34 rfl rfl) ?_
              refine xv_r (x_ireturn d_X6_lowestRobotEverIn_35 rfl rfl) ?_
              refine lq hQ ?_
              exact (hv.trans (fnd_h (P := levA l c b) (by omega) ⟨k18, k31⟩)).symm
  exact L2 _ 0 (by omega) (by omega) (by rw [Int.sub_zero]; rfl) rfl
theorem S_X6_robotWith (hW : WH h w l p) (hR : RgC l) {o : Int} (o0 : -2147483648 ≤ o) (o1 : o < 2147483648) : q_cl E q_m_X6_robotWith [Value.ref w, Value.int (zi o)] h = some (.inl (some (Value.int (zi (rwo l o)))), h) := by
  suffices K : ∀ Q : q_R → q_H → Prop, Q (.inl (some (Value.int (zi (rwo l o))))) h → Xv E q_m_X6_robotWith 0 [Value.ref w, Value.int (zi o), Value.null] [] h Q by
    obtain ⟨r_, g_, a_, b_, c_⟩ := K (fun r_ g_ => r_ = .inl (some (Value.int (zi (rwo l o)))) ∧ g_ = h) ⟨rfl, rfl⟩
    subst b_; subst c_; exact a_
  intro Q hQ
  obtain ⟨g0, g1, g2, g3, g4, gc, g5, g6, g7, gk, gl, gr, go⟩ := id hR
  refine xv (x_iconst 1 d_X6_robotWith_0 rfl) ?_
  refine xv (x_istore_n 2 d_X6_robotWith_1 rfl (Nat.le_of_ble_eq_true rfl)) ?_
  show Xv E q_m_X6_robotWith 2 [Value.ref w, Value.int (zi o), Value.int (zi 0)] [] h Q
  have L2 : ∀ (n : Nat) (r : Int), (0 ≤ r) → (r ≤ l 3) → (rwo l o = fnd (fun r => rb l r 2 = o) (l 3 - r).toNat r) → (l 3 - r).toNat = n → Xv E q_m_X6_robotWith 2 [Value.ref w, Value.int (zi o), Value.int (zi r)] [] h Q := by
    intro n
    induction n using Nat.strongRecOn with
    | _ n ih2 =>
      intro r i0 i1 hv em
      refine xv (x_aload_n 3 d_X6_robotWith_2 rfl rfl) ?_
      refine xv (x_iload_n 4 d_X6_robotWith_3 rfl rfl) ?_
      refine xv (x_inv1 7 (as := [Value.int (zi r)]) d_X6_robotWith_4 rfl c_6_106 rfl (Nat.le_of_ble_eq_true rfl) (Nat.le_of_ble_eq_true rfl) (wh_o hW) (Nat.le_of_ble_eq_true rfl) (Nat.le_of_ble_eq_true rfl) rfl (S_X6_isRobot hW hR (by omega) (by omega))) ?_
      show Xv E q_m_X6_robotWith 7 [Value.ref w, Value.int (zi o), Value.int (zi r)] [Value.int (zi (bI (isR l r)))] h Q
      refine v_if_eq 37 10 d_X6_robotWith_7 rfl rfl (by have := bI_r (isR l r); omega) (by have := bI_r (isR l r); omega) (fun k7 => ?_) (fun k7 => ?_)
      · replace k7 := bI_0.mp k7
        refine xv (x_iconst 38 d_X6_robotWith_37 rfl) ?_
        refine xv_r (x_ireturn d_X6_robotWith_38 rfl rfl) ?_
        refine lq hQ ?_
        exact ((fnd_e (by omega)).symm.trans hv.symm)
      · replace k7 := bI_n0.mp k7
        refine xv (x_iload_n 11 d_X6_robotWith_10 rfl rfl) ?_
        refine xv (x_bipush 13 d_X6_robotWith_11 rfl rfl) ?_
        refine v_icmp_ge 37 16 d_X6_robotWith_13 rfl rfl (by omega) (by omega) (by omega) (by omega) (fun k13 => ?_) (fun k13 => ?_)
        · refine xv (x_iconst 38 d_X6_robotWith_37 rfl) ?_
          refine xv_r (x_ireturn d_X6_robotWith_38 rfl rfl) ?_
          refine lq hQ ?_
          exact ((fnd_e (by omega)).symm.trans hv.symm)
        · refine xv (x_aload_n 17 d_X6_robotWith_16 rfl rfl) ?_
          refine xv (x_getfield 20 d_X6_robotWith_17 rfl f_6_28 (Nat.le_of_ble_eq_true rfl) (Nat.le_of_ble_eq_true rfl) (q_gf_of (wh_o hW) rfl)) ?_
          refine xv (x_iload_n 21 d_X6_robotWith_20 rfl rfl) ?_
          refine xv (x_aaload 22 d_X6_robotWith_21 rfl (wh_rs hW (by omega) (by omega))) ?_
          refine xv (x_getfield 25 d_X6_robotWith_22 rfl f_6_112 (Nat.le_of_ble_eq_true rfl) (Nat.le_of_ble_eq_true rfl) (q_gf_of (wh_r hW (by omega) (by omega)).1 rfl)) ?_
          have q22 := gr r (by omega) (by omega)
          refine xv (x_iload_n 26 d_X6_robotWith_25 rfl rfl) ?_
          refine v_icmp_ne 31 29 d_X6_robotWith_26 rfl rfl (by omega) (by omega) (by omega) (by omega) (fun k26 => ?_) (fun k26 => ?_)
          · refine xv (x_iinc 34 d_X6_robotWith_31 rfl rfl) ?_
            show Xv E q_m_X6_robotWith 34 [Value.ref w, Value.int (zi o), Value.int (zi (r + 1))] [] h Q
            refine xv (x_goto 2 d_X6_robotWith_34 rfl) ?_
            refine ih2 _ (by omega) (r + 1) (by omega) (by omega) (hv.trans (fnd_b (P := fun r => rb l r 2 = o) (by omega) ?_)) rfl
            exact k26
          · refine xv (x_iload_n 30 d_X6_robotWith_29 rfl rfl) ?_
            refine xv_r (x_ireturn d_X6_robotWith_30 rfl rfl) ?_
            refine lq hQ ?_
            exact (hv.trans (fnd_h (P := fun r => rb l r 2 = o) (by omega) k26)).symm
  exact L2 _ 0 (by omega) (by omega) (by rw [Int.sub_zero]; rfl) rfl
theorem rwo_r {s : Int → Int} {o : Int} : rwo s o = -1 ∨ (0 ≤ rwo s o ∧ rwo s o < 0 + ((s 3).toNat : Nat)) := fnd_r
theorem rin_r {s : Int → Int} {c t : Int} : rin s c t = -1 ∨ (0 ≤ rin s c t ∧ rin s c t < 0 + ((s 3).toNat : Nat)) := fnd_r
theorem lev_r {s : Int → Int} {c t : Int} : lev s c t = -1 ∨ (0 ≤ lev s c t ∧ lev s c t < 0 + ((s 3).toNat : Nat)) := fnd_r
theorem S_X6_stateOf (hW : WH h w l p) (hR : RgC l) {o : Int} (o0 : -2147483648 ≤ o) (o1 : o < 2147483648) : q_cl E q_m_X6_stateOf [Value.ref w, Value.int (zi o)] h = some (.inl (some (Value.int (zi (stc l o)))), h) := by
  suffices K : ∀ Q : q_R → q_H → Prop, Q (.inl (some (Value.int (zi (stc l o))))) h → Xv E q_m_X6_stateOf 0 [Value.ref w, Value.int (zi o)] [] h Q by
    obtain ⟨r_, g_, a_, b_, c_⟩ := K (fun r_ g_ => r_ = .inl (some (Value.int (zi (stc l o)))) ∧ g_ = h) ⟨rfl, rfl⟩
    subst b_; subst c_; exact a_
  intro Q hQ
  obtain ⟨g0, g1, g2, g3, g4, gc, g5, g6, g7, gk, gl, gr, go⟩ := id hR
  refine xv (x_aload_n 1 d_X6_stateOf_0 rfl rfl) ?_
  refine xv (x_iload_n 2 d_X6_stateOf_1 rfl rfl) ?_
  refine xv (x_inv1 5 (as := [Value.int (zi o)]) d_X6_stateOf_2 rfl c_6_115 rfl (Nat.le_of_ble_eq_true rfl) (Nat.le_of_ble_eq_true rfl) (wh_o hW) (Nat.le_of_ble_eq_true rfl) (Nat.le_of_ble_eq_true rfl) rfl (S_X6_isOrder hW hR (by omega) (by omega))) ?_
  show Xv E q_m_X6_stateOf 5 [Value.ref w, Value.int (zi o)] [Value.int (zi (bI (isO l o)))] h Q
  refine v_if_eq 23 8 d_X6_stateOf_5 rfl rfl (by have := bI_r (isO l o); omega) (by have := bI_r (isO l o); omega) (fun k5 => ?_) (fun k5 => ?_)
  · replace k5 := bI_0.mp k5
    refine xv (x_aload_n 24 d_X6_stateOf_23 rfl rfl) ?_
    refine xv (x_iload_n 25 d_X6_stateOf_24 rfl rfl) ?_
    refine xv (x_inv1 28 (as := [Value.int (zi o)]) d_X6_stateOf_25 rfl c_6_130 rfl (Nat.le_of_ble_eq_true rfl) (Nat.le_of_ble_eq_true rfl) (wh_o hW) (Nat.le_of_ble_eq_true rfl) (Nat.le_of_ble_eq_true rfl) rfl (S_X6_robotWith hW hR (by omega) (by omega))) ?_
    have q25 := @rwo_r l o
    show Xv E q_m_X6_stateOf 28 [Value.ref w, Value.int (zi o)] [Value.int (zi (rwo l o))] h Q
    refine xv (x_iconst 29 d_X6_stateOf_28 rfl) ?_
    refine v_icmp_ne 36 32 d_X6_stateOf_29 rfl rfl (by omega) (by omega) (by omega) (by omega) (fun k29 => ?_) (fun k29 => ?_)
    · refine xv (x_iconst 37 d_X6_stateOf_36 rfl) ?_
      refine xv_r (x_ireturn d_X6_stateOf_37 rfl rfl) ?_
      refine lq hQ ?_
      unfold stc; repeat (first | rw [if_pos (by omega)] | rw [if_neg (by omega)])
    · refine xv (x_iconst 33 d_X6_stateOf_32 rfl) ?_
      refine xv (x_goto 37 d_X6_stateOf_33 rfl) ?_
      refine xv_r (x_ireturn d_X6_stateOf_37 rfl rfl) ?_
      refine lq hQ ?_
      unfold stc; repeat (first | rw [if_pos (by omega)] | rw [if_neg (by omega)])
  · replace k5 := bI_n0.mp k5
    refine xv (x_aload_n 9 d_X6_stateOf_8 rfl rfl) ?_
    refine xv (x_getfield 12 d_X6_stateOf_9 rfl f_6_35 (Nat.le_of_ble_eq_true rfl) (Nat.le_of_ble_eq_true rfl) (q_gf_of (wh_o hW) rfl)) ?_
    refine xv (x_iload_n 13 d_X6_stateOf_12 rfl rfl) ?_
    refine xv (x_aaload 14 d_X6_stateOf_13 rfl (wh_os hW (by omega) (by omega))) ?_
    refine xv (x_getfield 17 d_X6_stateOf_14 rfl f_6_127 (Nat.le_of_ble_eq_true rfl) (Nat.le_of_ble_eq_true rfl) (q_gf_of (wh_ob hW (by omega) (by omega)).1 rfl)) ?_
    have q14 := go o (by omega) (by omega)
    refine xv (x_iconst 18 d_X6_stateOf_17 rfl) ?_
    refine v_icmp_eq 23 21 d_X6_stateOf_18 rfl rfl (by omega) (by omega) (by omega) (by omega) (fun k18 => ?_) (fun k18 => ?_)
    · refine xv (x_aload_n 24 d_X6_stateOf_23 rfl rfl) ?_
      refine xv (x_iload_n 25 d_X6_stateOf_24 rfl rfl) ?_
      refine xv (x_inv1 28 (as := [Value.int (zi o)]) d_X6_stateOf_25 rfl c_6_130 rfl (Nat.le_of_ble_eq_true rfl) (Nat.le_of_ble_eq_true rfl) (wh_o hW) (Nat.le_of_ble_eq_true rfl) (Nat.le_of_ble_eq_true rfl) rfl (S_X6_robotWith hW hR (by omega) (by omega))) ?_
      have q25 := @rwo_r l o
      show Xv E q_m_X6_stateOf 28 [Value.ref w, Value.int (zi o)] [Value.int (zi (rwo l o))] h Q
      refine xv (x_iconst 29 d_X6_stateOf_28 rfl) ?_
      refine v_icmp_ne 36 32 d_X6_stateOf_29 rfl rfl (by omega) (by omega) (by omega) (by omega) (fun k29 => ?_) (fun k29 => ?_)
      · refine xv (x_iconst 37 d_X6_stateOf_36 rfl) ?_
        refine xv_r (x_ireturn d_X6_stateOf_37 rfl rfl) ?_
        refine lq hQ ?_
        unfold stc; repeat (first | rw [if_pos (by omega)] | rw [if_neg (by omega)])
      · refine xv (x_iconst 33 d_X6_stateOf_32 rfl) ?_
        refine xv (x_goto 37 d_X6_stateOf_33 rfl) ?_
        refine xv_r (x_ireturn d_X6_stateOf_37 rfl rfl) ?_
        refine lq hQ ?_
        unfold stc; repeat (first | rw [if_pos (by omega)] | rw [if_neg (by omega)])
    · refine xv (x_iconst 22 d_X6_stateOf_21 rfl) ?_
      refine xv_r (x_ireturn d_X6_stateOf_22 rfl rfl) ?_
      refine lq hQ ?_
      unfold stc; repeat (first | rw [if_pos (by omega)] | rw [if_neg (by omega)])
theorem S_X6_closedCount (hW : WH h w l p) (hR : RgC l)  : q_cl E q_m_X6_closedCount [Value.ref w] h = some (.inl (some (Value.int (zi (ccl l)))), h) := by
  suffices K : ∀ Q : q_R → q_H → Prop, Q (.inl (some (Value.int (zi (ccl l))))) h → Xv E q_m_X6_closedCount 0 [Value.ref w, Value.null, Value.null] [] h Q by
    obtain ⟨r_, g_, a_, b_, c_⟩ := K (fun r_ g_ => r_ = .inl (some (Value.int (zi (ccl l)))) ∧ g_ = h) ⟨rfl, rfl⟩
    subst b_; subst c_; exact a_
  intro Q hQ
  obtain ⟨g0, g1, g2, g3, g4, gc, g5, g6, g7, gk, gl, gr, go⟩ := id hR
  refine xv (x_iconst 1 d_X6_closedCount_0 rfl) ?_
  refine xv (x_istore_n 2 d_X6_closedCount_1 rfl (Nat.le_of_ble_eq_true rfl)) ?_
  show Xv E q_m_X6_closedCount 2 [Value.ref w, Value.int (zi 0), Value.null] [] h Q
  refine xv (x_iconst 3 d_X6_closedCount_2 rfl) ?_
  refine xv (x_istore_n 4 d_X6_closedCount_3 rfl (Nat.le_of_ble_eq_true rfl)) ?_
  show Xv E q_m_X6_closedCount 4 [Value.ref w, Value.int (zi 0), Value.int (zi 0)] [] h Q
  have L4 : ∀ (n : Nat) (a : Int) (k : Int), (0 ≤ k) → (k ≤ cs l) → (-1 * k ≤ a ∧ a ≤ 1 * k) → (ccl l = lpI (fun k a => a + l (56 + k)) (cs l - k).toNat k a) → (cs l - k).toNat = n → Xv E q_m_X6_closedCount 4 [Value.ref w, Value.int (zi a), Value.int (zi k)] [] h Q := by
    intro n
    induction n using Nat.strongRecOn with
    | _ n ih4 =>
      intro a k i0 i1 ab hv em
      refine xv (x_aload_n 5 d_X6_closedCount_4 rfl rfl) ?_
      refine xv (x_iload_n 6 d_X6_closedCount_5 rfl rfl) ?_
      refine xv (x_inv1 9 (as := [Value.int (zi k)]) d_X6_closedCount_6 rfl c_6_87 rfl (Nat.le_of_ble_eq_true rfl) (Nat.le_of_ble_eq_true rfl) (wh_o hW) (Nat.le_of_ble_eq_true rfl) (Nat.le_of_ble_eq_true rfl) rfl (S_X6_isCell hW hR (by omega) (by omega))) ?_
      show Xv E q_m_X6_closedCount 9 [Value.ref w, Value.int (zi a), Value.int (zi k)] [Value.int (zi (bI (isC l k)))] h Q
      refine v_if_eq 36 12 d_X6_closedCount_9 rfl rfl (by have := bI_r (isC l k); omega) (by have := bI_r (isC l k); omega) (fun k9 => ?_) (fun k9 => ?_)
      · replace k9 := bI_0.mp k9
        refine xv (x_iload_n 37 d_X6_closedCount_36 rfl rfl) ?_
        refine xv_r (x_ireturn d_X6_closedCount_37 rfl rfl) ?_
        refine lq hQ ?_
        exact ((lpI_e (by omega)).symm.trans hv.symm)
      · replace k9 := bI_n0.mp k9
        refine xv (x_iload_n 13 d_X6_closedCount_12 rfl rfl) ?_
        refine xv (x_bipush 15 d_X6_closedCount_13 rfl rfl) ?_
        refine v_icmp_ge 36 18 d_X6_closedCount_15 rfl rfl (by omega) (by omega) (by omega) (by omega) (fun k15 => ?_) (fun k15 => ?_)
        · refine xv (x_iload_n 37 d_X6_closedCount_36 rfl rfl) ?_
          refine xv_r (x_ireturn d_X6_closedCount_37 rfl rfl) ?_
          refine lq hQ ?_
          exact ((lpI_e (by omega)).symm.trans hv.symm)
        · refine xv (x_aload_n 19 d_X6_closedCount_18 rfl rfl) ?_
          refine xv (x_getfield 22 d_X6_closedCount_19 rfl f_6_22 (Nat.le_of_ble_eq_true rfl) (Nat.le_of_ble_eq_true rfl) (q_gf_of (wh_o hW) rfl)) ?_
          refine xv (x_iload_n 23 d_X6_closedCount_22 rfl rfl) ?_
          refine xv (x_baload 24 d_X6_closedCount_23 rfl (ai_b (wh_c hW) (by omega) (by omega) (by decide))) ?_
          have q23 := gl k (by omega) (by omega)
          refine v_if_eq 30 27 d_X6_closedCount_24 rfl rfl (by omega) (by omega) (fun k24 => ?_) (fun k24 => ?_)
          · refine xv (x_iinc 33 d_X6_closedCount_30 rfl rfl) ?_
            show Xv E q_m_X6_closedCount 33 [Value.ref w, Value.int (zi a), Value.int (zi (k + 1))] [] h Q
            refine xv (x_goto 4 d_X6_closedCount_33 rfl) ?_
            refine ih4 _ (by omega) _ (k + 1) (by omega) (by omega) (by omega) (hv.trans ((lpI_b (by omega)).trans (congrArg (lpI _ _ _) ?_))) rfl
            first | rfl | omega | rw [if_pos (by omega)] | rw [if_neg (by omega), Int.add_zero]
          · refine xv (x_iinc 30 d_X6_closedCount_27 rfl rfl) ?_
            show Xv E q_m_X6_closedCount 30 [Value.ref w, Value.int (zi (a + 1)), Value.int (zi k)] [] h Q
            refine xv (x_iinc 33 d_X6_closedCount_30 rfl rfl) ?_
            show Xv E q_m_X6_closedCount 33 [Value.ref w, Value.int (zi (a + 1)), Value.int (zi (k + 1))] [] h Q
            refine xv (x_goto 4 d_X6_closedCount_33 rfl) ?_
            refine ih4 _ (by omega) _ (k + 1) (by omega) (by omega) (by omega) (hv.trans ((lpI_b (by omega)).trans (congrArg (lpI _ _ _) ?_))) rfl
            first | rfl | omega | rw [if_pos (by omega)] | rw [if_neg (by omega), Int.add_zero]
  exact L4 _ 0 0 (by omega) (by omega) (by omega) (by rw [Int.sub_zero]; rfl) rfl
abbrev nbE (s : Int → Int) (c w : Int) : Prop := 0 ≤ bes s c w ∧ ent s (bes s c w)
noncomputable def nbC (s : Int → Int) (c : Int) : Int := lpI (fun w a => a + bI (nbE s c w)) 4 0 0
theorem S_X6_enteredNeighbors (hW : WH h w l p) (hR : RgC l) {c : Int} (h1 : isC l c) : q_cl E q_m_X6_enteredNeighbors [Value.ref w, Value.int (zi c)] h = some (.inl (some (Value.int (zi (nbC l c)))), h) := by
  suffices K : ∀ Q : q_R → q_H → Prop, Q (.inl (some (Value.int (zi (nbC l c))))) h → Xv E q_m_X6_enteredNeighbors 0 [Value.ref w, Value.int (zi c), Value.null, Value.null] [] h Q by
    obtain ⟨r_, g_, a_, b_, c_⟩ := K (fun r_ g_ => r_ = .inl (some (Value.int (zi (nbC l c)))) ∧ g_ = h) ⟨rfl, rfl⟩
    subst b_; subst c_; exact a_
  intro Q hQ
  obtain ⟨g0, g1, g2, g3, g4, gc, g5, g6, g7, gk, gl, gr, go⟩ := id hR
  refine xv (x_iconst 1 d_X6_enteredNeighbors_0 rfl) ?_
  refine xv (x_istore_n 2 d_X6_enteredNeighbors_1 rfl (Nat.le_of_ble_eq_true rfl)) ?_
  show Xv E q_m_X6_enteredNeighbors 2 [Value.ref w, Value.int (zi c), Value.int (zi 0), Value.null] [] h Q
  refine xv (x_iconst 3 d_X6_enteredNeighbors_2 rfl) ?_
  refine xv (x_istore_n 4 d_X6_enteredNeighbors_3 rfl (Nat.le_of_ble_eq_true rfl)) ?_
  show Xv E q_m_X6_enteredNeighbors 4 [Value.ref w, Value.int (zi c), Value.int (zi 0), Value.int (zi 0)] [] h Q
  have L4 : ∀ (n : Nat) (a : Int) (k : Int), (0 ≤ k) → (k ≤ 4) → (0 ≤ a ∧ a ≤ k) → (nbC l c = lpI (fun k a => a + bI (nbE l c k)) (4 - k).toNat k a) → (4 - k).toNat = n → Xv E q_m_X6_enteredNeighbors 4 [Value.ref w, Value.int (zi c), Value.int (zi a), Value.int (zi k)] [] h Q := by
    intro n
    induction n using Nat.strongRecOn with
    | _ n ih4 =>
      intro a k i0 i1 ab hv em
      refine xv (x_iload_n 5 d_X6_enteredNeighbors_4 rfl rfl) ?_
      refine xv (x_iconst 6 d_X6_enteredNeighbors_5 rfl) ?_
      refine v_icmp_ge 31 9 d_X6_enteredNeighbors_6 rfl rfl (by omega) (by omega) (by omega) (by omega) (fun k6 => ?_) (fun k6 => ?_)
      · refine xv (x_iload_n 32 d_X6_enteredNeighbors_31 rfl rfl) ?_
        refine xv_r (x_ireturn d_X6_enteredNeighbors_32 rfl rfl) ?_
        refine lq hQ ?_
        exact ((lpI_e (by omega)).symm.trans hv.symm)
      · refine xv (x_aload_n 10 d_X6_enteredNeighbors_9 rfl rfl) ?_
        refine xv (x_aload_n 11 d_X6_enteredNeighbors_10 rfl rfl) ?_
        refine xv (x_iload_n 12 d_X6_enteredNeighbors_11 rfl rfl) ?_
        refine xv (x_iload_n 13 d_X6_enteredNeighbors_12 rfl rfl) ?_
        refine xv (x_inv1 16 (as := [Value.int (zi c), Value.int (zi k)]) d_X6_enteredNeighbors_13 rfl c_6_95 rfl (Nat.le_of_ble_eq_true rfl) (Nat.le_of_ble_eq_true rfl) (wh_o hW) (Nat.le_of_ble_eq_true rfl) (Nat.le_of_ble_eq_true rfl) rfl (S_X6_neighbor hW hR (by omega) (by omega) (by omega))) ?_
        have q13 := besC_r (w := k) hR (show isC l c by omega)
        show Xv E q_m_X6_enteredNeighbors 16 [Value.ref w, Value.int (zi c), Value.int (zi a), Value.int (zi k)] [Value.int (zi (bes l c k)), Value.ref w] h Q
        refine xv (x_inv1 19 (as := [Value.int (zi (bes l c k))]) d_X6_enteredNeighbors_16 rfl c_6_99 rfl (Nat.le_of_ble_eq_true rfl) (Nat.le_of_ble_eq_true rfl) (wh_o hW) (Nat.le_of_ble_eq_true rfl) (Nat.le_of_ble_eq_true rfl) rfl (S_X6_canEnter hW hR (by omega) (by omega))) ?_
        show Xv E q_m_X6_enteredNeighbors 19 [Value.ref w, Value.int (zi c), Value.int (zi a), Value.int (zi k)] [Value.int (zi (bI (isC l (bes l c k) ∧ ent l (bes l c k))))] h Q
        refine v_if_eq 25 22 d_X6_enteredNeighbors_19 rfl rfl (by have := bI_r (isC l (bes l c k) ∧ ent l (bes l c k)); omega) (by have := bI_r (isC l (bes l c k) ∧ ent l (bes l c k)); omega) (fun k19 => ?_) (fun k19 => ?_)
        · replace k19 := bI_0.mp k19
          refine xv (x_iinc 28 d_X6_enteredNeighbors_25 rfl rfl) ?_
          show Xv E q_m_X6_enteredNeighbors 28 [Value.ref w, Value.int (zi c), Value.int (zi a), Value.int (zi (k + 1))] [] h Q
          refine xv (x_goto 4 d_X6_enteredNeighbors_28 rfl) ?_
          refine ih4 _ (by omega) _ (k + 1) (by omega) (by omega) (by omega) (hv.trans ((lpI_b (by omega)).trans (congrArg (lpI _ _ _) ?_))) rfl
          show a + bI (nbE l c k) = _
          first | rw [bI_t (show nbE l c k from ⟨k19.1.1, k19.2⟩)] | rw [bI_f (show ¬ nbE l c k from fun x => k19 ⟨by omega, x.2⟩), Int.add_zero]
        · replace k19 := bI_n0.mp k19
          refine xv (x_iinc 25 d_X6_enteredNeighbors_22 rfl rfl) ?_
          show Xv E q_m_X6_enteredNeighbors 25 [Value.ref w, Value.int (zi c), Value.int (zi (a + 1)), Value.int (zi k)] [] h Q
          refine xv (x_iinc 28 d_X6_enteredNeighbors_25 rfl rfl) ?_
          show Xv E q_m_X6_enteredNeighbors 28 [Value.ref w, Value.int (zi c), Value.int (zi (a + 1)), Value.int (zi (k + 1))] [] h Q
          refine xv (x_goto 4 d_X6_enteredNeighbors_28 rfl) ?_
          refine ih4 _ (by omega) _ (k + 1) (by omega) (by omega) (by omega) (hv.trans ((lpI_b (by omega)).trans (congrArg (lpI _ _ _) ?_))) rfl
          show a + bI (nbE l c k) = _
          first | rw [bI_t (show nbE l c k from ⟨k19.1.1, k19.2⟩)] | rw [bI_f (show ¬ nbE l c k from fun x => k19 ⟨by omega, x.2⟩), Int.add_zero]
  exact L4 _ 0 0 (by omega) (by omega) (by omega) rfl rfl
noncomputable def oin (s : Int → Int) (st : Int) : Int := lpI (fun k a => a + bI (stc s k = st)) (s 4).toNat 0 0
/-- which order comes first, as the class has it -/
abbrev rkb (s : Int → Int) (x y : Int) : Prop := ob s x 0 < ob s y 0 ∨ (ob s x 0 = ob s y 0 ∧ (ob s x 1 - ob s x 2 > ob s y 1 - ob s y 2 ∨ (ob s x 1 - ob s x 2 = ob s y 1 - ob s y 2 ∧ x < y)))
noncomputable def wbf (s : Int → Int) (o : Int) : Int := lpI (fun k a => a + bI (stc s k = 0 ∧ rkb s k o)) (s 4).toNat 0 0
noncomputable def wor (s : Int → Int) (i : Int) : Int := fnd (fun o => stc s o = 0 ∧ wbf s o = i) (s 4).toNat 0
noncomputable def ldn (s : Int → Int) : Int := lpI (fun k a => a + bI (isO s (rb s k 2) ∧ 0 < ob s (rb s k 2) 2)) (s 3).toNat 0 0
def sts (s : Int → Int) (w : Int) : Int := lpI (fun k a => a + rb s k w) (s 3).toNat 0 0
def pks (s : Int → Int) : Int := lpI (fun k a => a + ob s k 2) (s 4).toNat 0 0
noncomputable def lts (s : Int → Int) : Int := lpI (fun k a => a + (if ¬ ob s k 4 = -1 then ob s k 4 - ob s k 0 else 0)) (s 4).toNat 0 0
theorem S_X6_ordersIn (hW : WH h w l p) (hR : RgC l) {x : Int} (x0 : -2147483648 ≤ x) (x1 : x < 2147483648) : q_cl E q_m_X6_ordersIn [Value.ref w, Value.int (zi x)] h = some (.inl (some (Value.int (zi (oin l x)))), h) := by
  suffices K : ∀ Q : q_R → q_H → Prop, Q (.inl (some (Value.int (zi (oin l x))))) h → Xv E q_m_X6_ordersIn 0 [Value.ref w, Value.int (zi x), Value.null, Value.null] [] h Q by
    obtain ⟨r_, g_, a_, b_, c_⟩ := K (fun r_ g_ => r_ = .inl (some (Value.int (zi (oin l x)))) ∧ g_ = h) ⟨rfl, rfl⟩
    subst b_; subst c_; exact a_
  intro Q hQ
  obtain ⟨g0, g1, g2, g3, g4, gc, g5, g6, g7, gk, gl, gr, go⟩ := id hR
  refine xv (x_iconst 1 d_X6_ordersIn_0 rfl) ?_
  refine xv (x_istore_n 2 d_X6_ordersIn_1 rfl (Nat.le_of_ble_eq_true rfl)) ?_
  show Xv E q_m_X6_ordersIn 2 [Value.ref w, Value.int (zi x), Value.int (zi 0), Value.null] [] h Q
  refine xv (x_iconst 3 d_X6_ordersIn_2 rfl) ?_
  refine xv (x_istore_n 4 d_X6_ordersIn_3 rfl (Nat.le_of_ble_eq_true rfl)) ?_
  show Xv E q_m_X6_ordersIn 4 [Value.ref w, Value.int (zi x), Value.int (zi 0), Value.int (zi 0)] [] h Q
  have L4 : ∀ (n : Nat) (a : Int) (k : Int), (0 ≤ k) → (k ≤ l 4) → (0 ≤ a ∧ a ≤ k) → (oin l x = lpI (fun k a => a + bI (stc l k = x)) (l 4 - k).toNat k a) → (l 4 - k).toNat = n → Xv E q_m_X6_ordersIn 4 [Value.ref w, Value.int (zi x), Value.int (zi a), Value.int (zi k)] [] h Q := by
    intro n
    induction n using Nat.strongRecOn with
    | _ n ih4 =>
      intro a k i0 i1 ab hv em
      refine xv (x_aload_n 5 d_X6_ordersIn_4 rfl rfl) ?_
      refine xv (x_iload_n 6 d_X6_ordersIn_5 rfl rfl) ?_
      refine xv (x_inv1 9 (as := [Value.int (zi k)]) d_X6_ordersIn_6 rfl c_6_115 rfl (Nat.le_of_ble_eq_true rfl) (Nat.le_of_ble_eq_true rfl) (wh_o hW) (Nat.le_of_ble_eq_true rfl) (Nat.le_of_ble_eq_true rfl) rfl (S_X6_isOrder hW hR (by omega) (by omega))) ?_
      show Xv E q_m_X6_ordersIn 9 [Value.ref w, Value.int (zi x), Value.int (zi a), Value.int (zi k)] [Value.int (zi (bI (isO l k)))] h Q
      refine v_if_eq 36 12 d_X6_ordersIn_9 rfl rfl (by have := bI_r (isO l k); omega) (by have := bI_r (isO l k); omega) (fun k9 => ?_) (fun k9 => ?_)
      · replace k9 := bI_0.mp k9
        refine xv (x_iload_n 37 d_X6_ordersIn_36 rfl rfl) ?_
        refine xv_r (x_ireturn d_X6_ordersIn_37 rfl rfl) ?_
        refine lq hQ ?_
        exact ((lpI_e (by omega)).symm.trans hv.symm)
      · replace k9 := bI_n0.mp k9
        refine xv (x_iload_n 13 d_X6_ordersIn_12 rfl rfl) ?_
        refine xv (x_bipush 15 d_X6_ordersIn_13 rfl rfl) ?_
        refine v_icmp_ge 36 18 d_X6_ordersIn_15 rfl rfl (by omega) (by omega) (by omega) (by omega) (fun k15 => ?_) (fun k15 => ?_)
        · refine xv (x_iload_n 37 d_X6_ordersIn_36 rfl rfl) ?_
          refine xv_r (x_ireturn d_X6_ordersIn_37 rfl rfl) ?_
          refine lq hQ ?_
          exact ((lpI_e (by omega)).symm.trans hv.symm)
        · refine xv (x_aload_n 19 d_X6_ordersIn_18 rfl rfl) ?_
          refine xv (x_iload_n 20 d_X6_ordersIn_19 rfl rfl) ?_
          refine xv (x_inv1 23 (as := [Value.int (zi k)]) d_X6_ordersIn_20 rfl c_6_133 rfl (Nat.le_of_ble_eq_true rfl) (Nat.le_of_ble_eq_true rfl) (wh_o hW) (Nat.le_of_ble_eq_true rfl) (Nat.le_of_ble_eq_true rfl) rfl (S_X6_stateOf hW hR (by omega) (by omega))) ?_
          have q20 := @stc_r l k
          show Xv E q_m_X6_ordersIn 23 [Value.ref w, Value.int (zi x), Value.int (zi a), Value.int (zi k)] [Value.int (zi (stc l k))] h Q
          refine xv (x_iload_n 24 d_X6_ordersIn_23 rfl rfl) ?_
          refine v_icmp_ne 30 27 d_X6_ordersIn_24 rfl rfl (by omega) (by omega) (by omega) (by omega) (fun k24 => ?_) (fun k24 => ?_)
          · refine xv (x_iinc 33 d_X6_ordersIn_30 rfl rfl) ?_
            show Xv E q_m_X6_ordersIn 33 [Value.ref w, Value.int (zi x), Value.int (zi a), Value.int (zi (k + 1))] [] h Q
            refine xv (x_goto 4 d_X6_ordersIn_33 rfl) ?_
            refine ih4 _ (by omega) _ (k + 1) (by omega) (by omega) (by omega) (hv.trans ((lpI_b (by omega)).trans (congrArg (lpI _ _ _) ?_))) rfl
            show a + bI (stc l k = x) = _
            first | rw [bI_t (show stc l k = x from k24)] | rw [bI_f (show ¬ (stc l k = x) from k24), Int.add_zero]
          · refine xv (x_iinc 30 d_X6_ordersIn_27 rfl rfl) ?_
            show Xv E q_m_X6_ordersIn 30 [Value.ref w, Value.int (zi x), Value.int (zi (a + 1)), Value.int (zi k)] [] h Q
            refine xv (x_iinc 33 d_X6_ordersIn_30 rfl rfl) ?_
            show Xv E q_m_X6_ordersIn 33 [Value.ref w, Value.int (zi x), Value.int (zi (a + 1)), Value.int (zi (k + 1))] [] h Q
            refine xv (x_goto 4 d_X6_ordersIn_33 rfl) ?_
            refine ih4 _ (by omega) _ (k + 1) (by omega) (by omega) (by omega) (hv.trans ((lpI_b (by omega)).trans (congrArg (lpI _ _ _) ?_))) rfl
            show a + bI (stc l k = x) = _
            first | rw [bI_t (show stc l k = x from k24)] | rw [bI_f (show ¬ (stc l k = x) from k24), Int.add_zero]
  exact L4 _ 0 0 (by omega) (by omega) (by omega) (by rw [Int.sub_zero]; rfl) rfl
theorem S_X6_isRankedBefore (hW : WH h w l p) (hR : RgC l) {x y : Int} (h1 : isO l x) (h2 : isO l y) : q_cl E q_m_X6_isRankedBefore [Value.ref w, Value.int (zi x), Value.int (zi y)] h = some (.inl (some (Value.int (zi (bI (rkb l x y))))), h) := by
  suffices K : ∀ Q : q_R → q_H → Prop, Q (.inl (some (Value.int (zi (bI (rkb l x y)))))) h → Xv E q_m_X6_isRankedBefore 0 [Value.ref w, Value.int (zi x), Value.int (zi y)] [] h Q by
    obtain ⟨r_, g_, a_, b_, c_⟩ := K (fun r_ g_ => r_ = .inl (some (Value.int (zi (bI (rkb l x y))))) ∧ g_ = h) ⟨rfl, rfl⟩
    subst b_; subst c_; exact a_
  intro Q hQ
  obtain ⟨g0, g1, g2, g3, g4, gc, g5, g6, g7, gk, gl, gr, go⟩ := id hR
  refine xv (x_aload_n 1 d_X6_isRankedBefore_0 rfl rfl) ?_
  refine xv (x_getfield 4 d_X6_isRankedBefore_1 rfl f_6_35 (Nat.le_of_ble_eq_true rfl) (Nat.le_of_ble_eq_true rfl) (q_gf_of (wh_o hW) rfl)) ?_
  refine xv (x_iload_n 5 d_X6_isRankedBefore_4 rfl rfl) ?_
  refine xv (x_aaload 6 d_X6_isRankedBefore_5 rfl (wh_os hW (by omega) (by omega))) ?_
  refine xv (x_getfield 9 d_X6_isRankedBefore_6 rfl f_6_143 (Nat.le_of_ble_eq_true rfl) (Nat.le_of_ble_eq_true rfl) (q_gf_of (wh_ob hW (by omega) (by omega)).1 rfl)) ?_
  have q6 := go x (by omega) (by omega)
  refine xv (x_aload_n 10 d_X6_isRankedBefore_9 rfl rfl) ?_
  refine xv (x_getfield 13 d_X6_isRankedBefore_10 rfl f_6_35 (Nat.le_of_ble_eq_true rfl) (Nat.le_of_ble_eq_true rfl) (q_gf_of (wh_o hW) rfl)) ?_
  refine xv (x_iload_n 14 d_X6_isRankedBefore_13 rfl rfl) ?_
  refine xv (x_aaload 15 d_X6_isRankedBefore_14 rfl (wh_os hW (by omega) (by omega))) ?_
  refine xv (x_getfield 18 d_X6_isRankedBefore_15 rfl f_6_143 (Nat.le_of_ble_eq_true rfl) (Nat.le_of_ble_eq_true rfl) (q_gf_of (wh_ob hW (by omega) (by omega)).1 rfl)) ?_
  have q15 := go y (by omega) (by omega)
  refine v_icmp_eq 48 21 d_X6_isRankedBefore_18 rfl rfl (by omega) (by omega) (by omega) (by omega) (fun k18 => ?_) (fun k18 => ?_)
  · refine xv (x_aload_n 49 d_X6_isRankedBefore_48 rfl rfl) ?_
    refine xv (x_getfield 52 d_X6_isRankedBefore_49 rfl f_6_35 (Nat.le_of_ble_eq_true rfl) (Nat.le_of_ble_eq_true rfl) (q_gf_of (wh_o hW) rfl)) ?_
    refine xv (x_iload_n 53 d_X6_isRankedBefore_52 rfl rfl) ?_
    refine xv (x_aaload 54 d_X6_isRankedBefore_53 rfl (wh_os hW (by omega) (by omega))) ?_
    refine xv (x_inv1 57 (as := []) d_X6_isRankedBefore_54 rfl c_6_146 rfl (Nat.le_of_ble_eq_true rfl) (Nat.le_of_ble_eq_true rfl) (wh_ob hW (by omega) (by omega)).1 (Nat.le_of_ble_eq_true rfl) (Nat.le_of_ble_eq_true rfl) rfl (S_X3_linesLeft (wh_ob (o := x) hW (by omega) (by omega)) (go x (by omega) (by omega)))) ?_
    have q54 := (go x (by omega) (by omega))
    show Xv E q_m_X6_isRankedBefore 57 [Value.ref w, Value.int (zi x), Value.int (zi y)] [Value.int (zi (ob l x 1 - ob l x 2))] h Q
    refine xv (x_aload_n 58 d_X6_isRankedBefore_57 rfl rfl) ?_
    refine xv (x_getfield 61 d_X6_isRankedBefore_58 rfl f_6_35 (Nat.le_of_ble_eq_true rfl) (Nat.le_of_ble_eq_true rfl) (q_gf_of (wh_o hW) rfl)) ?_
    refine xv (x_iload_n 62 d_X6_isRankedBefore_61 rfl rfl) ?_
    refine xv (x_aaload 63 d_X6_isRankedBefore_62 rfl (wh_os hW (by omega) (by omega))) ?_
    refine xv (x_inv1 66 (as := []) d_X6_isRankedBefore_63 rfl c_6_146 rfl (Nat.le_of_ble_eq_true rfl) (Nat.le_of_ble_eq_true rfl) (wh_ob hW (by omega) (by omega)).1 (Nat.le_of_ble_eq_true rfl) (Nat.le_of_ble_eq_true rfl) rfl (S_X3_linesLeft (wh_ob (o := y) hW (by omega) (by omega)) (go y (by omega) (by omega)))) ?_
    have q63 := (go y (by omega) (by omega))
    show Xv E q_m_X6_isRankedBefore 66 [Value.ref w, Value.int (zi x), Value.int (zi y)] [Value.int (zi (ob l y 1 - ob l y 2)), Value.int (zi (ob l x 1 - ob l x 2))] h Q
    refine v_icmp_eq 96 69 d_X6_isRankedBefore_66 rfl rfl (by omega) (by omega) (by omega) (by omega) (fun k66 => ?_) (fun k66 => ?_)
    · refine xv (x_iload_n 97 d_X6_isRankedBefore_96 rfl rfl) ?_
      refine xv (x_iload_n 98 d_X6_isRankedBefore_97 rfl rfl) ?_
      refine v_icmp_ge 105 101 d_X6_isRankedBefore_98 rfl rfl (by omega) (by omega) (by omega) (by omega) (fun k98 => ?_) (fun k98 => ?_)
      · refine xv (x_iconst 106 d_X6_isRankedBefore_105 rfl) ?_
        refine xv_r (x_ireturn d_X6_isRankedBefore_106 rfl rfl) ?_
        refine lq hQ ?_
        exact (bI_f (by omega)).symm
      · refine xv (x_iconst 102 d_X6_isRankedBefore_101 rfl) ?_
        refine xv (x_goto 106 d_X6_isRankedBefore_102 rfl) ?_
        refine xv_r (x_ireturn d_X6_isRankedBefore_106 rfl rfl) ?_
        refine lq hQ ?_
        exact (bI_t (by omega)).symm
    · refine xv (x_aload_n 70 d_X6_isRankedBefore_69 rfl rfl) ?_
      refine xv (x_getfield 73 d_X6_isRankedBefore_70 rfl f_6_35 (Nat.le_of_ble_eq_true rfl) (Nat.le_of_ble_eq_true rfl) (q_gf_of (wh_o hW) rfl)) ?_
      refine xv (x_iload_n 74 d_X6_isRankedBefore_73 rfl rfl) ?_
      refine xv (x_aaload 75 d_X6_isRankedBefore_74 rfl (wh_os hW (by omega) (by omega))) ?_
      refine xv (x_inv1 78 (as := []) d_X6_isRankedBefore_75 rfl c_6_146 rfl (Nat.le_of_ble_eq_true rfl) (Nat.le_of_ble_eq_true rfl) (wh_ob hW (by omega) (by omega)).1 (Nat.le_of_ble_eq_true rfl) (Nat.le_of_ble_eq_true rfl) rfl (S_X3_linesLeft (wh_ob (o := x) hW (by omega) (by omega)) (go x (by omega) (by omega)))) ?_
      have q75 := (go x (by omega) (by omega))
      show Xv E q_m_X6_isRankedBefore 78 [Value.ref w, Value.int (zi x), Value.int (zi y)] [Value.int (zi (ob l x 1 - ob l x 2))] h Q
      refine xv (x_aload_n 79 d_X6_isRankedBefore_78 rfl rfl) ?_
      refine xv (x_getfield 82 d_X6_isRankedBefore_79 rfl f_6_35 (Nat.le_of_ble_eq_true rfl) (Nat.le_of_ble_eq_true rfl) (q_gf_of (wh_o hW) rfl)) ?_
      refine xv (x_iload_n 83 d_X6_isRankedBefore_82 rfl rfl) ?_
      refine xv (x_aaload 84 d_X6_isRankedBefore_83 rfl (wh_os hW (by omega) (by omega))) ?_
      refine xv (x_inv1 87 (as := []) d_X6_isRankedBefore_84 rfl c_6_146 rfl (Nat.le_of_ble_eq_true rfl) (Nat.le_of_ble_eq_true rfl) (wh_ob hW (by omega) (by omega)).1 (Nat.le_of_ble_eq_true rfl) (Nat.le_of_ble_eq_true rfl) rfl (S_X3_linesLeft (wh_ob (o := y) hW (by omega) (by omega)) (go y (by omega) (by omega)))) ?_
      have q84 := (go y (by omega) (by omega))
      show Xv E q_m_X6_isRankedBefore 87 [Value.ref w, Value.int (zi x), Value.int (zi y)] [Value.int (zi (ob l y 1 - ob l y 2)), Value.int (zi (ob l x 1 - ob l x 2))] h Q
      refine v_icmp_le 94 90 d_X6_isRankedBefore_87 rfl rfl (by omega) (by omega) (by omega) (by omega) (fun k87 => ?_) (fun k87 => ?_)
      · refine xv (x_iconst 95 d_X6_isRankedBefore_94 rfl) ?_
        refine xv_r (x_ireturn d_X6_isRankedBefore_95 rfl rfl) ?_
        refine lq hQ ?_
        exact (bI_f (by omega)).symm
      · refine xv (x_iconst 91 d_X6_isRankedBefore_90 rfl) ?_
        refine xv (x_goto 95 d_X6_isRankedBefore_91 rfl) ?_
        refine xv_r (x_ireturn d_X6_isRankedBefore_95 rfl rfl) ?_
        refine lq hQ ?_
        exact (bI_t (by omega)).symm
  · refine xv (x_aload_n 22 d_X6_isRankedBefore_21 rfl rfl) ?_
    refine xv (x_getfield 25 d_X6_isRankedBefore_22 rfl f_6_35 (Nat.le_of_ble_eq_true rfl) (Nat.le_of_ble_eq_true rfl) (q_gf_of (wh_o hW) rfl)) ?_
    refine xv (x_iload_n 26 d_X6_isRankedBefore_25 rfl rfl) ?_
    refine xv (x_aaload 27 d_X6_isRankedBefore_26 rfl (wh_os hW (by omega) (by omega))) ?_
    refine xv (x_getfield 30 d_X6_isRankedBefore_27 rfl f_6_143 (Nat.le_of_ble_eq_true rfl) (Nat.le_of_ble_eq_true rfl) (q_gf_of (wh_ob hW (by omega) (by omega)).1 rfl)) ?_
    have q27 := go x (by omega) (by omega)
    refine xv (x_aload_n 31 d_X6_isRankedBefore_30 rfl rfl) ?_
    refine xv (x_getfield 34 d_X6_isRankedBefore_31 rfl f_6_35 (Nat.le_of_ble_eq_true rfl) (Nat.le_of_ble_eq_true rfl) (q_gf_of (wh_o hW) rfl)) ?_
    refine xv (x_iload_n 35 d_X6_isRankedBefore_34 rfl rfl) ?_
    refine xv (x_aaload 36 d_X6_isRankedBefore_35 rfl (wh_os hW (by omega) (by omega))) ?_
    refine xv (x_getfield 39 d_X6_isRankedBefore_36 rfl f_6_143 (Nat.le_of_ble_eq_true rfl) (Nat.le_of_ble_eq_true rfl) (q_gf_of (wh_ob hW (by omega) (by omega)).1 rfl)) ?_
    have q36 := go y (by omega) (by omega)
    refine v_icmp_ge 46 42 d_X6_isRankedBefore_39 rfl rfl (by omega) (by omega) (by omega) (by omega) (fun k39 => ?_) (fun k39 => ?_)
    · refine xv (x_iconst 47 d_X6_isRankedBefore_46 rfl) ?_
      refine xv_r (x_ireturn d_X6_isRankedBefore_47 rfl rfl) ?_
      refine lq hQ ?_
      exact (bI_f (by omega)).symm
    · refine xv (x_iconst 43 d_X6_isRankedBefore_42 rfl) ?_
      refine xv (x_goto 47 d_X6_isRankedBefore_43 rfl) ?_
      refine xv_r (x_ireturn d_X6_isRankedBefore_47 rfl rfl) ?_
      refine lq hQ ?_
      exact (bI_t (by omega)).symm
theorem S_X6_waitingBefore (hW : WH h w l p) (hR : RgC l) {o : Int} (h1 : isO l o) : q_cl E q_m_X6_waitingBefore [Value.ref w, Value.int (zi o)] h = some (.inl (some (Value.int (zi (wbf l o)))), h) := by
  suffices K : ∀ Q : q_R → q_H → Prop, Q (.inl (some (Value.int (zi (wbf l o))))) h → Xv E q_m_X6_waitingBefore 0 [Value.ref w, Value.int (zi o), Value.null, Value.null] [] h Q by
    obtain ⟨r_, g_, a_, b_, c_⟩ := K (fun r_ g_ => r_ = .inl (some (Value.int (zi (wbf l o)))) ∧ g_ = h) ⟨rfl, rfl⟩
    subst b_; subst c_; exact a_
  intro Q hQ
  obtain ⟨g0, g1, g2, g3, g4, gc, g5, g6, g7, gk, gl, gr, go⟩ := id hR
  refine xv (x_iconst 1 d_X6_waitingBefore_0 rfl) ?_
  refine xv (x_istore_n 2 d_X6_waitingBefore_1 rfl (Nat.le_of_ble_eq_true rfl)) ?_
  show Xv E q_m_X6_waitingBefore 2 [Value.ref w, Value.int (zi o), Value.int (zi 0), Value.null] [] h Q
  refine xv (x_iconst 3 d_X6_waitingBefore_2 rfl) ?_
  refine xv (x_istore_n 4 d_X6_waitingBefore_3 rfl (Nat.le_of_ble_eq_true rfl)) ?_
  show Xv E q_m_X6_waitingBefore 4 [Value.ref w, Value.int (zi o), Value.int (zi 0), Value.int (zi 0)] [] h Q
  have L4 : ∀ (n : Nat) (a : Int) (k : Int), (0 ≤ k) → (k ≤ l 4) → (0 ≤ a ∧ a ≤ k) → (wbf l o = lpI (fun k a => a + bI (stc l k = 0 ∧ rkb l k o)) (l 4 - k).toNat k a) → (l 4 - k).toNat = n → Xv E q_m_X6_waitingBefore 4 [Value.ref w, Value.int (zi o), Value.int (zi a), Value.int (zi k)] [] h Q := by
    intro n
    induction n using Nat.strongRecOn with
    | _ n ih4 =>
      intro a k i0 i1 ab hv em
      refine xv (x_aload_n 5 d_X6_waitingBefore_4 rfl rfl) ?_
      refine xv (x_iload_n 6 d_X6_waitingBefore_5 rfl rfl) ?_
      refine xv (x_inv1 9 (as := [Value.int (zi k)]) d_X6_waitingBefore_6 rfl c_6_115 rfl (Nat.le_of_ble_eq_true rfl) (Nat.le_of_ble_eq_true rfl) (wh_o hW) (Nat.le_of_ble_eq_true rfl) (Nat.le_of_ble_eq_true rfl) rfl (S_X6_isOrder hW hR (by omega) (by omega))) ?_
      show Xv E q_m_X6_waitingBefore 9 [Value.ref w, Value.int (zi o), Value.int (zi a), Value.int (zi k)] [Value.int (zi (bI (isO l k)))] h Q
      refine v_if_eq 44 12 d_X6_waitingBefore_9 rfl rfl (by have := bI_r (isO l k); omega) (by have := bI_r (isO l k); omega) (fun k9 => ?_) (fun k9 => ?_)
      · replace k9 := bI_0.mp k9
        refine xv (x_iload_n 45 d_X6_waitingBefore_44 rfl rfl) ?_
        refine xv_r (x_ireturn d_X6_waitingBefore_45 rfl rfl) ?_
        refine lq hQ ?_
        exact ((lpI_e (by omega)).symm.trans hv.symm)
      · replace k9 := bI_n0.mp k9
        refine xv (x_iload_n 13 d_X6_waitingBefore_12 rfl rfl) ?_
        refine xv (x_bipush 15 d_X6_waitingBefore_13 rfl rfl) ?_
        refine v_icmp_ge 44 18 d_X6_waitingBefore_15 rfl rfl (by omega) (by omega) (by omega) (by omega) (fun k15 => ?_) (fun k15 => ?_)
        · refine xv (x_iload_n 45 d_X6_waitingBefore_44 rfl rfl) ?_
          refine xv_r (x_ireturn d_X6_waitingBefore_45 rfl rfl) ?_
          refine lq hQ ?_
          exact ((lpI_e (by omega)).symm.trans hv.symm)
        · refine xv (x_aload_n 19 d_X6_waitingBefore_18 rfl rfl) ?_
          refine xv (x_iload_n 20 d_X6_waitingBefore_19 rfl rfl) ?_
          refine xv (x_inv1 23 (as := [Value.int (zi k)]) d_X6_waitingBefore_20 rfl c_6_133 rfl (Nat.le_of_ble_eq_true rfl) (Nat.le_of_ble_eq_true rfl) (wh_o hW) (Nat.le_of_ble_eq_true rfl) (Nat.le_of_ble_eq_true rfl) rfl (S_X6_stateOf hW hR (by omega) (by omega))) ?_
          have q20 := @stc_r l k
          show Xv E q_m_X6_waitingBefore 23 [Value.ref w, Value.int (zi o), Value.int (zi a), Value.int (zi k)] [Value.int (zi (stc l k))] h Q
          refine v_if_ne 38 26 d_X6_waitingBefore_23 rfl rfl (by omega) (by omega) (fun k23 => ?_) (fun k23 => ?_)
          · refine xv (x_iinc 41 d_X6_waitingBefore_38 rfl rfl) ?_
            show Xv E q_m_X6_waitingBefore 41 [Value.ref w, Value.int (zi o), Value.int (zi a), Value.int (zi (k + 1))] [] h Q
            refine xv (x_goto 4 d_X6_waitingBefore_41 rfl) ?_
            refine ih4 _ (by omega) _ (k + 1) (by omega) (by omega) (by omega) (hv.trans ((lpI_b (by omega)).trans (congrArg (lpI _ _ _) ?_))) rfl
            show a + bI (stc l k = 0 ∧ rkb l k o) = _
            first | rw [bI_t (show stc l k = 0 ∧ rkb l k o from ⟨k23, k32⟩)] | rw [bI_f (show ¬ (stc l k = 0 ∧ rkb l k o) from (by first | exact fun x => k23 x.1 | exact fun x => k32 x.2)), Int.add_zero]
          · refine xv (x_aload_n 27 d_X6_waitingBefore_26 rfl rfl) ?_
            refine xv (x_iload_n 28 d_X6_waitingBefore_27 rfl rfl) ?_
            refine xv (x_iload_n 29 d_X6_waitingBefore_28 rfl rfl) ?_
            refine xv (x_inv1 32 (as := [Value.int (zi k), Value.int (zi o)]) d_X6_waitingBefore_29 rfl c_6_139 rfl (Nat.le_of_ble_eq_true rfl) (Nat.le_of_ble_eq_true rfl) (wh_o hW) (Nat.le_of_ble_eq_true rfl) (Nat.le_of_ble_eq_true rfl) rfl (S_X6_isRankedBefore hW hR (by omega) (by omega))) ?_
            show Xv E q_m_X6_waitingBefore 32 [Value.ref w, Value.int (zi o), Value.int (zi a), Value.int (zi k)] [Value.int (zi (bI (rkb l k o)))] h Q
            refine v_if_eq 38 35 d_X6_waitingBefore_32 rfl rfl (by have := bI_r (rkb l k o); omega) (by have := bI_r (rkb l k o); omega) (fun k32 => ?_) (fun k32 => ?_)
            · replace k32 := bI_0.mp k32
              refine xv (x_iinc 41 d_X6_waitingBefore_38 rfl rfl) ?_
              show Xv E q_m_X6_waitingBefore 41 [Value.ref w, Value.int (zi o), Value.int (zi a), Value.int (zi (k + 1))] [] h Q
              refine xv (x_goto 4 d_X6_waitingBefore_41 rfl) ?_
              refine ih4 _ (by omega) _ (k + 1) (by omega) (by omega) (by omega) (hv.trans ((lpI_b (by omega)).trans (congrArg (lpI _ _ _) ?_))) rfl
              show a + bI (stc l k = 0 ∧ rkb l k o) = _
              first | rw [bI_t (show stc l k = 0 ∧ rkb l k o from ⟨k23, k32⟩)] | rw [bI_f (show ¬ (stc l k = 0 ∧ rkb l k o) from (by first | exact fun x => k23 x.1 | exact fun x => k32 x.2)), Int.add_zero]
            · replace k32 := bI_n0.mp k32
              refine xv (x_iinc 38 d_X6_waitingBefore_35 rfl rfl) ?_
              show Xv E q_m_X6_waitingBefore 38 [Value.ref w, Value.int (zi o), Value.int (zi (a + 1)), Value.int (zi k)] [] h Q
              refine xv (x_iinc 41 d_X6_waitingBefore_38 rfl rfl) ?_
              show Xv E q_m_X6_waitingBefore 41 [Value.ref w, Value.int (zi o), Value.int (zi (a + 1)), Value.int (zi (k + 1))] [] h Q
              refine xv (x_goto 4 d_X6_waitingBefore_41 rfl) ?_
              refine ih4 _ (by omega) _ (k + 1) (by omega) (by omega) (by omega) (hv.trans ((lpI_b (by omega)).trans (congrArg (lpI _ _ _) ?_))) rfl
              show a + bI (stc l k = 0 ∧ rkb l k o) = _
              first | rw [bI_t (show stc l k = 0 ∧ rkb l k o from ⟨k23, k32⟩)] | rw [bI_f (show ¬ (stc l k = 0 ∧ rkb l k o) from (by first | exact fun x => k23 x.1 | exact fun x => k32 x.2)), Int.add_zero]
  exact L4 _ 0 0 (by omega) (by omega) (by omega) (by rw [Int.sub_zero]; rfl) rfl
theorem lpb_r {P : Int → Prop} : ∀ {n : Nat} {k a : Int}, a ≤ lpI (fun k a => a + bI (P k)) n k a ∧ lpI (fun k a => a + bI (P k)) n k a ≤ a + n
  | 0, k, a => ⟨Int.le_refl _, by show a ≤ a + 0; omega⟩
  | n + 1, k, a => by
    have h := @lpb_r P n (k + 1) (a + bI (P k))
    have := bI_r (P k)
    show _ ≤ lpI _ n (k + 1) (a + bI (P k)) ∧ lpI _ n (k + 1) (a + bI (P k)) ≤ _
    omega
theorem S_X6_waitingOrder (hW : WH h w l p) (hR : RgC l) {i : Int} (i0 : -2147483648 ≤ i) (i1 : i < 2147483648) : q_cl E q_m_X6_waitingOrder [Value.ref w, Value.int (zi i)] h = some (.inl (some (Value.int (zi (wor l i)))), h) := by
  suffices K : ∀ Q : q_R → q_H → Prop, Q (.inl (some (Value.int (zi (wor l i))))) h → Xv E q_m_X6_waitingOrder 0 [Value.ref w, Value.int (zi i), Value.null] [] h Q by
    obtain ⟨r_, g_, a_, b_, c_⟩ := K (fun r_ g_ => r_ = .inl (some (Value.int (zi (wor l i)))) ∧ g_ = h) ⟨rfl, rfl⟩
    subst b_; subst c_; exact a_
  intro Q hQ
  obtain ⟨g0, g1, g2, g3, g4, gc, g5, g6, g7, gk, gl, gr, go⟩ := id hR
  refine xv (x_iconst 1 d_X6_waitingOrder_0 rfl) ?_
  refine xv (x_istore_n 2 d_X6_waitingOrder_1 rfl (Nat.le_of_ble_eq_true rfl)) ?_
  show Xv E q_m_X6_waitingOrder 2 [Value.ref w, Value.int (zi i), Value.int (zi 0)] [] h Q
  have L2 : ∀ (n : Nat) (o : Int), (0 ≤ o) → (o ≤ l 4) → (wor l i = fnd (fun o => stc l o = 0 ∧ wbf l o = i) (l 4 - o).toNat o) → (l 4 - o).toNat = n → Xv E q_m_X6_waitingOrder 2 [Value.ref w, Value.int (zi i), Value.int (zi o)] [] h Q := by
    intro n
    induction n using Nat.strongRecOn with
    | _ n ih2 =>
      intro o i0 i1 hv em
      refine xv (x_aload_n 3 d_X6_waitingOrder_2 rfl rfl) ?_
      refine xv (x_iload_n 4 d_X6_waitingOrder_3 rfl rfl) ?_
      refine xv (x_inv1 7 (as := [Value.int (zi o)]) d_X6_waitingOrder_4 rfl c_6_115 rfl (Nat.le_of_ble_eq_true rfl) (Nat.le_of_ble_eq_true rfl) (wh_o hW) (Nat.le_of_ble_eq_true rfl) (Nat.le_of_ble_eq_true rfl) rfl (S_X6_isOrder hW hR (by omega) (by omega))) ?_
      show Xv E q_m_X6_waitingOrder 7 [Value.ref w, Value.int (zi i), Value.int (zi o)] [Value.int (zi (bI (isO l o)))] h Q
      refine v_if_eq 41 10 d_X6_waitingOrder_7 rfl rfl (by have := bI_r (isO l o); omega) (by have := bI_r (isO l o); omega) (fun k7 => ?_) (fun k7 => ?_)
      · replace k7 := bI_0.mp k7
        refine xv (x_iconst 42 d_X6_waitingOrder_41 rfl) ?_
        refine xv_r (x_ireturn d_X6_waitingOrder_42 rfl rfl) ?_
        refine lq hQ ?_
        exact ((fnd_e (by omega)).symm.trans hv.symm)
      · replace k7 := bI_n0.mp k7
        refine xv (x_iload_n 11 d_X6_waitingOrder_10 rfl rfl) ?_
        refine xv (x_bipush 13 d_X6_waitingOrder_11 rfl rfl) ?_
        refine v_icmp_ge 41 16 d_X6_waitingOrder_13 rfl rfl (by omega) (by omega) (by omega) (by omega) (fun k13 => ?_) (fun k13 => ?_)
        · refine xv (x_iconst 42 d_X6_waitingOrder_41 rfl) ?_
          refine xv_r (x_ireturn d_X6_waitingOrder_42 rfl rfl) ?_
          refine lq hQ ?_
          exact ((fnd_e (by omega)).symm.trans hv.symm)
        · refine xv (x_aload_n 17 d_X6_waitingOrder_16 rfl rfl) ?_
          refine xv (x_iload_n 18 d_X6_waitingOrder_17 rfl rfl) ?_
          refine xv (x_inv1 21 (as := [Value.int (zi o)]) d_X6_waitingOrder_18 rfl c_6_133 rfl (Nat.le_of_ble_eq_true rfl) (Nat.le_of_ble_eq_true rfl) (wh_o hW) (Nat.le_of_ble_eq_true rfl) (Nat.le_of_ble_eq_true rfl) rfl (S_X6_stateOf hW hR (by omega) (by omega))) ?_
          have q18 := @stc_r l o
          show Xv E q_m_X6_waitingOrder 21 [Value.ref w, Value.int (zi i), Value.int (zi o)] [Value.int (zi (stc l o))] h Q
          refine v_if_ne 35 24 d_X6_waitingOrder_21 rfl rfl (by omega) (by omega) (fun k21 => ?_) (fun k21 => ?_)
          · refine xv (x_iinc 38 d_X6_waitingOrder_35 rfl rfl) ?_
            show Xv E q_m_X6_waitingOrder 38 [Value.ref w, Value.int (zi i), Value.int (zi (o + 1))] [] h Q
            refine xv (x_goto 2 d_X6_waitingOrder_38 rfl) ?_
            refine ih2 _ (by omega) (o + 1) (by omega) (by omega) (hv.trans (fnd_b (P := fun o => stc l o = 0 ∧ wbf l o = i) (by omega) ?_)) rfl
            first | exact fun x => k21 x.1 | exact fun x => k30 x.2
          · refine xv (x_aload_n 25 d_X6_waitingOrder_24 rfl rfl) ?_
            refine xv (x_iload_n 26 d_X6_waitingOrder_25 rfl rfl) ?_
            refine xv (x_inv1 29 (as := [Value.int (zi o)]) d_X6_waitingOrder_26 rfl c_6_136 rfl (Nat.le_of_ble_eq_true rfl) (Nat.le_of_ble_eq_true rfl) (wh_o hW) (Nat.le_of_ble_eq_true rfl) (Nat.le_of_ble_eq_true rfl) rfl (S_X6_waitingBefore hW hR (by omega))) ?_
            have q26 : 0 ≤ wbf l o ∧ wbf l o ≤ 0 + ((l 4).toNat : Nat) := lpb_r
            show Xv E q_m_X6_waitingOrder 29 [Value.ref w, Value.int (zi i), Value.int (zi o)] [Value.int (zi (wbf l o))] h Q
            refine xv (x_iload_n 30 d_X6_waitingOrder_29 rfl rfl) ?_
            refine v_icmp_ne 35 33 d_X6_waitingOrder_30 rfl rfl (by omega) (by omega) (by omega) (by omega) (fun k30 => ?_) (fun k30 => ?_)
            · refine xv (x_iinc 38 d_X6_waitingOrder_35 rfl rfl) ?_
              show Xv E q_m_X6_waitingOrder 38 [Value.ref w, Value.int (zi i), Value.int (zi (o + 1))] [] h Q
              refine xv (x_goto 2 d_X6_waitingOrder_38 rfl) ?_
              refine ih2 _ (by omega) (o + 1) (by omega) (by omega) (hv.trans (fnd_b (P := fun o => stc l o = 0 ∧ wbf l o = i) (by omega) ?_)) rfl
              first | exact fun x => k21 x.1 | exact fun x => k30 x.2
            · refine xv (x_iload_n 34 d_X6_waitingOrder_33 rfl rfl) ?_
              refine xv_r (x_ireturn d_X6_waitingOrder_34 rfl rfl) ?_
              refine lq hQ ?_
              exact (hv.trans (fnd_h (P := fun o => stc l o = 0 ∧ wbf l o = i) (by omega) ⟨k21, k30⟩)).symm
  exact L2 _ 0 (by omega) (by omega) (by rw [Int.sub_zero]; rfl) rfl
theorem wor_r {s : Int → Int} {i : Int} : wor s i = -1 ∨ (0 ≤ wor s i ∧ wor s i < 0 + ((s 4).toNat : Nat)) := fnd_r
theorem S_X6_isLoaded (hW : WH h w l p) (hR : RgC l) {r : Int} (h1 : isR l r) : q_cl E q_m_X6_isLoaded [Value.ref w, Value.int (zi r)] h = some (.inl (some (Value.int (zi (bI (isO l (rb l r 2) ∧ 0 < ob l (rb l r 2) 2))))), h) := by
  suffices K : ∀ Q : q_R → q_H → Prop, Q (.inl (some (Value.int (zi (bI (isO l (rb l r 2) ∧ 0 < ob l (rb l r 2) 2)))))) h → Xv E q_m_X6_isLoaded 0 [Value.ref w, Value.int (zi r), Value.null] [] h Q by
    obtain ⟨r_, g_, a_, b_, c_⟩ := K (fun r_ g_ => r_ = .inl (some (Value.int (zi (bI (isO l (rb l r 2) ∧ 0 < ob l (rb l r 2) 2))))) ∧ g_ = h) ⟨rfl, rfl⟩
    subst b_; subst c_; exact a_
  intro Q hQ
  obtain ⟨g0, g1, g2, g3, g4, gc, g5, g6, g7, gk, gl, gr, go⟩ := id hR
  refine xv (x_aload_n 1 d_X6_isLoaded_0 rfl rfl) ?_
  refine xv (x_getfield 4 d_X6_isLoaded_1 rfl f_6_28 (Nat.le_of_ble_eq_true rfl) (Nat.le_of_ble_eq_true rfl) (q_gf_of (wh_o hW) rfl)) ?_
  refine xv (x_iload_n 5 d_X6_isLoaded_4 rfl rfl) ?_
  refine xv (x_aaload 6 d_X6_isLoaded_5 rfl (wh_rs hW (by omega) (by omega))) ?_
  refine xv (x_getfield 9 d_X6_isLoaded_6 rfl f_6_112 (Nat.le_of_ble_eq_true rfl) (Nat.le_of_ble_eq_true rfl) (q_gf_of (wh_r hW (by omega) (by omega)).1 rfl)) ?_
  have q6 := gr r (by omega) (by omega)
  refine xv (x_istore_n 10 d_X6_isLoaded_9 rfl (Nat.le_of_ble_eq_true rfl)) ?_
  show Xv E q_m_X6_isLoaded 10 [Value.ref w, Value.int (zi r), Value.int (zi (rb l r 2))] [] h Q
  refine xv (x_aload_n 11 d_X6_isLoaded_10 rfl rfl) ?_
  refine xv (x_iload_n 12 d_X6_isLoaded_11 rfl rfl) ?_
  refine xv (x_inv1 15 (as := [Value.int (zi (rb l r 2))]) d_X6_isLoaded_12 rfl c_6_115 rfl (Nat.le_of_ble_eq_true rfl) (Nat.le_of_ble_eq_true rfl) (wh_o hW) (Nat.le_of_ble_eq_true rfl) (Nat.le_of_ble_eq_true rfl) rfl (S_X6_isOrder hW hR (by omega) (by omega))) ?_
  show Xv E q_m_X6_isLoaded 15 [Value.ref w, Value.int (zi r), Value.int (zi (rb l r 2))] [Value.int (zi (bI (isO l (rb l r 2))))] h Q
  refine v_if_eq 34 18 d_X6_isLoaded_15 rfl rfl (by have := bI_r (isO l (rb l r 2)); omega) (by have := bI_r (isO l (rb l r 2)); omega) (fun k15 => ?_) (fun k15 => ?_)
  · replace k15 := bI_0.mp k15
    refine xv (x_iconst 35 d_X6_isLoaded_34 rfl) ?_
    refine xv_r (x_ireturn d_X6_isLoaded_35 rfl rfl) ?_
    refine lq hQ ?_
    exact (bI_f (by omega)).symm
  · replace k15 := bI_n0.mp k15
    refine xv (x_aload_n 19 d_X6_isLoaded_18 rfl rfl) ?_
    refine xv (x_getfield 22 d_X6_isLoaded_19 rfl f_6_35 (Nat.le_of_ble_eq_true rfl) (Nat.le_of_ble_eq_true rfl) (q_gf_of (wh_o hW) rfl)) ?_
    refine xv (x_iload_n 23 d_X6_isLoaded_22 rfl rfl) ?_
    refine xv (x_aaload 24 d_X6_isLoaded_23 rfl (wh_os hW (by omega) (by omega))) ?_
    refine xv (x_getfield 27 d_X6_isLoaded_24 rfl f_6_118 (Nat.le_of_ble_eq_true rfl) (Nat.le_of_ble_eq_true rfl) (q_gf_of (wh_ob hW (by omega) (by omega)).1 rfl)) ?_
    have q24 := go (rb l r 2) (by omega) (by omega)
    refine v_if_le 34 30 d_X6_isLoaded_27 rfl rfl (by omega) (by omega) (fun k27 => ?_) (fun k27 => ?_)
    · refine xv (x_iconst 35 d_X6_isLoaded_34 rfl) ?_
      refine xv_r (x_ireturn d_X6_isLoaded_35 rfl rfl) ?_
      refine lq hQ ?_
      exact (bI_f (by omega)).symm
    · refine xv (x_iconst 31 d_X6_isLoaded_30 rfl) ?_
      refine xv (x_goto 35 d_X6_isLoaded_31 rfl) ?_
      refine xv_r (x_ireturn d_X6_isLoaded_35 rfl rfl) ?_
      refine lq hQ ?_
      exact (bI_t (by omega)).symm
theorem S_X6_stepCost (hW : WH h w l p) (hR : RgC l) {r : Int} (h1 : isR l r) : q_cl E q_m_X6_stepCost [Value.ref w, Value.int (zi r)] h = some (.inl (some (Value.int (zi (if isO l (rb l r 2) ∧ 0 < ob l (rb l r 2) 2 then l 6 else 1)))), h) := by
  suffices K : ∀ Q : q_R → q_H → Prop, Q (.inl (some (Value.int (zi (if isO l (rb l r 2) ∧ 0 < ob l (rb l r 2) 2 then l 6 else 1))))) h → Xv E q_m_X6_stepCost 0 [Value.ref w, Value.int (zi r)] [] h Q by
    obtain ⟨r_, g_, a_, b_, c_⟩ := K (fun r_ g_ => r_ = .inl (some (Value.int (zi (if isO l (rb l r 2) ∧ 0 < ob l (rb l r 2) 2 then l 6 else 1)))) ∧ g_ = h) ⟨rfl, rfl⟩
    subst b_; subst c_; exact a_
  intro Q hQ
  obtain ⟨g0, g1, g2, g3, g4, gc, g5, g6, g7, gk, gl, gr, go⟩ := id hR
  refine xv (x_aload_n 1 d_X6_stepCost_0 rfl rfl) ?_
  refine xv (x_iload_n 2 d_X6_stepCost_1 rfl rfl) ?_
  refine xv (x_inv1 5 (as := [Value.int (zi r)]) d_X6_stepCost_2 rfl c_6_149 rfl (Nat.le_of_ble_eq_true rfl) (Nat.le_of_ble_eq_true rfl) (wh_o hW) (Nat.le_of_ble_eq_true rfl) (Nat.le_of_ble_eq_true rfl) rfl (S_X6_isLoaded hW hR (by omega))) ?_
  show Xv E q_m_X6_stepCost 5 [Value.ref w, Value.int (zi r)] [Value.int (zi (bI (isO l (rb l r 2) ∧ 0 < ob l (rb l r 2) 2)))] h Q
  refine v_if_eq 17 8 d_X6_stepCost_5 rfl rfl (by have := bI_r (isO l (rb l r 2) ∧ 0 < ob l (rb l r 2) 2); omega) (by have := bI_r (isO l (rb l r 2) ∧ 0 < ob l (rb l r 2) 2); omega) (fun k5 => ?_) (fun k5 => ?_)
  · replace k5 := bI_0.mp k5
    refine xv (x_iconst 18 d_X6_stepCost_17 rfl) ?_
    refine xv_r (x_ireturn d_X6_stepCost_18 rfl rfl) ?_
    refine lq hQ ?_
    first | exact (if_pos k5).symm | exact (if_neg k5).symm
  · replace k5 := bI_n0.mp k5
    refine xv (x_aload_n 9 d_X6_stepCost_8 rfl rfl) ?_
    refine xv (x_getfield 12 d_X6_stepCost_9 rfl f_6_40 (Nat.le_of_ble_eq_true rfl) (Nat.le_of_ble_eq_true rfl) (q_gf_of (wh_o hW) rfl)) ?_
    refine xv (x_iconst 13 d_X6_stepCost_12 rfl) ?_
    refine xv (x_iaload 14 d_X6_stepCost_13 rfl (ai_g (wh_s hW) (by omega) (by omega) (by decide))) ?_
    refine xv (x_goto 18 d_X6_stepCost_14 rfl) ?_
    refine xv_r (x_ireturn d_X6_stepCost_18 rfl rfl) ?_
    refine lq hQ ?_
    first | exact (if_pos k5).symm | exact (if_neg k5).symm
theorem S_X6_loadedCount (hW : WH h w l p) (hR : RgC l)  : q_cl E q_m_X6_loadedCount [Value.ref w] h = some (.inl (some (Value.int (zi (ldn l)))), h) := by
  suffices K : ∀ Q : q_R → q_H → Prop, Q (.inl (some (Value.int (zi (ldn l))))) h → Xv E q_m_X6_loadedCount 0 [Value.ref w, Value.null, Value.null] [] h Q by
    obtain ⟨r_, g_, a_, b_, c_⟩ := K (fun r_ g_ => r_ = .inl (some (Value.int (zi (ldn l)))) ∧ g_ = h) ⟨rfl, rfl⟩
    subst b_; subst c_; exact a_
  intro Q hQ
  obtain ⟨g0, g1, g2, g3, g4, gc, g5, g6, g7, gk, gl, gr, go⟩ := id hR
  refine xv (x_iconst 1 d_X6_loadedCount_0 rfl) ?_
  refine xv (x_istore_n 2 d_X6_loadedCount_1 rfl (Nat.le_of_ble_eq_true rfl)) ?_
  show Xv E q_m_X6_loadedCount 2 [Value.ref w, Value.int (zi 0), Value.null] [] h Q
  refine xv (x_iconst 3 d_X6_loadedCount_2 rfl) ?_
  refine xv (x_istore_n 4 d_X6_loadedCount_3 rfl (Nat.le_of_ble_eq_true rfl)) ?_
  show Xv E q_m_X6_loadedCount 4 [Value.ref w, Value.int (zi 0), Value.int (zi 0)] [] h Q
  have L4 : ∀ (n : Nat) (a : Int) (k : Int), (0 ≤ k) → (k ≤ l 3) → (0 ≤ a ∧ a ≤ k) → (ldn l = lpI (fun k a => a + bI (isO l (rb l k 2) ∧ 0 < ob l (rb l k 2) 2)) (l 3 - k).toNat k a) → (l 3 - k).toNat = n → Xv E q_m_X6_loadedCount 4 [Value.ref w, Value.int (zi a), Value.int (zi k)] [] h Q := by
    intro n
    induction n using Nat.strongRecOn with
    | _ n ih4 =>
      intro a k i0 i1 ab hv em
      refine xv (x_aload_n 5 d_X6_loadedCount_4 rfl rfl) ?_
      refine xv (x_iload_n 6 d_X6_loadedCount_5 rfl rfl) ?_
      refine xv (x_inv1 9 (as := [Value.int (zi k)]) d_X6_loadedCount_6 rfl c_6_106 rfl (Nat.le_of_ble_eq_true rfl) (Nat.le_of_ble_eq_true rfl) (wh_o hW) (Nat.le_of_ble_eq_true rfl) (Nat.le_of_ble_eq_true rfl) rfl (S_X6_isRobot hW hR (by omega) (by omega))) ?_
      show Xv E q_m_X6_loadedCount 9 [Value.ref w, Value.int (zi a), Value.int (zi k)] [Value.int (zi (bI (isR l k)))] h Q
      refine v_if_eq 35 12 d_X6_loadedCount_9 rfl rfl (by have := bI_r (isR l k); omega) (by have := bI_r (isR l k); omega) (fun k9 => ?_) (fun k9 => ?_)
      · replace k9 := bI_0.mp k9
        refine xv (x_iload_n 36 d_X6_loadedCount_35 rfl rfl) ?_
        refine xv_r (x_ireturn d_X6_loadedCount_36 rfl rfl) ?_
        refine lq hQ ?_
        exact ((lpI_e (by omega)).symm.trans hv.symm)
      · replace k9 := bI_n0.mp k9
        refine xv (x_iload_n 13 d_X6_loadedCount_12 rfl rfl) ?_
        refine xv (x_bipush 15 d_X6_loadedCount_13 rfl rfl) ?_
        refine v_icmp_ge 35 18 d_X6_loadedCount_15 rfl rfl (by omega) (by omega) (by omega) (by omega) (fun k15 => ?_) (fun k15 => ?_)
        · refine xv (x_iload_n 36 d_X6_loadedCount_35 rfl rfl) ?_
          refine xv_r (x_ireturn d_X6_loadedCount_36 rfl rfl) ?_
          refine lq hQ ?_
          exact ((lpI_e (by omega)).symm.trans hv.symm)
        · refine xv (x_aload_n 19 d_X6_loadedCount_18 rfl rfl) ?_
          refine xv (x_iload_n 20 d_X6_loadedCount_19 rfl rfl) ?_
          refine xv (x_inv1 23 (as := [Value.int (zi k)]) d_X6_loadedCount_20 rfl c_6_149 rfl (Nat.le_of_ble_eq_true rfl) (Nat.le_of_ble_eq_true rfl) (wh_o hW) (Nat.le_of_ble_eq_true rfl) (Nat.le_of_ble_eq_true rfl) rfl (S_X6_isLoaded hW hR (by omega))) ?_
          show Xv E q_m_X6_loadedCount 23 [Value.ref w, Value.int (zi a), Value.int (zi k)] [Value.int (zi (bI (isO l (rb l k 2) ∧ 0 < ob l (rb l k 2) 2)))] h Q
          refine v_if_eq 29 26 d_X6_loadedCount_23 rfl rfl (by have := bI_r (isO l (rb l k 2) ∧ 0 < ob l (rb l k 2) 2); omega) (by have := bI_r (isO l (rb l k 2) ∧ 0 < ob l (rb l k 2) 2); omega) (fun k23 => ?_) (fun k23 => ?_)
          · replace k23 := bI_0.mp k23
            refine xv (x_iinc 32 d_X6_loadedCount_29 rfl rfl) ?_
            show Xv E q_m_X6_loadedCount 32 [Value.ref w, Value.int (zi a), Value.int (zi (k + 1))] [] h Q
            refine xv (x_goto 4 d_X6_loadedCount_32 rfl) ?_
            refine ih4 _ (by omega) _ (k + 1) (by omega) (by omega) (by omega) (hv.trans ((lpI_b (by omega)).trans (congrArg (lpI _ _ _) ?_))) rfl
            show a + bI (isO l (rb l k 2) ∧ 0 < ob l (rb l k 2) 2) = _
            first | rw [bI_t (show isO l (rb l k 2) ∧ 0 < ob l (rb l k 2) 2 from k23)] | rw [bI_f (show ¬ (isO l (rb l k 2) ∧ 0 < ob l (rb l k 2) 2) from k23), Int.add_zero]
          · replace k23 := bI_n0.mp k23
            refine xv (x_iinc 29 d_X6_loadedCount_26 rfl rfl) ?_
            show Xv E q_m_X6_loadedCount 29 [Value.ref w, Value.int (zi (a + 1)), Value.int (zi k)] [] h Q
            refine xv (x_iinc 32 d_X6_loadedCount_29 rfl rfl) ?_
            show Xv E q_m_X6_loadedCount 32 [Value.ref w, Value.int (zi (a + 1)), Value.int (zi (k + 1))] [] h Q
            refine xv (x_goto 4 d_X6_loadedCount_32 rfl) ?_
            refine ih4 _ (by omega) _ (k + 1) (by omega) (by omega) (by omega) (hv.trans ((lpI_b (by omega)).trans (congrArg (lpI _ _ _) ?_))) rfl
            show a + bI (isO l (rb l k 2) ∧ 0 < ob l (rb l k 2) 2) = _
            first | rw [bI_t (show isO l (rb l k 2) ∧ 0 < ob l (rb l k 2) 2 from k23)] | rw [bI_f (show ¬ (isO l (rb l k 2) ∧ 0 < ob l (rb l k 2) 2) from k23), Int.add_zero]
  exact L4 _ 0 0 (by omega) (by omega) (by omega) (by rw [Int.sub_zero]; rfl) rfl
theorem S_X6_stepSum (hW : WH h w l p) (hR : RgC l)  : q_cl E q_m_X6_stepSum [Value.ref w] h = some (.inl (some (Value.int (zi (sts l 5)))), h) := by
  suffices K : ∀ Q : q_R → q_H → Prop, Q (.inl (some (Value.int (zi (sts l 5))))) h → Xv E q_m_X6_stepSum 0 [Value.ref w, Value.null, Value.null] [] h Q by
    obtain ⟨r_, g_, a_, b_, c_⟩ := K (fun r_ g_ => r_ = .inl (some (Value.int (zi (sts l 5)))) ∧ g_ = h) ⟨rfl, rfl⟩
    subst b_; subst c_; exact a_
  intro Q hQ
  obtain ⟨g0, g1, g2, g3, g4, gc, g5, g6, g7, gk, gl, gr, go⟩ := id hR
  refine xv (x_iconst 1 d_X6_stepSum_0 rfl) ?_
  refine xv (x_istore_n 2 d_X6_stepSum_1 rfl (Nat.le_of_ble_eq_true rfl)) ?_
  show Xv E q_m_X6_stepSum 2 [Value.ref w, Value.int (zi 0), Value.null] [] h Q
  refine xv (x_iconst 3 d_X6_stepSum_2 rfl) ?_
  refine xv (x_istore_n 4 d_X6_stepSum_3 rfl (Nat.le_of_ble_eq_true rfl)) ?_
  show Xv E q_m_X6_stepSum 4 [Value.ref w, Value.int (zi 0), Value.int (zi 0)] [] h Q
  have L4 : ∀ (n : Nat) (a : Int) (k : Int), (0 ≤ k) → (k ≤ l 3) → (-300000 * k ≤ a ∧ a ≤ 300000 * k) → (sts l 5 = lpI (fun k a => a + rb l k 5) (l 3 - k).toNat k a) → (l 3 - k).toNat = n → Xv E q_m_X6_stepSum 4 [Value.ref w, Value.int (zi a), Value.int (zi k)] [] h Q := by
    intro n
    induction n using Nat.strongRecOn with
    | _ n ih4 =>
      intro a k i0 i1 ab hv em
      refine xv (x_aload_n 5 d_X6_stepSum_4 rfl rfl) ?_
      refine xv (x_iload_n 6 d_X6_stepSum_5 rfl rfl) ?_
      refine xv (x_inv1 9 (as := [Value.int (zi k)]) d_X6_stepSum_6 rfl c_6_106 rfl (Nat.le_of_ble_eq_true rfl) (Nat.le_of_ble_eq_true rfl) (wh_o hW) (Nat.le_of_ble_eq_true rfl) (Nat.le_of_ble_eq_true rfl) rfl (S_X6_isRobot hW hR (by omega) (by omega))) ?_
      show Xv E q_m_X6_stepSum 9 [Value.ref w, Value.int (zi a), Value.int (zi k)] [Value.int (zi (bI (isR l k)))] h Q
      refine v_if_eq 36 12 d_X6_stepSum_9 rfl rfl (by have := bI_r (isR l k); omega) (by have := bI_r (isR l k); omega) (fun k9 => ?_) (fun k9 => ?_)
      · replace k9 := bI_0.mp k9
        refine xv (x_iload_n 37 d_X6_stepSum_36 rfl rfl) ?_
        refine xv_r (x_ireturn d_X6_stepSum_37 rfl rfl) ?_
        refine lq hQ ?_
        exact ((lpI_e (by omega)).symm.trans hv.symm)
      · replace k9 := bI_n0.mp k9
        refine xv (x_iload_n 13 d_X6_stepSum_12 rfl rfl) ?_
        refine xv (x_bipush 15 d_X6_stepSum_13 rfl rfl) ?_
        refine v_icmp_ge 36 18 d_X6_stepSum_15 rfl rfl (by omega) (by omega) (by omega) (by omega) (fun k15 => ?_) (fun k15 => ?_)
        · refine xv (x_iload_n 37 d_X6_stepSum_36 rfl rfl) ?_
          refine xv_r (x_ireturn d_X6_stepSum_37 rfl rfl) ?_
          refine lq hQ ?_
          exact ((lpI_e (by omega)).symm.trans hv.symm)
        · refine xv (x_iload_n 19 d_X6_stepSum_18 rfl rfl) ?_
          refine xv (x_aload_n 20 d_X6_stepSum_19 rfl rfl) ?_
          refine xv (x_getfield 23 d_X6_stepSum_20 rfl f_6_28 (Nat.le_of_ble_eq_true rfl) (Nat.le_of_ble_eq_true rfl) (q_gf_of (wh_o hW) rfl)) ?_
          refine xv (x_iload_n 24 d_X6_stepSum_23 rfl rfl) ?_
          refine xv (x_aaload 25 d_X6_stepSum_24 rfl (wh_rs hW (by omega) (by omega))) ?_
          refine xv (x_getfield 28 d_X6_stepSum_25 rfl f_6_152 (Nat.le_of_ble_eq_true rfl) (Nat.le_of_ble_eq_true rfl) (q_gf_of (wh_r hW (by omega) (by omega)).1 rfl)) ?_
          have q25 := gr k (by omega) (by omega)
          refine xv (x_iadd 29 d_X6_stepSum_28 rfl) ?_
          refine xv (x_istore_n 30 d_X6_stepSum_29 rfl (Nat.le_of_ble_eq_true rfl)) ?_
          show Xv E q_m_X6_stepSum 30 [Value.ref w, Value.int (zi (a + (rb l k 5))), Value.int (zi k)] [] h Q
          refine xv (x_iinc 33 d_X6_stepSum_30 rfl rfl) ?_
          show Xv E q_m_X6_stepSum 33 [Value.ref w, Value.int (zi (a + (rb l k 5))), Value.int (zi (k + 1))] [] h Q
          refine xv (x_goto 4 d_X6_stepSum_33 rfl) ?_
          refine ih4 _ (by omega) _ (k + 1) (by omega) (by omega) (by omega) (hv.trans ((lpI_b (by omega)).trans (congrArg (lpI _ _ _) ?_))) rfl
          first | rfl | omega | rw [if_pos (by omega)] | rw [if_neg (by omega), Int.add_zero]
  exact L4 _ 0 0 (by omega) (by omega) (by omega) (by rw [Int.sub_zero]; rfl) rfl
theorem S_X6_batterySum (hW : WH h w l p) (hR : RgC l)  : q_cl E q_m_X6_batterySum [Value.ref w] h = some (.inl (some (Value.int (zi (sts l 1)))), h) := by
  suffices K : ∀ Q : q_R → q_H → Prop, Q (.inl (some (Value.int (zi (sts l 1))))) h → Xv E q_m_X6_batterySum 0 [Value.ref w, Value.null, Value.null] [] h Q by
    obtain ⟨r_, g_, a_, b_, c_⟩ := K (fun r_ g_ => r_ = .inl (some (Value.int (zi (sts l 1)))) ∧ g_ = h) ⟨rfl, rfl⟩
    subst b_; subst c_; exact a_
  intro Q hQ
  obtain ⟨g0, g1, g2, g3, g4, gc, g5, g6, g7, gk, gl, gr, go⟩ := id hR
  refine xv (x_iconst 1 d_X6_batterySum_0 rfl) ?_
  refine xv (x_istore_n 2 d_X6_batterySum_1 rfl (Nat.le_of_ble_eq_true rfl)) ?_
  show Xv E q_m_X6_batterySum 2 [Value.ref w, Value.int (zi 0), Value.null] [] h Q
  refine xv (x_iconst 3 d_X6_batterySum_2 rfl) ?_
  refine xv (x_istore_n 4 d_X6_batterySum_3 rfl (Nat.le_of_ble_eq_true rfl)) ?_
  show Xv E q_m_X6_batterySum 4 [Value.ref w, Value.int (zi 0), Value.int (zi 0)] [] h Q
  have L4 : ∀ (n : Nat) (a : Int) (k : Int), (0 ≤ k) → (k ≤ l 3) → (-300000 * k ≤ a ∧ a ≤ 300000 * k) → (sts l 1 = lpI (fun k a => a + rb l k 1) (l 3 - k).toNat k a) → (l 3 - k).toNat = n → Xv E q_m_X6_batterySum 4 [Value.ref w, Value.int (zi a), Value.int (zi k)] [] h Q := by
    intro n
    induction n using Nat.strongRecOn with
    | _ n ih4 =>
      intro a k i0 i1 ab hv em
      refine xv (x_aload_n 5 d_X6_batterySum_4 rfl rfl) ?_
      refine xv (x_iload_n 6 d_X6_batterySum_5 rfl rfl) ?_
      refine xv (x_inv1 9 (as := [Value.int (zi k)]) d_X6_batterySum_6 rfl c_6_106 rfl (Nat.le_of_ble_eq_true rfl) (Nat.le_of_ble_eq_true rfl) (wh_o hW) (Nat.le_of_ble_eq_true rfl) (Nat.le_of_ble_eq_true rfl) rfl (S_X6_isRobot hW hR (by omega) (by omega))) ?_
      show Xv E q_m_X6_batterySum 9 [Value.ref w, Value.int (zi a), Value.int (zi k)] [Value.int (zi (bI (isR l k)))] h Q
      refine v_if_eq 36 12 d_X6_batterySum_9 rfl rfl (by have := bI_r (isR l k); omega) (by have := bI_r (isR l k); omega) (fun k9 => ?_) (fun k9 => ?_)
      · replace k9 := bI_0.mp k9
        refine xv (x_iload_n 37 d_X6_batterySum_36 rfl rfl) ?_
        refine xv_r (x_ireturn d_X6_batterySum_37 rfl rfl) ?_
        refine lq hQ ?_
        exact ((lpI_e (by omega)).symm.trans hv.symm)
      · replace k9 := bI_n0.mp k9
        refine xv (x_iload_n 13 d_X6_batterySum_12 rfl rfl) ?_
        refine xv (x_bipush 15 d_X6_batterySum_13 rfl rfl) ?_
        refine v_icmp_ge 36 18 d_X6_batterySum_15 rfl rfl (by omega) (by omega) (by omega) (by omega) (fun k15 => ?_) (fun k15 => ?_)
        · refine xv (x_iload_n 37 d_X6_batterySum_36 rfl rfl) ?_
          refine xv_r (x_ireturn d_X6_batterySum_37 rfl rfl) ?_
          refine lq hQ ?_
          exact ((lpI_e (by omega)).symm.trans hv.symm)
        · refine xv (x_iload_n 19 d_X6_batterySum_18 rfl rfl) ?_
          refine xv (x_aload_n 20 d_X6_batterySum_19 rfl rfl) ?_
          refine xv (x_getfield 23 d_X6_batterySum_20 rfl f_6_28 (Nat.le_of_ble_eq_true rfl) (Nat.le_of_ble_eq_true rfl) (q_gf_of (wh_o hW) rfl)) ?_
          refine xv (x_iload_n 24 d_X6_batterySum_23 rfl rfl) ?_
          refine xv (x_aaload 25 d_X6_batterySum_24 rfl (wh_rs hW (by omega) (by omega))) ?_
          refine xv (x_getfield 28 d_X6_batterySum_25 rfl f_6_155 (Nat.le_of_ble_eq_true rfl) (Nat.le_of_ble_eq_true rfl) (q_gf_of (wh_r hW (by omega) (by omega)).1 rfl)) ?_
          have q25 := gr k (by omega) (by omega)
          refine xv (x_iadd 29 d_X6_batterySum_28 rfl) ?_
          refine xv (x_istore_n 30 d_X6_batterySum_29 rfl (Nat.le_of_ble_eq_true rfl)) ?_
          show Xv E q_m_X6_batterySum 30 [Value.ref w, Value.int (zi (a + (rb l k 1))), Value.int (zi k)] [] h Q
          refine xv (x_iinc 33 d_X6_batterySum_30 rfl rfl) ?_
          show Xv E q_m_X6_batterySum 33 [Value.ref w, Value.int (zi (a + (rb l k 1))), Value.int (zi (k + 1))] [] h Q
          refine xv (x_goto 4 d_X6_batterySum_33 rfl) ?_
          refine ih4 _ (by omega) _ (k + 1) (by omega) (by omega) (by omega) (hv.trans ((lpI_b (by omega)).trans (congrArg (lpI _ _ _) ?_))) rfl
          first | rfl | omega | rw [if_pos (by omega)] | rw [if_neg (by omega), Int.add_zero]
  exact L4 _ 0 0 (by omega) (by omega) (by omega) (by rw [Int.sub_zero]; rfl) rfl
theorem S_X6_pickedSum (hW : WH h w l p) (hR : RgC l)  : q_cl E q_m_X6_pickedSum [Value.ref w] h = some (.inl (some (Value.int (zi (pks l)))), h) := by
  suffices K : ∀ Q : q_R → q_H → Prop, Q (.inl (some (Value.int (zi (pks l))))) h → Xv E q_m_X6_pickedSum 0 [Value.ref w, Value.null, Value.null] [] h Q by
    obtain ⟨r_, g_, a_, b_, c_⟩ := K (fun r_ g_ => r_ = .inl (some (Value.int (zi (pks l)))) ∧ g_ = h) ⟨rfl, rfl⟩
    subst b_; subst c_; exact a_
  intro Q hQ
  obtain ⟨g0, g1, g2, g3, g4, gc, g5, g6, g7, gk, gl, gr, go⟩ := id hR
  refine xv (x_iconst 1 d_X6_pickedSum_0 rfl) ?_
  refine xv (x_istore_n 2 d_X6_pickedSum_1 rfl (Nat.le_of_ble_eq_true rfl)) ?_
  show Xv E q_m_X6_pickedSum 2 [Value.ref w, Value.int (zi 0), Value.null] [] h Q
  refine xv (x_iconst 3 d_X6_pickedSum_2 rfl) ?_
  refine xv (x_istore_n 4 d_X6_pickedSum_3 rfl (Nat.le_of_ble_eq_true rfl)) ?_
  show Xv E q_m_X6_pickedSum 4 [Value.ref w, Value.int (zi 0), Value.int (zi 0)] [] h Q
  have L4 : ∀ (n : Nat) (a : Int) (k : Int), (0 ≤ k) → (k ≤ l 4) → (-300000 * k ≤ a ∧ a ≤ 300000 * k) → (pks l = lpI (fun k a => a + ob l k 2) (l 4 - k).toNat k a) → (l 4 - k).toNat = n → Xv E q_m_X6_pickedSum 4 [Value.ref w, Value.int (zi a), Value.int (zi k)] [] h Q := by
    intro n
    induction n using Nat.strongRecOn with
    | _ n ih4 =>
      intro a k i0 i1 ab hv em
      refine xv (x_aload_n 5 d_X6_pickedSum_4 rfl rfl) ?_
      refine xv (x_iload_n 6 d_X6_pickedSum_5 rfl rfl) ?_
      refine xv (x_inv1 9 (as := [Value.int (zi k)]) d_X6_pickedSum_6 rfl c_6_115 rfl (Nat.le_of_ble_eq_true rfl) (Nat.le_of_ble_eq_true rfl) (wh_o hW) (Nat.le_of_ble_eq_true rfl) (Nat.le_of_ble_eq_true rfl) rfl (S_X6_isOrder hW hR (by omega) (by omega))) ?_
      show Xv E q_m_X6_pickedSum 9 [Value.ref w, Value.int (zi a), Value.int (zi k)] [Value.int (zi (bI (isO l k)))] h Q
      refine v_if_eq 36 12 d_X6_pickedSum_9 rfl rfl (by have := bI_r (isO l k); omega) (by have := bI_r (isO l k); omega) (fun k9 => ?_) (fun k9 => ?_)
      · replace k9 := bI_0.mp k9
        refine xv (x_iload_n 37 d_X6_pickedSum_36 rfl rfl) ?_
        refine xv_r (x_ireturn d_X6_pickedSum_37 rfl rfl) ?_
        refine lq hQ ?_
        exact ((lpI_e (by omega)).symm.trans hv.symm)
      · replace k9 := bI_n0.mp k9
        refine xv (x_iload_n 13 d_X6_pickedSum_12 rfl rfl) ?_
        refine xv (x_bipush 15 d_X6_pickedSum_13 rfl rfl) ?_
        refine v_icmp_ge 36 18 d_X6_pickedSum_15 rfl rfl (by omega) (by omega) (by omega) (by omega) (fun k15 => ?_) (fun k15 => ?_)
        · refine xv (x_iload_n 37 d_X6_pickedSum_36 rfl rfl) ?_
          refine xv_r (x_ireturn d_X6_pickedSum_37 rfl rfl) ?_
          refine lq hQ ?_
          exact ((lpI_e (by omega)).symm.trans hv.symm)
        · refine xv (x_iload_n 19 d_X6_pickedSum_18 rfl rfl) ?_
          refine xv (x_aload_n 20 d_X6_pickedSum_19 rfl rfl) ?_
          refine xv (x_getfield 23 d_X6_pickedSum_20 rfl f_6_35 (Nat.le_of_ble_eq_true rfl) (Nat.le_of_ble_eq_true rfl) (q_gf_of (wh_o hW) rfl)) ?_
          refine xv (x_iload_n 24 d_X6_pickedSum_23 rfl rfl) ?_
          refine xv (x_aaload 25 d_X6_pickedSum_24 rfl (wh_os hW (by omega) (by omega))) ?_
          refine xv (x_getfield 28 d_X6_pickedSum_25 rfl f_6_118 (Nat.le_of_ble_eq_true rfl) (Nat.le_of_ble_eq_true rfl) (q_gf_of (wh_ob hW (by omega) (by omega)).1 rfl)) ?_
          have q25 := go k (by omega) (by omega)
          refine xv (x_iadd 29 d_X6_pickedSum_28 rfl) ?_
          refine xv (x_istore_n 30 d_X6_pickedSum_29 rfl (Nat.le_of_ble_eq_true rfl)) ?_
          show Xv E q_m_X6_pickedSum 30 [Value.ref w, Value.int (zi (a + (ob l k 2))), Value.int (zi k)] [] h Q
          refine xv (x_iinc 33 d_X6_pickedSum_30 rfl rfl) ?_
          show Xv E q_m_X6_pickedSum 33 [Value.ref w, Value.int (zi (a + (ob l k 2))), Value.int (zi (k + 1))] [] h Q
          refine xv (x_goto 4 d_X6_pickedSum_33 rfl) ?_
          refine ih4 _ (by omega) _ (k + 1) (by omega) (by omega) (by omega) (hv.trans ((lpI_b (by omega)).trans (congrArg (lpI _ _ _) ?_))) rfl
          first | rfl | omega | rw [if_pos (by omega)] | rw [if_neg (by omega), Int.add_zero]
  exact L4 _ 0 0 (by omega) (by omega) (by omega) (by rw [Int.sub_zero]; rfl) rfl
theorem S_X6_latenessSum (hW : WH h w l p) (hR : RgC l)  : q_cl E q_m_X6_latenessSum [Value.ref w] h = some (.inl (some (Value.int (zi (lts l)))), h) := by
  suffices K : ∀ Q : q_R → q_H → Prop, Q (.inl (some (Value.int (zi (lts l))))) h → Xv E q_m_X6_latenessSum 0 [Value.ref w, Value.null, Value.null] [] h Q by
    obtain ⟨r_, g_, a_, b_, c_⟩ := K (fun r_ g_ => r_ = .inl (some (Value.int (zi (lts l)))) ∧ g_ = h) ⟨rfl, rfl⟩
    subst b_; subst c_; exact a_
  intro Q hQ
  obtain ⟨g0, g1, g2, g3, g4, gc, g5, g6, g7, gk, gl, gr, go⟩ := id hR
  refine xv (x_iconst 1 d_X6_latenessSum_0 rfl) ?_
  refine xv (x_istore_n 2 d_X6_latenessSum_1 rfl (Nat.le_of_ble_eq_true rfl)) ?_
  show Xv E q_m_X6_latenessSum 2 [Value.ref w, Value.int (zi 0), Value.null] [] h Q
  refine xv (x_iconst 3 d_X6_latenessSum_2 rfl) ?_
  refine xv (x_istore_n 4 d_X6_latenessSum_3 rfl (Nat.le_of_ble_eq_true rfl)) ?_
  show Xv E q_m_X6_latenessSum 4 [Value.ref w, Value.int (zi 0), Value.int (zi 0)] [] h Q
  have L4 : ∀ (n : Nat) (a : Int) (k : Int), (0 ≤ k) → (k ≤ l 4) → (-300000 * k ≤ a ∧ a ≤ 300000 * k) → (lts l = lpI (fun k a => a + (if ¬ ob l k 4 = -1 then ob l k 4 - ob l k 0 else 0)) (l 4 - k).toNat k a) → (l 4 - k).toNat = n → Xv E q_m_X6_latenessSum 4 [Value.ref w, Value.int (zi a), Value.int (zi k)] [] h Q := by
    intro n
    induction n using Nat.strongRecOn with
    | _ n ih4 =>
      intro a k i0 i1 ab hv em
      refine xv (x_aload_n 5 d_X6_latenessSum_4 rfl rfl) ?_
      refine xv (x_iload_n 6 d_X6_latenessSum_5 rfl rfl) ?_
      refine xv (x_inv1 9 (as := [Value.int (zi k)]) d_X6_latenessSum_6 rfl c_6_115 rfl (Nat.le_of_ble_eq_true rfl) (Nat.le_of_ble_eq_true rfl) (wh_o hW) (Nat.le_of_ble_eq_true rfl) (Nat.le_of_ble_eq_true rfl) rfl (S_X6_isOrder hW hR (by omega) (by omega))) ?_
      show Xv E q_m_X6_latenessSum 9 [Value.ref w, Value.int (zi a), Value.int (zi k)] [Value.int (zi (bI (isO l k)))] h Q
      refine v_if_eq 59 12 d_X6_latenessSum_9 rfl rfl (by have := bI_r (isO l k); omega) (by have := bI_r (isO l k); omega) (fun k9 => ?_) (fun k9 => ?_)
      · replace k9 := bI_0.mp k9
        refine xv (x_iload_n 60 d_X6_latenessSum_59 rfl rfl) ?_
        refine xv_r (x_ireturn d_X6_latenessSum_60 rfl rfl) ?_
        refine lq hQ ?_
        exact ((lpI_e (by omega)).symm.trans hv.symm)
      · replace k9 := bI_n0.mp k9
        refine xv (x_iload_n 13 d_X6_latenessSum_12 rfl rfl) ?_
        refine xv (x_bipush 15 d_X6_latenessSum_13 rfl rfl) ?_
        refine v_icmp_ge 59 18 d_X6_latenessSum_15 rfl rfl (by omega) (by omega) (by omega) (by omega) (fun k15 => ?_) (fun k15 => ?_)
        · refine xv (x_iload_n 60 d_X6_latenessSum_59 rfl rfl) ?_
          refine xv_r (x_ireturn d_X6_latenessSum_60 rfl rfl) ?_
          refine lq hQ ?_
          exact ((lpI_e (by omega)).symm.trans hv.symm)
        · refine xv (x_aload_n 19 d_X6_latenessSum_18 rfl rfl) ?_
          refine xv (x_getfield 22 d_X6_latenessSum_19 rfl f_6_35 (Nat.le_of_ble_eq_true rfl) (Nat.le_of_ble_eq_true rfl) (q_gf_of (wh_o hW) rfl)) ?_
          refine xv (x_iload_n 23 d_X6_latenessSum_22 rfl rfl) ?_
          refine xv (x_aaload 24 d_X6_latenessSum_23 rfl (wh_os hW (by omega) (by omega))) ?_
          refine xv (x_getfield 27 d_X6_latenessSum_24 rfl f_6_127 (Nat.le_of_ble_eq_true rfl) (Nat.le_of_ble_eq_true rfl) (q_gf_of (wh_ob hW (by omega) (by omega)).1 rfl)) ?_
          have q24 := go k (by omega) (by omega)
          refine xv (x_iconst 28 d_X6_latenessSum_27 rfl) ?_
          refine v_icmp_eq 53 31 d_X6_latenessSum_28 rfl rfl (by omega) (by omega) (by omega) (by omega) (fun k28 => ?_) (fun k28 => ?_)
          · refine xv (x_iinc 56 d_X6_latenessSum_53 rfl rfl) ?_
            show Xv E q_m_X6_latenessSum 56 [Value.ref w, Value.int (zi a), Value.int (zi (k + 1))] [] h Q
            refine xv (x_goto 4 d_X6_latenessSum_56 rfl) ?_
            refine ih4 _ (by omega) _ (k + 1) (by omega) (by omega) (by omega) (hv.trans ((lpI_b (by omega)).trans (congrArg (lpI _ _ _) ?_))) rfl
            first | rfl | omega | rw [if_pos (by omega)] | rw [if_neg (by omega), Int.add_zero]
          · refine xv (x_iload_n 32 d_X6_latenessSum_31 rfl rfl) ?_
            refine xv (x_aload_n 33 d_X6_latenessSum_32 rfl rfl) ?_
            refine xv (x_getfield 36 d_X6_latenessSum_33 rfl f_6_35 (Nat.le_of_ble_eq_true rfl) (Nat.le_of_ble_eq_true rfl) (q_gf_of (wh_o hW) rfl)) ?_
            refine xv (x_iload_n 37 d_X6_latenessSum_36 rfl rfl) ?_
            refine xv (x_aaload 38 d_X6_latenessSum_37 rfl (wh_os hW (by omega) (by omega))) ?_
            refine xv (x_getfield 41 d_X6_latenessSum_38 rfl f_6_127 (Nat.le_of_ble_eq_true rfl) (Nat.le_of_ble_eq_true rfl) (q_gf_of (wh_ob hW (by omega) (by omega)).1 rfl)) ?_
            have q38 := go k (by omega) (by omega)
            refine xv (x_aload_n 42 d_X6_latenessSum_41 rfl rfl) ?_
            refine xv (x_getfield 45 d_X6_latenessSum_42 rfl f_6_35 (Nat.le_of_ble_eq_true rfl) (Nat.le_of_ble_eq_true rfl) (q_gf_of (wh_o hW) rfl)) ?_
            refine xv (x_iload_n 46 d_X6_latenessSum_45 rfl rfl) ?_
            refine xv (x_aaload 47 d_X6_latenessSum_46 rfl (wh_os hW (by omega) (by omega))) ?_
            refine xv (x_getfield 50 d_X6_latenessSum_47 rfl f_6_143 (Nat.le_of_ble_eq_true rfl) (Nat.le_of_ble_eq_true rfl) (q_gf_of (wh_ob hW (by omega) (by omega)).1 rfl)) ?_
            have q47 := go k (by omega) (by omega)
            refine xv (x_isub 51 d_X6_latenessSum_50 rfl) ?_
            refine xv (x_iadd 52 d_X6_latenessSum_51 rfl) ?_
            refine xv (x_istore_n 53 d_X6_latenessSum_52 rfl (Nat.le_of_ble_eq_true rfl)) ?_
            show Xv E q_m_X6_latenessSum 53 [Value.ref w, Value.int (zi (a + ((ob l k 4) - (ob l k 0)))), Value.int (zi k)] [] h Q
            refine xv (x_iinc 56 d_X6_latenessSum_53 rfl rfl) ?_
            show Xv E q_m_X6_latenessSum 56 [Value.ref w, Value.int (zi (a + ((ob l k 4) - (ob l k 0)))), Value.int (zi (k + 1))] [] h Q
            refine xv (x_goto 4 d_X6_latenessSum_56 rfl) ?_
            refine ih4 _ (by omega) _ (k + 1) (by omega) (by omega) (by omega) (hv.trans ((lpI_b (by omega)).trans (congrArg (lpI _ _ _) ?_))) rfl
            first | rfl | omega | rw [if_pos (by omega)] | rw [if_neg (by omega), Int.add_zero]
  exact L4 _ 0 0 (by omega) (by omega) (by omega) (by rw [Int.sub_zero]; rfl) rfl
end CR
