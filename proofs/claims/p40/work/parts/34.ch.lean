/-! the class's text, a layout, a robot dropped, history (printed by program) -/
def q_vf (l : List Int) : Nat → Value := fun j => .int (zi (l.getD j 0))
/-- the texts' letters -/
def q_stb (i : Nat) : List Int := [[], [47], [35], [43], [64], [46], [46, 35, 43, 64], [46, 46, 35, 47, 43, 64, 46]].getD i []
/-- the texts' constants -/
def q_ES (E : q_E) (N : Nat) : Prop := ∀ i, i < 8 → ∃ sa ba j, (sa < N ∧ ba < N) ∧ E.1 (6 + 2 * i) = some (.ref sa) ∧ q_sx E sa = some j ∧ E.1 (7 + 2 * j) = some (.ref ba) ∧ E.2 ba = some (.byte, (q_stb i).length, q_vf (q_stb i))
/-- what the statics and the texts hold; all of it lies below N -/
def q_EN (E : q_E) (N : Nat) : Prop :=
  (∃ a, a < N ∧ E.1 0 = some (.ref a) ∧ E.2 a = some (.int, 3, q_vf [5, 2, 30])) ∧ (∃ a, a < N ∧ E.1 1 = some (.ref a) ∧ E.2 a = some (.int, 3, q_vf [1, 1, 1])) ∧ (∃ a, a < N ∧ E.1 2 = some (.ref a) ∧ E.2 a = some (.int, 3, q_vf [20, 3, 30])) ∧
  (∃ a, a < N ∧ E.1 3 = some (.ref a) ∧ E.2 a = some (.char, 4, q_vf [46, 35, 43, 64])) ∧ E.1 4 = some (.int 1) ∧ (∃ v, E.1 5 = some v ∧ v.category = 1) ∧
  q_ES E N
/-- nothing is known below N: what lies there is the statics' -/
def Lo (h : q_H) (N : Nat) : Prop := ∀ a, a < N → h.1 a = none
theorem lo_fr {h h' : q_H} {N b n : Nat} (H : Lo h N) (F : Fr b n h h') (k : N ≤ b) : Lo h' N := fun a ha => (F.2 a (by omega)).trans (H a ha)
def sgn (k : Int) : Int := [46, 35, 43, 64].getD k.toNat 0
/-- a sign's kind, -1: none -/
def kd (c : Int) : Int := if c = 46 then 0 else if c = 35 then 1 else if c = 43 then 2 else if c = 64 then 3 else -1
theorem kd_r {c : Int} : -1 ≤ kd c ∧ kd c ≤ 3 := by
  unfold kd
  repeat' split
  all_goals omega
theorem sgn_r {k : Int} : 0 ≤ sgn k ∧ sgn k ≤ 64 := by
  unfold sgn
  match k.toNat with
  | 0 => decide
  | 1 => decide
  | 2 => decide
  | 3 => decide
  | _ + 4 => exact (by decide : (0 : Int) ≤ 0 ∧ (0 : Int) ≤ 64)
theorem vc_n {v : Int} (h1 : 0 ≤ v) (h2 : v < 65536) : vp_nar .char (zi v) = zi v := by
  obtain ⟨q, rfl⟩ := Int.eq_ofNat_of_zero_le h1
  have e := (pk_charN (q := q) (by omega)).1
  show (match narrow .char (.int (nI q)) with | .int y => y | _ => 0) = nI q
  rw [e]
theorem kd_h {k c : Int} (h0 : 0 ≤ k) (h1 : k < 4) (e : sgn k = c) : kd c = k := by
  subst e
  rcases (by omega : k = 0 ∨ k = 1 ∨ k = 2 ∨ k = 3) with q | q | q | q <;> subst q <;> rfl
theorem kd_n {c : Int} (h : ∀ j, 0 ≤ j → j < 4 → ¬ sgn j = c) : kd c = -1 := by
  have h0 : ¬ 46 = c := h 0 (by omega) (by omega)
  have h1 : ¬ 35 = c := h 1 (by omega) (by omega)
  have h2 : ¬ 43 = c := h 2 (by omega) (by omega)
  have h3 : ¬ 64 = c := h 3 (by omega) (by omega)
  unfold kd
  rw [if_neg (by omega), if_neg (by omega), if_neg (by omega), if_neg (by omega)]
abbrev LTo (h : q_H) (t : Nat) (n R C : Int) : Prop := h.1 t = some (.inr (2, [.ref (t + 1), .int (zi n), .int (zi R), .int (zi C)]))
abbrev cer (R C x : Int) : Prop := (R = 0 ∧ 2 ≤ x) ∨ (¬ R = 0 ∧ x = C)
abbrev cgr (R C x : Int) : Prop := (R = 0 ∧ x < 8) ∨ (¬ R = 0 ∧ x < C)
/-- a layout's text looked through: fault position or -1, rows, columns -/
def fpl (c : Int → Int) (n : Int) : Nat → Int → Int → Int → Int → Int × Int × Int
  | 0, _, R, C, x => if cer R C x then (-1, R + 1, x) else (n, R, C)
  | m + 1, i, R, C, x => if c i = 47 ∧ cer R C x ∧ R + 1 < 6 then fpl c n m (i + 1) (R + 1) x 0 else if ¬ kd (c i) = -1 ∧ cgr R C x then fpl c n m (i + 1) R C (x + 1) else (i, R, C)
def rbl (c : Int → Int) : Nat → Int → Int → (Int → Int) → (Int → Int)
  | 0, _, _, l => l
  | m + 1, i, k, l => if ¬ kd (c i) = -1 ∧ k < 48 then rbl c m (i + 1) (k + 1) (u1 (u1 l (8 + k) (kd (c i))) (56 + k) 0) else rbl c m (i + 1) k l
section CH
variable {E : q_E} {h : q_H} {w v a b t N k : Nat} {l lo f g c : Int → Int} {p p2 : Int → Nat} {n R C : Int}
theorem fpl_b {n i R C x : Int} {c : Int → Int} (h : i < n) : fpl c n (n - i).toNat i R C x = if c i = 47 ∧ cer R C x ∧ R + 1 < 6 then fpl c n (n - (i + 1)).toNat (i + 1) (R + 1) x 0 else if ¬ kd (c i) = -1 ∧ cgr R C x then fpl c n (n - (i + 1)).toNat (i + 1) R C (x + 1) else (i, R, C) := by
  rw [show (n - i).toNat = (n - (i + 1)).toNat + 1 by omega]; rfl
theorem fpl_e {n i R C x : Int} {c : Int → Int} (h : n ≤ i) : fpl c n (n - i).toNat i R C x = if cer R C x then (-1, R + 1, x) else (n, R, C) := by
  rw [show (n - i).toNat = 0 by omega]; rfl
theorem rbl_b {n i k : Int} {c l : Int → Int} (h : i < n) : rbl c (n - i).toNat i k l = if ¬ kd (c i) = -1 ∧ k < 48 then rbl c (n - (i + 1)).toNat (i + 1) (k + 1) (u1 (u1 l (8 + k) (kd (c i))) (56 + k) 0) else rbl c (n - (i + 1)).toNat (i + 1) k l := by
  rw [show (n - i).toNat = (n - (i + 1)).toNat + 1 by omega]; rfl
theorem rbl_e {n i k : Int} {c l : Int → Int} (h : n ≤ i) : rbl c (n - i).toNat i k l = l := by
  rw [show (n - i).toNat = 0 by omega]; rfl
theorem S_X2_kindOf (hE : q_EN E N) (hLo : Lo h N) {c : Int} (c0 : -2147483648 ≤ c) (c1 : c < 2147483648) : q_cl E q_m_X2_kindOf [Value.int (zi c)] h = some (.inl (some (Value.int (zi (kd c)))), h) := by
  suffices K : ∀ Q : q_R → q_H → Prop, Q (.inl (some (Value.int (zi (kd c))))) h → Xv E q_m_X2_kindOf 0 [Value.int (zi c), Value.null] [] h Q by
    obtain ⟨r_, g_, a_, b_, c_⟩ := K (fun r_ g_ => r_ = .inl (some (Value.int (zi (kd c)))) ∧ g_ = h) ⟨rfl, rfl⟩
    subst b_; subst c_; exact a_
  intro Q hQ
  obtain ⟨a3, u3, s3, t3⟩ := hE.2.2.2.1
  refine xv (x_iconst 1 d_X2_kindOf_0 rfl) ?_
  refine xv (x_istore_n 2 d_X2_kindOf_1 rfl (Nat.le_of_ble_eq_true rfl)) ?_
  show Xv E q_m_X2_kindOf 2 [Value.int (zi c), Value.int (zi 0)] [] h Q
  have L2 : ∀ (n_ : Nat) (k : Int), (0 ≤ k) → (k ≤ 4) → (∀ j, 0 ≤ j → j < k → ¬ sgn j = c) → (4 - k).toNat = n_ → Xv E q_m_X2_kindOf 2 [Value.int (zi c), Value.int (zi k)] [] h Q := by
    intro n_
    induction n_ using Nat.strongRecOn with
    | _ n_ ih2 =>
      intro k k0 k1 hk em
      refine xv (x_iload_n 3 d_X2_kindOf_2 rfl rfl) ?_
      refine xv (x_getstatic 6 d_X2_kindOf_3 rfl rfl (Nat.le_of_ble_eq_true rfl) s3) ?_
      refine xv (x_arraylength 7 d_X2_kindOf_6 rfl (q_len_ro (hLo _ u3) t3)) ?_
      refine v_icmp_ge 27 10 d_X2_kindOf_7 rfl rfl (by omega) (by omega) (by omega) (by omega) (fun k7 => ?_) (fun k7 => ?_)
      · refine xv (x_iconst 28 d_X2_kindOf_27 rfl) ?_
        refine xv_r (x_ireturn d_X2_kindOf_28 rfl rfl) ?_
        refine lq hQ ?_
        exact (kd_n fun j a b => hk j a (by omega)).symm
      · refine xv (x_getstatic 13 d_X2_kindOf_10 rfl rfl (Nat.le_of_ble_eq_true rfl) s3) ?_
        refine xv (x_iload_n 14 d_X2_kindOf_13 rfl rfl) ?_
        refine xv (x_caload 15 d_X2_kindOf_14 rfl ((q_gIro (hLo _ u3) t3 (by omega) (by omega) (by decide)).trans (rfl : _ = some (Value.int (zi (sgn k)))))) ?_
        have q_k := @sgn_r k
        refine xv (x_iload_n 16 d_X2_kindOf_15 rfl rfl) ?_
        refine v_icmp_ne 21 19 d_X2_kindOf_16 rfl rfl (by omega) (by omega) (by omega) (by omega) (fun k16 => ?_) (fun k16 => ?_)
        · refine xv (x_iinc 24 d_X2_kindOf_21 rfl rfl) ?_
          show Xv E q_m_X2_kindOf 24 [Value.int (zi c), Value.int (zi (k + 1))] [] h Q
          refine xv (x_goto 2 d_X2_kindOf_24 rfl) ?_
          refine ih2 _ (by omega) (k + 1) (by omega) (by omega) (fun j a b => ?_) rfl
          rcases (by omega : j < k ∨ j = k) with z | z
          · exact hk j a z
          · rw [z]; exact k16
        · refine xv (x_iload_n 20 d_X2_kindOf_19 rfl rfl) ?_
          refine xv_r (x_ireturn d_X2_kindOf_20 rfl rfl) ?_
          refine lq hQ ?_
          exact (kd_h k0 (by omega) k16).symm
  exact L2 _ 0 (by omega) (by omega) (fun j a b => by omega) rfl
theorem S_X2_canEndRow (hT : LTo h t n R C) {x : Int} (x0 : -2147483648 ≤ x) (x1 : x < 2147483648) (hR : 0 ≤ R ∧ R ≤ 6) (hC : 0 ≤ C ∧ C ≤ 60) : q_cl E q_m_X2_canEndRow [Value.ref t, Value.int (zi x)] h = some (.inl (some (Value.int (zi (bI (cer R C x))))), h) := by
  suffices K : ∀ Q : q_R → q_H → Prop, Q (.inl (some (Value.int (zi (bI (cer R C x)))))) h → Xv E q_m_X2_canEndRow 0 [Value.ref t, Value.int (zi x)] [] h Q by
    obtain ⟨r_, g_, a_, b_, c_⟩ := K (fun r_ g_ => r_ = .inl (some (Value.int (zi (bI (cer R C x))))) ∧ g_ = h) ⟨rfl, rfl⟩
    subst b_; subst c_; exact a_
  intro Q hQ
  refine xv (x_aload_n 1 d_X2_canEndRow_0 rfl rfl) ?_
  refine xv (x_getfield 4 d_X2_canEndRow_1 rfl f_2_23 (Nat.le_of_ble_eq_true rfl) (Nat.le_of_ble_eq_true rfl) (q_gf_of hT rfl)) ?_
  refine v_if_ne 20 7 d_X2_canEndRow_4 rfl rfl (by omega) (by omega) (fun k4 => ?_) (fun k4 => ?_)
  · refine xv (x_iload_n 21 d_X2_canEndRow_20 rfl rfl) ?_
    refine xv (x_aload_n 22 d_X2_canEndRow_21 rfl rfl) ?_
    refine xv (x_getfield 25 d_X2_canEndRow_22 rfl f_2_26 (Nat.le_of_ble_eq_true rfl) (Nat.le_of_ble_eq_true rfl) (q_gf_of hT rfl)) ?_
    refine v_icmp_ne 32 28 d_X2_canEndRow_25 rfl rfl (by omega) (by omega) (by omega) (by omega) (fun k25 => ?_) (fun k25 => ?_)
    · refine xv (x_iconst 33 d_X2_canEndRow_32 rfl) ?_
      refine xv_r (x_ireturn d_X2_canEndRow_33 rfl rfl) ?_
      refine lq hQ ?_
      exact (bI_f (by omega)).symm
    · refine xv (x_iconst 29 d_X2_canEndRow_28 rfl) ?_
      refine xv (x_goto 33 d_X2_canEndRow_29 rfl) ?_
      refine xv_r (x_ireturn d_X2_canEndRow_33 rfl rfl) ?_
      refine lq hQ ?_
      exact (bI_t (by omega)).symm
  · refine xv (x_iload_n 8 d_X2_canEndRow_7 rfl rfl) ?_
    refine xv (x_iconst 9 d_X2_canEndRow_8 rfl) ?_
    refine v_icmp_lt 16 12 d_X2_canEndRow_9 rfl rfl (by omega) (by omega) (by omega) (by omega) (fun k9 => ?_) (fun k9 => ?_)
    · refine xv (x_iconst 17 d_X2_canEndRow_16 rfl) ?_
      refine xv (x_goto 33 d_X2_canEndRow_17 rfl) ?_
      refine xv_r (x_ireturn d_X2_canEndRow_33 rfl rfl) ?_
      refine lq hQ ?_
      exact (bI_f (by omega)).symm
    · refine xv (x_iconst 13 d_X2_canEndRow_12 rfl) ?_
      refine xv (x_goto 33 d_X2_canEndRow_13 rfl) ?_
      refine xv_r (x_ireturn d_X2_canEndRow_33 rfl rfl) ?_
      refine lq hQ ?_
      exact (bI_t (by omega)).symm
theorem S_X2_canGrowRow (hT : LTo h t n R C) {x : Int} (x0 : -2147483648 ≤ x) (x1 : x < 2147483648) (hR : 0 ≤ R ∧ R ≤ 6) (hC : 0 ≤ C ∧ C ≤ 60) : q_cl E q_m_X2_canGrowRow [Value.ref t, Value.int (zi x)] h = some (.inl (some (Value.int (zi (bI (cgr R C x))))), h) := by
  suffices K : ∀ Q : q_R → q_H → Prop, Q (.inl (some (Value.int (zi (bI (cgr R C x)))))) h → Xv E q_m_X2_canGrowRow 0 [Value.ref t, Value.int (zi x)] [] h Q by
    obtain ⟨r_, g_, a_, b_, c_⟩ := K (fun r_ g_ => r_ = .inl (some (Value.int (zi (bI (cgr R C x))))) ∧ g_ = h) ⟨rfl, rfl⟩
    subst b_; subst c_; exact a_
  intro Q hQ
  refine xv (x_iload_n 1 d_X2_canGrowRow_0 rfl rfl) ?_
  refine xv (x_aload_n 2 d_X2_canGrowRow_1 rfl rfl) ?_
  refine xv (x_getfield 5 d_X2_canGrowRow_2 rfl f_2_23 (Nat.le_of_ble_eq_true rfl) (Nat.le_of_ble_eq_true rfl) (q_gf_of hT rfl)) ?_
  refine v_if_ne 13 8 d_X2_canGrowRow_5 rfl rfl (by omega) (by omega) (fun k5 => ?_) (fun k5 => ?_)
  · refine xv (x_aload_n 14 d_X2_canGrowRow_13 rfl rfl) ?_
    refine xv (x_getfield 17 d_X2_canGrowRow_14 rfl f_2_26 (Nat.le_of_ble_eq_true rfl) (Nat.le_of_ble_eq_true rfl) (q_gf_of hT rfl)) ?_
    refine v_icmp_ge 24 20 d_X2_canGrowRow_17 rfl rfl (by omega) (by omega) (by omega) (by omega) (fun k17 => ?_) (fun k17 => ?_)
    · refine xv (x_iconst 25 d_X2_canGrowRow_24 rfl) ?_
      refine xv_r (x_ireturn d_X2_canGrowRow_25 rfl rfl) ?_
      refine lq hQ ?_
      exact (bI_f (by omega)).symm
    · refine xv (x_iconst 21 d_X2_canGrowRow_20 rfl) ?_
      refine xv (x_goto 25 d_X2_canGrowRow_21 rfl) ?_
      refine xv_r (x_ireturn d_X2_canGrowRow_25 rfl rfl) ?_
      refine lq hQ ?_
      exact (bI_t (by omega)).symm
  · refine xv (x_bipush 10 d_X2_canGrowRow_8 rfl rfl) ?_
    refine xv (x_goto 17 d_X2_canGrowRow_10 rfl) ?_
    refine v_icmp_ge 24 20 d_X2_canGrowRow_17 rfl rfl (by omega) (by omega) (by omega) (by omega) (fun k17 => ?_) (fun k17 => ?_)
    · refine xv (x_iconst 25 d_X2_canGrowRow_24 rfl) ?_
      refine xv_r (x_ireturn d_X2_canGrowRow_25 rfl rfl) ?_
      refine lq hQ ?_
      exact (bI_f (by omega)).symm
    · refine xv (x_iconst 21 d_X2_canGrowRow_20 rfl) ?_
      refine xv (x_goto 25 d_X2_canGrowRow_21 rfl) ?_
      refine xv_r (x_ireturn d_X2_canGrowRow_25 rfl rfl) ?_
      refine lq hQ ?_
      exact (bI_t (by omega)).symm
theorem S_X2_isFull (hT : LTo h t n R C) (hC : AI h (t + 1) 3 60 c) (hn : 0 ≤ n ∧ n ≤ 60) : q_cl E q_m_X2_isFull [Value.ref t] h = some (.inl (some (Value.int (zi (bI (60 ≤ n))))), h) := by
  suffices K : ∀ Q : q_R → q_H → Prop, Q (.inl (some (Value.int (zi (bI (60 ≤ n)))))) h → Xv E q_m_X2_isFull 0 [Value.ref t] [] h Q by
    obtain ⟨r_, g_, a_, b_, c_⟩ := K (fun r_ g_ => r_ = .inl (some (Value.int (zi (bI (60 ≤ n))))) ∧ g_ = h) ⟨rfl, rfl⟩
    subst b_; subst c_; exact a_
  intro Q hQ
  refine xv (x_aload_n 1 d_X2_isFull_0 rfl rfl) ?_
  refine xv (x_getfield 4 d_X2_isFull_1 rfl f_2_15 (Nat.le_of_ble_eq_true rfl) (Nat.le_of_ble_eq_true rfl) (q_gf_of hT rfl)) ?_
  refine xv (x_aload_n 5 d_X2_isFull_4 rfl rfl) ?_
  refine xv (x_getfield 8 d_X2_isFull_5 rfl f_2_9 (Nat.le_of_ble_eq_true rfl) (Nat.le_of_ble_eq_true rfl) (q_gf_of hT rfl)) ?_
  refine xv (x_arraylength 9 d_X2_isFull_8 rfl (ai_l hC (by decide))) ?_
  refine v_icmp_lt 16 12 d_X2_isFull_9 rfl rfl (by omega) (by omega) (by omega) (by omega) (fun k9 => ?_) (fun k9 => ?_)
  · refine xv (x_iconst 17 d_X2_isFull_16 rfl) ?_
    refine xv_r (x_ireturn d_X2_isFull_17 rfl rfl) ?_
    refine lq hQ ?_
    exact (bI_f (by omega)).symm
  · refine xv (x_iconst 13 d_X2_isFull_12 rfl) ?_
    refine xv (x_goto 17 d_X2_isFull_13 rfl) ?_
    refine xv_r (x_ireturn d_X2_isFull_17 rfl rfl) ?_
    refine lq hQ ?_
    exact (bI_t (by omega)).symm
theorem S_X2_endRow (hT : LTo h t n R C) {x : Int} : ∃ r_ h', q_cl E q_m_X2_endRow [Value.ref t, Value.int (zi x)] h = some (r_, h') ∧ (r_ = .inl none ∧ LTo h' t n (R + 1) x ∧ Fr t 1 h h') := by
  suffices K : ∀ Q : q_R → q_H → Prop, (∀ r_ h', (r_ = .inl none ∧ LTo h' t n (R + 1) x ∧ Fr t 1 h h') → Q r_ h') → Xv E q_m_X2_endRow 0 [Value.ref t, Value.int (zi x)] [] h Q from K _ fun _ _ p => p
  intro Q hQ
  refine xv (x_aload_n 1 d_X2_endRow_0 rfl rfl) ?_
  refine xv (x_iload_n 2 d_X2_endRow_1 rfl rfl) ?_
  obtain ⟨h2, e2, w2, f2⟩ := obj_pf (k := 3) (v := Value.int (zi x)) hT (Nat.le_of_ble_eq_true rfl)
  have F2 : Fr t 1 h h2 := fr_tr fr_rf (fr_in f2 (by omega) (by omega))
  replace w2 : h2.1 t = some (.inr (2, [Value.ref (t + 1), Value.int (zi n), Value.int (zi R), Value.int (zi x)])) := w2
  refine xv (x_putfield 5 d_X2_endRow_2 rfl f_2_26 (Nat.le_of_ble_eq_true rfl) e2 rfl rfl (fun e => absurd e (by decide))) ?_
  show Xv E q_m_X2_endRow 5 [Value.ref t, Value.int (zi x)] [] h2 Q
  refine xv (x_aload_n 6 d_X2_endRow_5 rfl rfl) ?_
  refine xv (x_dup 7 d_X2_endRow_6 rfl rfl) ?_
  refine xv (x_getfield 10 d_X2_endRow_7 rfl f_2_23 (Nat.le_of_ble_eq_true rfl) (Nat.le_of_ble_eq_true rfl) (q_gf_of w2 rfl)) ?_
  refine xv (x_iconst 11 d_X2_endRow_10 rfl) ?_
  refine xv (x_iadd 12 d_X2_endRow_11 rfl) ?_
  obtain ⟨h12, e12, w12, f12⟩ := obj_pf (k := 2) (v := Value.int (zi (R + 1))) w2 (Nat.le_of_ble_eq_true rfl)
  have F12 : Fr t 1 h h12 := fr_tr F2 (fr_in f12 (by omega) (by omega))
  replace w12 : h12.1 t = some (.inr (2, [Value.ref (t + 1), Value.int (zi n), Value.int (zi (R + 1)), Value.int (zi x)])) := w12
  refine xv (x_putfield 15 d_X2_endRow_12 rfl f_2_23 (Nat.le_of_ble_eq_true rfl) e12 rfl rfl (fun e => absurd e (by decide))) ?_
  show Xv E q_m_X2_endRow 15 [Value.ref t, Value.int (zi x)] [] h12 Q
  refine xv_r (x_return d_X2_endRow_15 rfl) ?_
  exact hQ _ _ ⟨rfl, w12, F12⟩
theorem S_X2_take (hT : LTo h t n R C) (hC : AI h (t + 1) 3 60 c) (hn : 0 ≤ n ∧ n < 60) {x : Int} (hx : 0 ≤ x ∧ x < 65536) : ∃ r_ h', q_cl E q_m_X2_take [Value.ref t, Value.int (zi x)] h = some (r_, h') ∧ (r_ = .inl none ∧ (LTo h' t (n + 1) R C ∧ AI h' (t + 1) 3 60 (u1 c n x)) ∧ Fr t 2 h h') := by
  suffices K : ∀ Q : q_R → q_H → Prop, (∀ r_ h', (r_ = .inl none ∧ (LTo h' t (n + 1) R C ∧ AI h' (t + 1) 3 60 (u1 c n x)) ∧ Fr t 2 h h') → Q r_ h') → Xv E q_m_X2_take 0 [Value.ref t, Value.int (zi x)] [] h Q from K _ fun _ _ p => p
  intro Q hQ
  refine xv (x_aload_n 1 d_X2_take_0 rfl rfl) ?_
  refine xv (x_inv1 4 (as := []) d_X2_take_1 rfl c_2_19 rfl (Nat.le_of_ble_eq_true rfl) (Nat.le_of_ble_eq_true rfl) hT (Nat.le_of_ble_eq_true rfl) (Nat.le_of_ble_eq_true rfl) rfl (S_X2_isFull hT hC (by omega))) ?_
  show Xv E q_m_X2_take 4 [Value.ref t, Value.int (zi x)] [Value.int (zi (bI (60 ≤ n)))] h Q
  refine v_if_ne 27 7 d_X2_take_4 rfl rfl (by have := bI_r (60 ≤ n); omega) (by have := bI_r (60 ≤ n); omega) (fun k4 => ?_) (fun k4 => ?_)
  · replace k4 := bI_n0.mp k4
    omega
  · replace k4 := bI_0.mp k4
    refine xv (x_aload_n 8 d_X2_take_7 rfl rfl) ?_
    refine xv (x_getfield 11 d_X2_take_8 rfl f_2_9 (Nat.le_of_ble_eq_true rfl) (Nat.le_of_ble_eq_true rfl) (q_gf_of hT rfl)) ?_
    refine xv (x_aload_n 12 d_X2_take_11 rfl rfl) ?_
    refine xv (x_getfield 15 d_X2_take_12 rfl f_2_15 (Nat.le_of_ble_eq_true rfl) (Nat.le_of_ble_eq_true rfl) (q_gf_of hT rfl)) ?_
    refine xv (x_iload_n 16 d_X2_take_15 rfl rfl) ?_
    obtain ⟨h16, e16, w16, f16⟩ := ai_s (z := n) (v := x) hC (by omega) (by omega) (by decide)
    have T_16 := (f16.2 _ (by omega)).trans hT
    have F16 : Fr t 2 h h16 := fr_tr fr_rf (fr_in f16 (by omega) (by omega))
    refine xv (x_castore 17 d_X2_take_16 rfl ((congrArg (q_sI _ 3 _ _) (vc_n (by omega) (by omega))).trans e16)) ?_
    show Xv E q_m_X2_take 17 [Value.ref t, Value.int (zi x)] [] h16 Q
    refine xv (x_aload_n 18 d_X2_take_17 rfl rfl) ?_
    refine xv (x_dup 19 d_X2_take_18 rfl rfl) ?_
    refine xv (x_getfield 22 d_X2_take_19 rfl f_2_15 (Nat.le_of_ble_eq_true rfl) (Nat.le_of_ble_eq_true rfl) (q_gf_of T_16 rfl)) ?_
    refine xv (x_iconst 23 d_X2_take_22 rfl) ?_
    refine xv (x_iadd 24 d_X2_take_23 rfl) ?_
    obtain ⟨h24, e24, w24, f24⟩ := obj_pf (k := 1) (v := Value.int (zi (n + 1))) T_16 (Nat.le_of_ble_eq_true rfl)
    have C_24 := ai_fr w16 f24 (by omega)
    have F24 : Fr t 2 h h24 := fr_tr F16 (fr_in f24 (by omega) (by omega))
    replace w24 : h24.1 t = some (.inr (2, [Value.ref (t + 1), Value.int (zi (n + 1)), Value.int (zi R), Value.int (zi C)])) := w24
    refine xv (x_putfield 27 d_X2_take_24 rfl f_2_15 (Nat.le_of_ble_eq_true rfl) e24 rfl rfl (fun e => absurd e (by decide))) ?_
    show Xv E q_m_X2_take 27 [Value.ref t, Value.int (zi x)] [] h24 Q
    refine xv_r (x_return d_X2_take_27 rfl) ?_
    exact hQ _ _ ⟨rfl, ⟨w24, C_24⟩, F24⟩
theorem S_X2_findFault (hE : q_EN E N) (hLo : Lo h N) (hN : N ≤ t) (hT : LTo h t n R C) (hC : AI h (t + 1) 3 60 c) (hn : 0 ≤ n ∧ n ≤ 60) (hc : ∀ i, 0 ≤ i → i < n → 0 ≤ c i ∧ c i < 65536) : ∃ r_ h', q_cl E q_m_X2_findFault [Value.ref t] h = some (r_, h') ∧ (r_ = .inl (some (.int (zi (fpl c n n.toNat 0 0 0 0).1))) ∧ LTo h' t n (fpl c n n.toNat 0 0 0 0).2.1 (fpl c n n.toNat 0 0 0 0).2.2 ∧ Fr t 1 h h') := by
  suffices K : ∀ Q : q_R → q_H → Prop, (∀ r_ h', (r_ = .inl (some (.int (zi (fpl c n n.toNat 0 0 0 0).1))) ∧ LTo h' t n (fpl c n n.toNat 0 0 0 0).2.1 (fpl c n n.toNat 0 0 0 0).2.2 ∧ Fr t 1 h h') → Q r_ h') → Xv E q_m_X2_findFault 0 [Value.ref t, Value.null, Value.null, Value.null] [] h Q from K _ fun _ _ p => p
  intro Q hQ
  refine xv (x_aload_n 1 d_X2_findFault_0 rfl rfl) ?_
  refine xv (x_iconst 2 d_X2_findFault_1 rfl) ?_
  obtain ⟨h2, e2, w2, f2⟩ := obj_pf (k := 2) (v := Value.int (zi 0)) hT (Nat.le_of_ble_eq_true rfl)
  have C_2 := ai_fr hC f2 (by omega)
  have LO_2 := lo_fr hLo f2 (by omega)
  have F2 : Fr t 1 h h2 := fr_tr fr_rf (fr_in f2 (by omega) (by omega))
  replace w2 : h2.1 t = some (.inr (2, [Value.ref (t + 1), Value.int (zi n), Value.int (zi 0), Value.int (zi C)])) := w2
  refine xv (x_putfield 5 d_X2_findFault_2 rfl f_2_23 (Nat.le_of_ble_eq_true rfl) e2 rfl rfl (fun e => absurd e (by decide))) ?_
  show Xv E q_m_X2_findFault 5 [Value.ref t, Value.null, Value.null, Value.null] [] h2 Q
  refine xv (x_aload_n 6 d_X2_findFault_5 rfl rfl) ?_
  refine xv (x_iconst 7 d_X2_findFault_6 rfl) ?_
  obtain ⟨h7, e7, w7, f7⟩ := obj_pf (k := 3) (v := Value.int (zi 0)) w2 (Nat.le_of_ble_eq_true rfl)
  have C_7 := ai_fr C_2 f7 (by omega)
  have LO_7 := lo_fr LO_2 f7 (by omega)
  have F7 : Fr t 1 h h7 := fr_tr F2 (fr_in f7 (by omega) (by omega))
  replace w7 : h7.1 t = some (.inr (2, [Value.ref (t + 1), Value.int (zi n), Value.int (zi 0), Value.int (zi 0)])) := w7
  refine xv (x_putfield 10 d_X2_findFault_7 rfl f_2_26 (Nat.le_of_ble_eq_true rfl) e7 rfl rfl (fun e => absurd e (by decide))) ?_
  show Xv E q_m_X2_findFault 10 [Value.ref t, Value.null, Value.null, Value.null] [] h7 Q
  refine xv (x_iconst 11 d_X2_findFault_10 rfl) ?_
  refine xv (x_istore_n 12 d_X2_findFault_11 rfl (Nat.le_of_ble_eq_true rfl)) ?_
  show Xv E q_m_X2_findFault 12 [Value.ref t, Value.int (zi 0), Value.null, Value.null] [] h7 Q
  refine xv (x_iconst 13 d_X2_findFault_12 rfl) ?_
  refine xv (x_istore_n 14 d_X2_findFault_13 rfl (Nat.le_of_ble_eq_true rfl)) ?_
  show Xv E q_m_X2_findFault 14 [Value.ref t, Value.int (zi 0), Value.int (zi 0), Value.null] [] h7 Q
  have L14 : ∀ (n_ : Nat) (x : Int) (i : Int) (R : Int) (C : Int) (H : q_H) (x3 : Value), (0 ≤ i) → (i ≤ n) → (0 ≤ R ∧ R ≤ 5) → (0 ≤ C ∧ C ≤ 60) → (0 ≤ x ∧ x ≤ i) → (LTo H t n R C) → (AI H (t + 1) 3 60 c) → (Lo H N) → (Fr t 1 h H) → (fpl c n n.toNat 0 0 0 0 = fpl c n (n - i).toNat i R C x) → (n - i).toNat = n_ → Xv E q_m_X2_findFault 14 [Value.ref t, Value.int (zi x), Value.int (zi i), x3] [] H Q := by
    intro n_
    induction n_ using Nat.strongRecOn with
    | _ n_ ih14 =>
      intro x i R C H x3 i0 i1 r0 c0 x0 hT2 hC2 hLo2 hF2 hv em
      refine xv (x_iload_n 15 d_X2_findFault_14 rfl rfl) ?_
      refine xv (x_aload_n 16 d_X2_findFault_15 rfl rfl) ?_
      refine xv (x_getfield 19 d_X2_findFault_16 rfl f_2_15 (Nat.le_of_ble_eq_true rfl) (Nat.le_of_ble_eq_true rfl) (q_gf_of hT2 rfl)) ?_
      refine v_icmp_ge 103 22 d_X2_findFault_19 rfl rfl (by omega) (by omega) (by omega) (by omega) (fun k19 => ?_) (fun k19 => ?_)
      · refine xv (x_aload_n 104 d_X2_findFault_103 rfl rfl) ?_
        refine xv (x_iload_n 105 d_X2_findFault_104 rfl rfl) ?_
        refine xv (x_inv1 108 (as := [Value.int (zi x)]) d_X2_findFault_105 rfl c_2_29 rfl (Nat.le_of_ble_eq_true rfl) (Nat.le_of_ble_eq_true rfl) hT2 (Nat.le_of_ble_eq_true rfl) (Nat.le_of_ble_eq_true rfl) rfl (S_X2_canEndRow hT2 (by omega) (by omega) (by omega) (by omega))) ?_
        show Xv E q_m_X2_findFault 108 [Value.ref t, Value.int (zi x), Value.int (zi i), x3] [Value.int (zi (bI (cer R C x)))] H Q
        refine v_if_ne 116 111 d_X2_findFault_108 rfl rfl (by have := bI_r (cer R C x); omega) (by have := bI_r (cer R C x); omega) (fun k108 => ?_) (fun k108 => ?_)
        · replace k108 := bI_n0.mp k108
          refine xv (x_aload_n 117 d_X2_findFault_116 rfl rfl) ?_
          refine xv (x_iload_n 118 d_X2_findFault_117 rfl rfl) ?_
          obtain ⟨r118, h118, e118, z118, w118, f118⟩ := S_X2_endRow (E := E) (x := x) hT2
          subst z118
          have C_118 := ai_fr hC2 f118 (by omega)
          have LO_118 := lo_fr hLo2 f118 (by omega)
          have F118 : Fr t 1 h h118 := fr_tr hF2 (fr_in f118 (by omega) (by omega))
          refine xv (x_inv0 121 (as := [Value.int (zi x)]) d_X2_findFault_118 rfl c_2_33 rfl (Nat.le_of_ble_eq_true rfl) (Nat.le_of_ble_eq_true rfl) hT2 (Nat.le_of_ble_eq_true rfl) (Nat.le_of_ble_eq_true rfl) rfl e118) ?_
          show Xv E q_m_X2_findFault 121 [Value.ref t, Value.int (zi x), Value.int (zi i), x3] [] h118 Q
          refine xv (x_iconst 122 d_X2_findFault_121 rfl) ?_
          refine xv_r (x_ireturn d_X2_findFault_122 rfl rfl) ?_
          rw [fpl_e (by omega), if_pos (by omega)] at hv
          refine hQ _ _ ?_
          rw [hv]
          exact ⟨rfl, w118, F118⟩
        · replace k108 := bI_0.mp k108
          refine xv (x_aload_n 112 d_X2_findFault_111 rfl rfl) ?_
          refine xv (x_getfield 115 d_X2_findFault_112 rfl f_2_15 (Nat.le_of_ble_eq_true rfl) (Nat.le_of_ble_eq_true rfl) (q_gf_of hT2 rfl)) ?_
          refine xv_r (x_ireturn d_X2_findFault_115 rfl rfl) ?_
          rw [fpl_e (by omega), if_neg (by omega)] at hv
          refine hQ _ _ ?_
          rw [hv]
          exact ⟨rfl, hT2, hF2⟩
      · refine xv (x_iload_n 23 d_X2_findFault_22 rfl rfl) ?_
        refine xv (x_aload_n 24 d_X2_findFault_23 rfl rfl) ?_
        refine xv (x_getfield 27 d_X2_findFault_24 rfl f_2_9 (Nat.le_of_ble_eq_true rfl) (Nat.le_of_ble_eq_true rfl) (q_gf_of hT2 rfl)) ?_
        refine xv (x_arraylength 28 d_X2_findFault_27 rfl (ai_l hC2 (by decide))) ?_
        refine v_icmp_ge 103 31 d_X2_findFault_28 rfl rfl (by omega) (by omega) (by omega) (by omega) (fun k28 => ?_) (fun k28 => ?_)
        · refine xv (x_aload_n 104 d_X2_findFault_103 rfl rfl) ?_
          refine xv (x_iload_n 105 d_X2_findFault_104 rfl rfl) ?_
          refine xv (x_inv1 108 (as := [Value.int (zi x)]) d_X2_findFault_105 rfl c_2_29 rfl (Nat.le_of_ble_eq_true rfl) (Nat.le_of_ble_eq_true rfl) hT2 (Nat.le_of_ble_eq_true rfl) (Nat.le_of_ble_eq_true rfl) rfl (S_X2_canEndRow hT2 (by omega) (by omega) (by omega) (by omega))) ?_
          show Xv E q_m_X2_findFault 108 [Value.ref t, Value.int (zi x), Value.int (zi i), x3] [Value.int (zi (bI (cer R C x)))] H Q
          refine v_if_ne 116 111 d_X2_findFault_108 rfl rfl (by have := bI_r (cer R C x); omega) (by have := bI_r (cer R C x); omega) (fun k108 => ?_) (fun k108 => ?_)
          · replace k108 := bI_n0.mp k108
            refine xv (x_aload_n 117 d_X2_findFault_116 rfl rfl) ?_
            refine xv (x_iload_n 118 d_X2_findFault_117 rfl rfl) ?_
            obtain ⟨r118, h118, e118, z118, w118, f118⟩ := S_X2_endRow (E := E) (x := x) hT2
            subst z118
            have C_118 := ai_fr hC2 f118 (by omega)
            have LO_118 := lo_fr hLo2 f118 (by omega)
            have F118 : Fr t 1 h h118 := fr_tr hF2 (fr_in f118 (by omega) (by omega))
            refine xv (x_inv0 121 (as := [Value.int (zi x)]) d_X2_findFault_118 rfl c_2_33 rfl (Nat.le_of_ble_eq_true rfl) (Nat.le_of_ble_eq_true rfl) hT2 (Nat.le_of_ble_eq_true rfl) (Nat.le_of_ble_eq_true rfl) rfl e118) ?_
            show Xv E q_m_X2_findFault 121 [Value.ref t, Value.int (zi x), Value.int (zi i), x3] [] h118 Q
            refine xv (x_iconst 122 d_X2_findFault_121 rfl) ?_
            refine xv_r (x_ireturn d_X2_findFault_122 rfl rfl) ?_
            rw [fpl_e (by omega), if_pos (by omega)] at hv
            refine hQ _ _ ?_
            rw [hv]
            exact ⟨rfl, w118, F118⟩
          · replace k108 := bI_0.mp k108
            refine xv (x_aload_n 112 d_X2_findFault_111 rfl rfl) ?_
            refine xv (x_getfield 115 d_X2_findFault_112 rfl f_2_15 (Nat.le_of_ble_eq_true rfl) (Nat.le_of_ble_eq_true rfl) (q_gf_of hT2 rfl)) ?_
            refine xv_r (x_ireturn d_X2_findFault_115 rfl rfl) ?_
            rw [fpl_e (by omega), if_neg (by omega)] at hv
            refine hQ _ _ ?_
            rw [hv]
            exact ⟨rfl, hT2, hF2⟩
        · refine xv (x_aload_n 32 d_X2_findFault_31 rfl rfl) ?_
          refine xv (x_getfield 35 d_X2_findFault_32 rfl f_2_9 (Nat.le_of_ble_eq_true rfl) (Nat.le_of_ble_eq_true rfl) (q_gf_of hT2 rfl)) ?_
          refine xv (x_iload_n 36 d_X2_findFault_35 rfl rfl) ?_
          refine xv (x_caload 37 d_X2_findFault_36 rfl (ai_g hC2 (by omega) (by omega) (by decide))) ?_
          have q36 := hc i (by omega) (by omega)
          refine xv (x_istore_n 38 d_X2_findFault_37 rfl (Nat.le_of_ble_eq_true rfl)) ?_
          show Xv E q_m_X2_findFault 38 [Value.ref t, Value.int (zi x), Value.int (zi i), Value.int (zi (c i))] [] H Q
          refine xv (x_iload_n 39 d_X2_findFault_38 rfl rfl) ?_
          refine xv (x_bipush 41 d_X2_findFault_39 rfl rfl) ?_
          refine v_icmp_ne 73 44 d_X2_findFault_41 rfl rfl (by omega) (by omega) (by omega) (by omega) (fun k41 => ?_) (fun k41 => ?_)
          · refine xv (x_iload_n 74 d_X2_findFault_73 rfl rfl) ?_
            refine xv (x_ins1 77 (as := [Value.int (zi (c i))]) d_X2_findFault_74 rfl c_2_37 rfl (Nat.le_of_ble_eq_true rfl) (Nat.le_of_ble_eq_true rfl) (Nat.le_of_ble_eq_true rfl) rfl (S_X2_kindOf hE hLo2 (by omega) (by omega))) ?_
            have q74 := @kd_r (c i)
            show Xv E q_m_X2_findFault 77 [Value.ref t, Value.int (zi x), Value.int (zi i), Value.int (zi (c i))] [Value.int (zi (kd (c i)))] H Q
            refine xv (x_iconst 78 d_X2_findFault_77 rfl) ?_
            refine v_icmp_eq 95 81 d_X2_findFault_78 rfl rfl (by omega) (by omega) (by omega) (by omega) (fun k78 => ?_) (fun k78 => ?_)
            · refine xv (x_iload_n 96 d_X2_findFault_95 rfl rfl) ?_
              refine xv_r (x_ireturn d_X2_findFault_96 rfl rfl) ?_
              rw [fpl_b (by omega), if_neg (by omega), if_neg (by omega)] at hv
              refine hQ _ _ ?_
              rw [hv]
              exact ⟨rfl, hT2, hF2⟩
            · refine xv (x_aload_n 82 d_X2_findFault_81 rfl rfl) ?_
              refine xv (x_iload_n 83 d_X2_findFault_82 rfl rfl) ?_
              refine xv (x_inv1 86 (as := [Value.int (zi x)]) d_X2_findFault_83 rfl c_2_41 rfl (Nat.le_of_ble_eq_true rfl) (Nat.le_of_ble_eq_true rfl) hT2 (Nat.le_of_ble_eq_true rfl) (Nat.le_of_ble_eq_true rfl) rfl (S_X2_canGrowRow hT2 (by omega) (by omega) (by omega) (by omega))) ?_
              show Xv E q_m_X2_findFault 86 [Value.ref t, Value.int (zi x), Value.int (zi i), Value.int (zi (c i))] [Value.int (zi (bI (cgr R C x)))] H Q
              refine v_if_eq 95 89 d_X2_findFault_86 rfl rfl (by have := bI_r (cgr R C x); omega) (by have := bI_r (cgr R C x); omega) (fun k86 => ?_) (fun k86 => ?_)
              · replace k86 := bI_0.mp k86
                refine xv (x_iload_n 96 d_X2_findFault_95 rfl rfl) ?_
                refine xv_r (x_ireturn d_X2_findFault_96 rfl rfl) ?_
                rw [fpl_b (by omega), if_neg (by omega), if_neg (by omega)] at hv
                refine hQ _ _ ?_
                rw [hv]
                exact ⟨rfl, hT2, hF2⟩
              · replace k86 := bI_n0.mp k86
                refine xv (x_iinc 92 d_X2_findFault_89 rfl rfl) ?_
                show Xv E q_m_X2_findFault 92 [Value.ref t, Value.int (zi (x + 1)), Value.int (zi i), Value.int (zi (c i))] [] H Q
                refine xv (x_goto 97 d_X2_findFault_92 rfl) ?_
                refine xv (x_iinc 100 d_X2_findFault_97 rfl rfl) ?_
                show Xv E q_m_X2_findFault 100 [Value.ref t, Value.int (zi (x + 1)), Value.int (zi (i + 1)), Value.int (zi (c i))] [] H Q
                refine xv (x_goto 14 d_X2_findFault_100 rfl) ?_
                refine ih14 _ (by omega) _ (i + 1) _ _ _ _ (by omega) (by omega) (by omega) (by omega) (by omega) hT2 hC2 hLo2 hF2 ?_ rfl
                rw [hv, fpl_b (by omega), if_neg (by omega), if_pos (by omega)]
          · refine xv (x_aload_n 45 d_X2_findFault_44 rfl rfl) ?_
            refine xv (x_iload_n 46 d_X2_findFault_45 rfl rfl) ?_
            refine xv (x_inv1 49 (as := [Value.int (zi x)]) d_X2_findFault_46 rfl c_2_29 rfl (Nat.le_of_ble_eq_true rfl) (Nat.le_of_ble_eq_true rfl) hT2 (Nat.le_of_ble_eq_true rfl) (Nat.le_of_ble_eq_true rfl) rfl (S_X2_canEndRow hT2 (by omega) (by omega) (by omega) (by omega))) ?_
            show Xv E q_m_X2_findFault 49 [Value.ref t, Value.int (zi x), Value.int (zi i), Value.int (zi (c i))] [Value.int (zi (bI (cer R C x)))] H Q
            refine v_if_eq 73 52 d_X2_findFault_49 rfl rfl (by have := bI_r (cer R C x); omega) (by have := bI_r (cer R C x); omega) (fun k49 => ?_) (fun k49 => ?_)
            · replace k49 := bI_0.mp k49
              refine xv (x_iload_n 74 d_X2_findFault_73 rfl rfl) ?_
              refine xv (x_ins1 77 (as := [Value.int (zi (c i))]) d_X2_findFault_74 rfl c_2_37 rfl (Nat.le_of_ble_eq_true rfl) (Nat.le_of_ble_eq_true rfl) (Nat.le_of_ble_eq_true rfl) rfl (S_X2_kindOf hE hLo2 (by omega) (by omega))) ?_
              have q74 := @kd_r (c i)
              show Xv E q_m_X2_findFault 77 [Value.ref t, Value.int (zi x), Value.int (zi i), Value.int (zi (c i))] [Value.int (zi (kd (c i)))] H Q
              refine xv (x_iconst 78 d_X2_findFault_77 rfl) ?_
              refine v_icmp_eq 95 81 d_X2_findFault_78 rfl rfl (by omega) (by omega) (by omega) (by omega) (fun k78 => ?_) (fun k78 => ?_)
              · refine xv (x_iload_n 96 d_X2_findFault_95 rfl rfl) ?_
                refine xv_r (x_ireturn d_X2_findFault_96 rfl rfl) ?_
                rw [fpl_b (by omega), if_neg (by omega), if_neg (by omega)] at hv
                refine hQ _ _ ?_
                rw [hv]
                exact ⟨rfl, hT2, hF2⟩
              · refine xv (x_aload_n 82 d_X2_findFault_81 rfl rfl) ?_
                refine xv (x_iload_n 83 d_X2_findFault_82 rfl rfl) ?_
                refine xv (x_inv1 86 (as := [Value.int (zi x)]) d_X2_findFault_83 rfl c_2_41 rfl (Nat.le_of_ble_eq_true rfl) (Nat.le_of_ble_eq_true rfl) hT2 (Nat.le_of_ble_eq_true rfl) (Nat.le_of_ble_eq_true rfl) rfl (S_X2_canGrowRow hT2 (by omega) (by omega) (by omega) (by omega))) ?_
                show Xv E q_m_X2_findFault 86 [Value.ref t, Value.int (zi x), Value.int (zi i), Value.int (zi (c i))] [Value.int (zi (bI (cgr R C x)))] H Q
                refine v_if_eq 95 89 d_X2_findFault_86 rfl rfl (by have := bI_r (cgr R C x); omega) (by have := bI_r (cgr R C x); omega) (fun k86 => ?_) (fun k86 => ?_)
                · replace k86 := bI_0.mp k86
                  refine xv (x_iload_n 96 d_X2_findFault_95 rfl rfl) ?_
                  refine xv_r (x_ireturn d_X2_findFault_96 rfl rfl) ?_
                  rw [fpl_b (by omega), if_neg (by omega), if_neg (by omega)] at hv
                  refine hQ _ _ ?_
                  rw [hv]
                  exact ⟨rfl, hT2, hF2⟩
                · replace k86 := bI_n0.mp k86
                  refine xv (x_iinc 92 d_X2_findFault_89 rfl rfl) ?_
                  show Xv E q_m_X2_findFault 92 [Value.ref t, Value.int (zi (x + 1)), Value.int (zi i), Value.int (zi (c i))] [] H Q
                  refine xv (x_goto 97 d_X2_findFault_92 rfl) ?_
                  refine xv (x_iinc 100 d_X2_findFault_97 rfl rfl) ?_
                  show Xv E q_m_X2_findFault 100 [Value.ref t, Value.int (zi (x + 1)), Value.int (zi (i + 1)), Value.int (zi (c i))] [] H Q
                  refine xv (x_goto 14 d_X2_findFault_100 rfl) ?_
                  refine ih14 _ (by omega) _ (i + 1) _ _ _ _ (by omega) (by omega) (by omega) (by omega) (by omega) hT2 hC2 hLo2 hF2 ?_ rfl
                  rw [hv, fpl_b (by omega), if_neg (by omega), if_pos (by omega)]
            · replace k49 := bI_n0.mp k49
              refine xv (x_aload_n 53 d_X2_findFault_52 rfl rfl) ?_
              refine xv (x_getfield 56 d_X2_findFault_53 rfl f_2_23 (Nat.le_of_ble_eq_true rfl) (Nat.le_of_ble_eq_true rfl) (q_gf_of hT2 rfl)) ?_
              refine xv (x_iconst 57 d_X2_findFault_56 rfl) ?_
              refine xv (x_iadd 58 d_X2_findFault_57 rfl) ?_
              refine xv (x_bipush 60 d_X2_findFault_58 rfl rfl) ?_
              refine v_icmp_ge 73 63 d_X2_findFault_60 rfl rfl (by omega) (by omega) (by omega) (by omega) (fun k60 => ?_) (fun k60 => ?_)
              · refine xv (x_iload_n 74 d_X2_findFault_73 rfl rfl) ?_
                refine xv (x_ins1 77 (as := [Value.int (zi (c i))]) d_X2_findFault_74 rfl c_2_37 rfl (Nat.le_of_ble_eq_true rfl) (Nat.le_of_ble_eq_true rfl) (Nat.le_of_ble_eq_true rfl) rfl (S_X2_kindOf hE hLo2 (by omega) (by omega))) ?_
                have q74 := @kd_r (c i)
                show Xv E q_m_X2_findFault 77 [Value.ref t, Value.int (zi x), Value.int (zi i), Value.int (zi (c i))] [Value.int (zi (kd (c i)))] H Q
                refine xv (x_iconst 78 d_X2_findFault_77 rfl) ?_
                refine v_icmp_eq 95 81 d_X2_findFault_78 rfl rfl (by omega) (by omega) (by omega) (by omega) (fun k78 => ?_) (fun k78 => ?_)
                · refine xv (x_iload_n 96 d_X2_findFault_95 rfl rfl) ?_
                  refine xv_r (x_ireturn d_X2_findFault_96 rfl rfl) ?_
                  rw [fpl_b (by omega), if_neg (by omega), if_neg (by omega)] at hv
                  refine hQ _ _ ?_
                  rw [hv]
                  exact ⟨rfl, hT2, hF2⟩
                · refine xv (x_aload_n 82 d_X2_findFault_81 rfl rfl) ?_
                  refine xv (x_iload_n 83 d_X2_findFault_82 rfl rfl) ?_
                  refine xv (x_inv1 86 (as := [Value.int (zi x)]) d_X2_findFault_83 rfl c_2_41 rfl (Nat.le_of_ble_eq_true rfl) (Nat.le_of_ble_eq_true rfl) hT2 (Nat.le_of_ble_eq_true rfl) (Nat.le_of_ble_eq_true rfl) rfl (S_X2_canGrowRow hT2 (by omega) (by omega) (by omega) (by omega))) ?_
                  show Xv E q_m_X2_findFault 86 [Value.ref t, Value.int (zi x), Value.int (zi i), Value.int (zi (c i))] [Value.int (zi (bI (cgr R C x)))] H Q
                  refine v_if_eq 95 89 d_X2_findFault_86 rfl rfl (by have := bI_r (cgr R C x); omega) (by have := bI_r (cgr R C x); omega) (fun k86 => ?_) (fun k86 => ?_)
                  · replace k86 := bI_0.mp k86
                    refine xv (x_iload_n 96 d_X2_findFault_95 rfl rfl) ?_
                    refine xv_r (x_ireturn d_X2_findFault_96 rfl rfl) ?_
                    rw [fpl_b (by omega), if_neg (by omega), if_neg (by omega)] at hv
                    refine hQ _ _ ?_
                    rw [hv]
                    exact ⟨rfl, hT2, hF2⟩
                  · replace k86 := bI_n0.mp k86
                    refine xv (x_iinc 92 d_X2_findFault_89 rfl rfl) ?_
                    show Xv E q_m_X2_findFault 92 [Value.ref t, Value.int (zi (x + 1)), Value.int (zi i), Value.int (zi (c i))] [] H Q
                    refine xv (x_goto 97 d_X2_findFault_92 rfl) ?_
                    refine xv (x_iinc 100 d_X2_findFault_97 rfl rfl) ?_
                    show Xv E q_m_X2_findFault 100 [Value.ref t, Value.int (zi (x + 1)), Value.int (zi (i + 1)), Value.int (zi (c i))] [] H Q
                    refine xv (x_goto 14 d_X2_findFault_100 rfl) ?_
                    refine ih14 _ (by omega) _ (i + 1) _ _ _ _ (by omega) (by omega) (by omega) (by omega) (by omega) hT2 hC2 hLo2 hF2 ?_ rfl
                    rw [hv, fpl_b (by omega), if_neg (by omega), if_pos (by omega)]
              · refine xv (x_aload_n 64 d_X2_findFault_63 rfl rfl) ?_
                refine xv (x_iload_n 65 d_X2_findFault_64 rfl rfl) ?_
                obtain ⟨r65, h65, e65, z65, w65, f65⟩ := S_X2_endRow (E := E) (x := x) hT2
                subst z65
                have C_65 := ai_fr hC2 f65 (by omega)
                have LO_65 := lo_fr hLo2 f65 (by omega)
                have F65 : Fr t 1 h h65 := fr_tr hF2 (fr_in f65 (by omega) (by omega))
                refine xv (x_inv0 68 (as := [Value.int (zi x)]) d_X2_findFault_65 rfl c_2_33 rfl (Nat.le_of_ble_eq_true rfl) (Nat.le_of_ble_eq_true rfl) hT2 (Nat.le_of_ble_eq_true rfl) (Nat.le_of_ble_eq_true rfl) rfl e65) ?_
                show Xv E q_m_X2_findFault 68 [Value.ref t, Value.int (zi x), Value.int (zi i), Value.int (zi (c i))] [] h65 Q
                refine xv (x_iconst 69 d_X2_findFault_68 rfl) ?_
                refine xv (x_istore_n 70 d_X2_findFault_69 rfl (Nat.le_of_ble_eq_true rfl)) ?_
                show Xv E q_m_X2_findFault 70 [Value.ref t, Value.int (zi 0), Value.int (zi i), Value.int (zi (c i))] [] h65 Q
                refine xv (x_goto 97 d_X2_findFault_70 rfl) ?_
                refine xv (x_iinc 100 d_X2_findFault_97 rfl rfl) ?_
                show Xv E q_m_X2_findFault 100 [Value.ref t, Value.int (zi 0), Value.int (zi (i + 1)), Value.int (zi (c i))] [] h65 Q
                refine xv (x_goto 14 d_X2_findFault_100 rfl) ?_
                refine ih14 _ (by omega) _ (i + 1) _ _ _ _ (by omega) (by omega) (by omega) (by omega) (by omega) w65 C_65 LO_65 F65 ?_ rfl
                rw [hv, fpl_b (by omega), if_pos (by omega)]
  exact L14 _ 0 0 0 0 _ _ (by omega) (by omega) (by omega) (by omega) (by omega) w7 C_7 LO_7 F7 (by rw [Int.sub_zero]) rfl
theorem S_X6_rebuild (hW : WH h w l p) (hE : q_EN E N) (hLo : Lo h N) (hN : N ≤ w) (sp : t + 2 ≤ w ∨ w + 38 ≤ t) (hT : LTo h t n R C) (hC : AI h (t + 1) 3 60 c) (hn : 0 ≤ n ∧ n ≤ 60) (hc : ∀ i, 0 ≤ i → i < n → 0 ≤ c i ∧ c i < 65536) : ∃ r_ h', q_cl E q_m_X6_rebuild [Value.ref w, Value.ref t] h = some (r_, h') ∧ (r_ = .inl none ∧ WH h' w (rbl c n.toNat 0 0 (u1 (u1 (u1 (u1 (u1 l 0 R) 1 C) 2 0) 3 0) 4 0)) p ∧ Fr w 38 h h') := by
  suffices K : ∀ Q : q_R → q_H → Prop, (∀ r_ h', (r_ = .inl none ∧ WH h' w (rbl c n.toNat 0 0 (u1 (u1 (u1 (u1 (u1 l 0 R) 1 C) 2 0) 3 0) 4 0)) p ∧ Fr w 38 h h') → Q r_ h') → Xv E q_m_X6_rebuild 0 [Value.ref w, Value.ref t, Value.null, Value.null, Value.null] [] h Q from K _ fun _ _ p => p
  intro Q hQ
  refine xv (x_aload_n 1 d_X6_rebuild_0 rfl rfl) ?_
  refine xv (x_aload_n 2 d_X6_rebuild_1 rfl rfl) ?_
  refine xv (x_getfield 5 d_X6_rebuild_2 rfl f_6_68 (Nat.le_of_ble_eq_true rfl) (Nat.le_of_ble_eq_true rfl) (q_gf_of hT rfl)) ?_
  obtain ⟨h5, e5, w5, f5⟩ := wh_pf0 (v := R) hW
  have T_5 := (f5.2 _ (by omega)).trans hT
  have C_5 := ai_fr hC f5 (by omega)
  have LO_5 := lo_fr hLo f5 (by omega)
  have F5 : Fr w 38 h h5 := fr_tr fr_rf (fr_in f5 (by omega) (by omega))
  refine xv (x_putfield 8 d_X6_rebuild_5 rfl f_6_9 (Nat.le_of_ble_eq_true rfl) e5 rfl rfl (fun e => absurd e (by decide))) ?_
  show Xv E q_m_X6_rebuild 8 [Value.ref w, Value.ref t, Value.null, Value.null, Value.null] [] h5 Q
  refine xv (x_aload_n 9 d_X6_rebuild_8 rfl rfl) ?_
  refine xv (x_aload_n 10 d_X6_rebuild_9 rfl rfl) ?_
  refine xv (x_getfield 13 d_X6_rebuild_10 rfl f_6_71 (Nat.le_of_ble_eq_true rfl) (Nat.le_of_ble_eq_true rfl) (q_gf_of T_5 rfl)) ?_
  obtain ⟨h13, e13, w13, f13⟩ := wh_pf1 (v := C) w5
  have T_13 := (f13.2 _ (by omega)).trans T_5
  have C_13 := ai_fr C_5 f13 (by omega)
  have LO_13 := lo_fr LO_5 f13 (by omega)
  have F13 : Fr w 38 h h13 := fr_tr F5 (fr_in f13 (by omega) (by omega))
  refine xv (x_putfield 16 d_X6_rebuild_13 rfl f_6_15 (Nat.le_of_ble_eq_true rfl) e13 rfl rfl (fun e => absurd e (by decide))) ?_
  show Xv E q_m_X6_rebuild 16 [Value.ref w, Value.ref t, Value.null, Value.null, Value.null] [] h13 Q
  refine xv (x_aload_n 17 d_X6_rebuild_16 rfl rfl) ?_
  refine xv (x_iconst 18 d_X6_rebuild_17 rfl) ?_
  obtain ⟨h18, e18, w18, f18⟩ := wh_pf2 (v := 0) w13
  have T_18 := (f18.2 _ (by omega)).trans T_13
  have C_18 := ai_fr C_13 f18 (by omega)
  have LO_18 := lo_fr LO_13 f18 (by omega)
  have F18 : Fr w 38 h h18 := fr_tr F13 (fr_in f18 (by omega) (by omega))
  refine xv (x_putfield 21 d_X6_rebuild_18 rfl f_6_52 (Nat.le_of_ble_eq_true rfl) e18 rfl rfl (fun e => absurd e (by decide))) ?_
  show Xv E q_m_X6_rebuild 21 [Value.ref w, Value.ref t, Value.null, Value.null, Value.null] [] h18 Q
  refine xv (x_aload_n 22 d_X6_rebuild_21 rfl rfl) ?_
  refine xv (x_iconst 23 d_X6_rebuild_22 rfl) ?_
  obtain ⟨h23, e23, w23, f23⟩ := wh_pf3 (v := 0) w18
  have T_23 := (f23.2 _ (by omega)).trans T_18
  have C_23 := ai_fr C_18 f23 (by omega)
  have LO_23 := lo_fr LO_18 f23 (by omega)
  have F23 : Fr w 38 h h23 := fr_tr F18 (fr_in f23 (by omega) (by omega))
  refine xv (x_putfield 26 d_X6_rebuild_23 rfl f_6_55 (Nat.le_of_ble_eq_true rfl) e23 rfl rfl (fun e => absurd e (by decide))) ?_
  show Xv E q_m_X6_rebuild 26 [Value.ref w, Value.ref t, Value.null, Value.null, Value.null] [] h23 Q
  refine xv (x_aload_n 27 d_X6_rebuild_26 rfl rfl) ?_
  refine xv (x_iconst 28 d_X6_rebuild_27 rfl) ?_
  obtain ⟨h28, e28, w28, f28⟩ := wh_pf4 (v := 0) w23
  have T_28 := (f28.2 _ (by omega)).trans T_23
  have C_28 := ai_fr C_23 f28 (by omega)
  have LO_28 := lo_fr LO_23 f28 (by omega)
  have F28 : Fr w 38 h h28 := fr_tr F23 (fr_in f28 (by omega) (by omega))
  refine xv (x_putfield 31 d_X6_rebuild_28 rfl f_6_58 (Nat.le_of_ble_eq_true rfl) e28 rfl rfl (fun e => absurd e (by decide))) ?_
  show Xv E q_m_X6_rebuild 31 [Value.ref w, Value.ref t, Value.null, Value.null, Value.null] [] h28 Q
  refine xv (x_iconst 32 d_X6_rebuild_31 rfl) ?_
  refine xv (x_istore_n 33 d_X6_rebuild_32 rfl (Nat.le_of_ble_eq_true rfl)) ?_
  show Xv E q_m_X6_rebuild 33 [Value.ref w, Value.ref t, Value.int (zi 0), Value.null, Value.null] [] h28 Q
  refine xv (x_iconst 34 d_X6_rebuild_33 rfl) ?_
  refine xv (x_istore_n 35 d_X6_rebuild_34 rfl (Nat.le_of_ble_eq_true rfl)) ?_
  show Xv E q_m_X6_rebuild 35 [Value.ref w, Value.ref t, Value.int (zi 0), Value.int (zi 0), Value.null] [] h28 Q
  have L35 : ∀ (n_ : Nat) (k : Int) (i : Int) (lk : Int → Int) (H : q_H) (x4 : Value), (0 ≤ i) → (i ≤ n) → (0 ≤ k ∧ k ≤ i) → (WH H w lk p) → (LTo H t n R C) → (AI H (t + 1) 3 60 c) → (Lo H N) → (Fr w 38 h H) → (rbl c n.toNat 0 0 (u1 (u1 (u1 (u1 (u1 l 0 R) 1 C) 2 0) 3 0) 4 0) = rbl c (n - i).toNat i k lk) → (n - i).toNat = n_ → Xv E q_m_X6_rebuild 35 [Value.ref w, Value.ref t, Value.int (zi k), Value.int (zi i), x4] [] H Q := by
    intro n_
    induction n_ using Nat.strongRecOn with
    | _ n_ ih35 =>
      intro k i lk H x4 i0 i1 k0 hW2 hT2 hC2 hLo2 hF2 hv em
      refine xv (x_iload_n 36 d_X6_rebuild_35 rfl rfl) ?_
      refine xv (x_aload_n 37 d_X6_rebuild_36 rfl rfl) ?_
      refine xv (x_getfield 40 d_X6_rebuild_37 rfl f_6_72 (Nat.le_of_ble_eq_true rfl) (Nat.le_of_ble_eq_true rfl) (q_gf_of hT2 rfl)) ?_
      refine v_icmp_ge 96 43 d_X6_rebuild_40 rfl rfl (by omega) (by omega) (by omega) (by omega) (fun k40 => ?_) (fun k40 => ?_)
      · refine xv_r (x_return d_X6_rebuild_96 rfl) ?_
        rw [rbl_e (by omega)] at hv
        refine hQ _ _ ?_
        rw [hv]
        exact ⟨rfl, hW2, hF2⟩
      · refine xv (x_iload_n 44 d_X6_rebuild_43 rfl rfl) ?_
        refine xv (x_bipush 46 d_X6_rebuild_44 rfl rfl) ?_
        refine v_icmp_ge 96 49 d_X6_rebuild_46 rfl rfl (by omega) (by omega) (by omega) (by omega) (fun k46 => ?_) (fun k46 => ?_)
        · refine xv_r (x_return d_X6_rebuild_96 rfl) ?_
          rw [rbl_e (by omega)] at hv
          refine hQ _ _ ?_
          rw [hv]
          exact ⟨rfl, hW2, hF2⟩
        · refine xv (x_aload_n 50 d_X6_rebuild_49 rfl rfl) ?_
          refine xv (x_getfield 53 d_X6_rebuild_50 rfl f_6_75 (Nat.le_of_ble_eq_true rfl) (Nat.le_of_ble_eq_true rfl) (q_gf_of hT2 rfl)) ?_
          refine xv (x_iload_n 54 d_X6_rebuild_53 rfl rfl) ?_
          refine xv (x_caload 55 d_X6_rebuild_54 rfl (ai_g hC2 (by omega) (by omega) (by decide))) ?_
          have q54 := hc i (by omega) (by omega)
          refine xv (x_ins1 58 (as := [Value.int (zi (c i))]) d_X6_rebuild_55 rfl c_6_79 rfl (Nat.le_of_ble_eq_true rfl) (Nat.le_of_ble_eq_true rfl) (Nat.le_of_ble_eq_true rfl) rfl (S_X2_kindOf hE hLo2 (by omega) (by omega))) ?_
          have q55 := @kd_r (c i)
          show Xv E q_m_X6_rebuild 58 [Value.ref w, Value.ref t, Value.int (zi k), Value.int (zi i), x4] [Value.int (zi (kd (c i)))] H Q
          refine xv (x_istore 60 d_X6_rebuild_58 rfl (Nat.le_of_ble_eq_true rfl)) ?_
          show Xv E q_m_X6_rebuild 60 [Value.ref w, Value.ref t, Value.int (zi k), Value.int (zi i), Value.int (zi (kd (c i)))] [] H Q
          refine xv (x_iload 62 d_X6_rebuild_60 rfl rfl) ?_
          refine xv (x_iconst 63 d_X6_rebuild_62 rfl) ?_
          refine v_icmp_eq 90 66 d_X6_rebuild_63 rfl rfl (by omega) (by omega) (by omega) (by omega) (fun k63 => ?_) (fun k63 => ?_)
          · refine xv (x_iinc 93 d_X6_rebuild_90 rfl rfl) ?_
            show Xv E q_m_X6_rebuild 93 [Value.ref w, Value.ref t, Value.int (zi k), Value.int (zi (i + 1)), Value.int (zi (kd (c i)))] [] H Q
            refine xv (x_goto 35 d_X6_rebuild_93 rfl) ?_
            refine ih35 _ (by omega) _ (i + 1) _ _ _ (by omega) (by omega) (by omega) hW2 hT2 hC2 hLo2 hF2 ?_ rfl
            rw [hv, rbl_b (by omega)]
            first | rw [if_pos (by omega)] | rw [if_neg (by omega)]
          · refine xv (x_iload_n 67 d_X6_rebuild_66 rfl rfl) ?_
            refine xv (x_bipush 69 d_X6_rebuild_67 rfl rfl) ?_
            refine v_icmp_ge 90 72 d_X6_rebuild_69 rfl rfl (by omega) (by omega) (by omega) (by omega) (fun k69 => ?_) (fun k69 => ?_)
            · refine xv (x_iinc 93 d_X6_rebuild_90 rfl rfl) ?_
              show Xv E q_m_X6_rebuild 93 [Value.ref w, Value.ref t, Value.int (zi k), Value.int (zi (i + 1)), Value.int (zi (kd (c i)))] [] H Q
              refine xv (x_goto 35 d_X6_rebuild_93 rfl) ?_
              refine ih35 _ (by omega) _ (i + 1) _ _ _ (by omega) (by omega) (by omega) hW2 hT2 hC2 hLo2 hF2 ?_ rfl
              rw [hv, rbl_b (by omega)]
              first | rw [if_pos (by omega)] | rw [if_neg (by omega)]
            · refine xv (x_aload_n 73 d_X6_rebuild_72 rfl rfl) ?_
              refine xv (x_getfield 76 d_X6_rebuild_73 rfl f_6_18 (Nat.le_of_ble_eq_true rfl) (Nat.le_of_ble_eq_true rfl) (q_gf_of (wh_o hW2) rfl)) ?_
              refine xv (x_iload_n 77 d_X6_rebuild_76 rfl rfl) ?_
              refine xv (x_iload 79 d_X6_rebuild_77 rfl rfl) ?_
              obtain ⟨h79, e79, w79, f79⟩ := wh_ks (z := k) (v := kd (c i)) hW2 (by omega) (by omega)
              have T_79 := (f79.2 _ (by omega)).trans hT2
              have C_79 := ai_fr hC2 f79 (by omega)
              have LO_79 := lo_fr hLo2 f79 (by omega)
              have F79 : Fr w 38 h h79 := fr_tr hF2 (fr_in f79 (by omega) (by omega))
              refine xv (x_iastore 80 d_X6_rebuild_79 rfl e79) ?_
              show Xv E q_m_X6_rebuild 80 [Value.ref w, Value.ref t, Value.int (zi k), Value.int (zi i), Value.int (zi (kd (c i)))] [] h79 Q
              refine xv (x_aload_n 81 d_X6_rebuild_80 rfl rfl) ?_
              refine xv (x_getfield 84 d_X6_rebuild_81 rfl f_6_22 (Nat.le_of_ble_eq_true rfl) (Nat.le_of_ble_eq_true rfl) (q_gf_of (wh_o w79) rfl)) ?_
              refine xv (x_iload_n 85 d_X6_rebuild_84 rfl rfl) ?_
              refine xv (x_iconst 86 d_X6_rebuild_85 rfl) ?_
              obtain ⟨h86, e86, w86, f86⟩ := wh_cs (z := k) (v := 0) w79 (by omega) (by omega)
              have T_86 := (f86.2 _ (by omega)).trans T_79
              have C_86 := ai_fr C_79 f86 (by omega)
              have LO_86 := lo_fr LO_79 f86 (by omega)
              have F86 : Fr w 38 h h86 := fr_tr F79 (fr_in f86 (by omega) (by omega))
              refine xv (x_bastore 87 d_X6_rebuild_86 rfl ((congrArg (q_sI _ 2 _ _) (rfl)).trans e86)) ?_
              show Xv E q_m_X6_rebuild 87 [Value.ref w, Value.ref t, Value.int (zi k), Value.int (zi i), Value.int (zi (kd (c i)))] [] h86 Q
              refine xv (x_iinc 90 d_X6_rebuild_87 rfl rfl) ?_
              show Xv E q_m_X6_rebuild 90 [Value.ref w, Value.ref t, Value.int (zi (k + 1)), Value.int (zi i), Value.int (zi (kd (c i)))] [] h86 Q
              refine xv (x_iinc 93 d_X6_rebuild_90 rfl rfl) ?_
              show Xv E q_m_X6_rebuild 93 [Value.ref w, Value.ref t, Value.int (zi (k + 1)), Value.int (zi (i + 1)), Value.int (zi (kd (c i)))] [] h86 Q
              refine xv (x_goto 35 d_X6_rebuild_93 rfl) ?_
              refine ih35 _ (by omega) _ (i + 1) _ _ _ (by omega) (by omega) (by omega) w86 T_86 C_86 LO_86 F86 ?_ rfl
              rw [hv, rbl_b (by omega)]
              first | rw [if_pos (by omega)] | rw [if_neg (by omega)]
  exact L35 _ 0 0 _ _ _ (by omega) (by omega) (by omega) w28 T_28 C_28 LO_28 F28 (by rw [Int.sub_zero]) rfl
end CH
