/-! the class's planner, small methods (printed by program) -/
/-- who else reserves a cell at a tick -/
abbrev tkn (l : Int → Int) (ro c t : Int) : Prop := ∃ r, isR l r ∧ r ≠ ro ∧ ahd l r t = c
noncomputable def gtF (l : Int → Int) (ro g : Int) : Nat → Int → Int → Int
  | 0, _, x => x
  | n + 1, k, x => gtF l ro g n (k + 1) (if k = ro then x else max x (lti (rb l k) g))
/-- until which tick others hold the goal -/
noncomputable def gtu (l : Int → Int) (ro g : Int) : Int := gtF l ro g (l 3).toNat 0 (-1)
abbrev PLo (h : q_H) (P w : Nat) (ro g gt : Int) : Prop := h.1 P = some (.inr (4, [.ref w, .ref (P + 1), .ref (P + 2), .ref (P + 3), .ref (P + 4), .int (zi ro), .int (zi g), .int (zi gt)]))
/-- the sets of reserved cells, tick by tick, of the others below k -/
def TKk (l : Int → Int) (ro k : Int) (TK : Int → Int64) : Prop := ∀ t, 0 ≤ t → t < 31 → ∀ c, 0 ≤ c → c < 64 → (bt (TK t) c ↔ ∃ r, (0 ≤ r ∧ r < k) ∧ r ≠ ro ∧ ahd l r t = c)
def mvc (f : Int → Int) : Nat → Int → Int → Int → Int
  | 0, _, _, a => a
  | n + 1, i, b, a => mvc f n (i + 1) (f i) (if f i = b then a else a + 1)
def ndc (OR : Int → Int) (x : Int) : Nat → Int
  | 0 => x
  | n + 1 => OR (ndc OR x n)
section CP
variable {E : q_E} {h h' : q_H} {w v a b t N k d P' : Nat} {l lo f g c q PQ PO PP : Int → Int} {p p2 pk : Int → Nat} {n R C z tr tc ro go_ gt : Int} {to : Int64} {TK : Int → Int64}
theorem mvc_b {f : Int → Int} {n i b a : Int} (h : i < n) : mvc f (n - i).toNat i b a = mvc f (n - (i + 1)).toNat (i + 1) (f i) (if f i = b then a else a + 1) := by
  rw [show (n - i).toNat = (n - (i + 1)).toNat + 1 by omega]; rfl
theorem mvc_e {f : Int → Int} {n i b a : Int} (h : n ≤ i) : mvc f (n - i).toNat i b a = a := by
  rw [show (n - i).toNat = 0 by omega]; rfl
theorem gtF_b {g n k x : Int} (h : k < n) : gtF l ro g (n - k).toNat k x = gtF l ro g (n - (k + 1)).toNat (k + 1) (if k = ro then x else max x (lti (rb l k) g)) := by
  rw [show (n - k).toNat = (n - (k + 1)).toNat + 1 by omega]; rfl
theorem gtF_e {g n k x : Int} (h : n ≤ k) : gtF l ro g (n - k).toNat k x = x := by
  rw [show (n - k).toNat = 0 by omega]; rfl
theorem S_J7_fillL {n : Nat} {NE : Int → Int64} (hA : AL h a n NE) (hn : n < 1000000) {v : Int64} : ∃ r_ h', q_cl E q_m_J7_fill_d0a16 [Value.ref a, Value.long v] h = some (r_, h') ∧ (r_ = .inl none ∧ AL h' a n (fun _ => v) ∧ Fr a 1 h h') := by
  suffices K : ∀ Q : q_R → q_H → Prop, (∀ r_ h', (r_ = .inl none ∧ AL h' a n (fun _ => v) ∧ Fr a 1 h h') → Q r_ h') → Xv E q_m_J7_fill_d0a16 0 [Value.ref a, Value.long v, Value.null, Value.null, Value.null] [] h Q from K _ fun _ _ p => p
  intro Q hQ
  refine xv (x_iconst 1 d_J7_fill_d0a16_0 rfl) ?_
  refine xv (x_istore_n 2 d_J7_fill_d0a16_1 rfl (Nat.le_of_ble_eq_true rfl)) ?_
  show Xv E q_m_J7_fill_d0a16 2 [Value.ref a, Value.long v, Value.null, Value.int (zi 0), Value.null] [] h Q
  refine xv (x_aload_n 3 d_J7_fill_d0a16_2 rfl rfl) ?_
  refine xv (x_arraylength 4 d_J7_fill_d0a16_3 rfl (al_l hA)) ?_
  refine xv (x_istore 6 d_J7_fill_d0a16_4 rfl (Nat.le_of_ble_eq_true rfl)) ?_
  show Xv E q_m_J7_fill_d0a16 6 [Value.ref a, Value.long v, Value.null, Value.int (zi 0), Value.int (zi n)] [] h Q
  have L6 : ∀ (n_ : Nat) (k : Int) (H : q_H), (0 ≤ k) → (k ≤ n) → (AL H a n (fun i => if 0 ≤ i ∧ i < k then v else NE i)) → (Fr a 1 h H) → ((n : Int) - k).toNat = n_ → Xv E q_m_J7_fill_d0a16 6 [Value.ref a, Value.long v, Value.null, Value.int (zi k), Value.int (zi n)] [] H Q := by
    intro n_
    induction n_ using Nat.strongRecOn with
    | _ n_ ih6 =>
      intro k H k0 k1 hA2 hF2 em
      refine xv (x_iload_n 7 d_J7_fill_d0a16_6 rfl rfl) ?_
      refine xv (x_iload 9 d_J7_fill_d0a16_7 rfl rfl) ?_
      refine v_icmp_ge 22 12 d_J7_fill_d0a16_9 rfl rfl (by omega) (by omega) (by omega) (by omega) (fun k9 => ?_) (fun k9 => ?_)
      · refine xv_r (x_return d_J7_fill_d0a16_22 rfl) ?_
        exact hQ _ _ ⟨rfl, al_cg hA2 (fun i a b => if_pos (by omega)), hF2⟩
      · refine xv (x_aload_n 13 d_J7_fill_d0a16_12 rfl rfl) ?_
        refine xv (x_iload_n 14 d_J7_fill_d0a16_13 rfl rfl) ?_
        refine xv (x_lload_n 15 d_J7_fill_d0a16_14 rfl rfl) ?_
        obtain ⟨h15, e15, w15, f15⟩ := al_s (z := k) (v := v) hA2 (by omega) (by omega) (by omega)
        have F15 : Fr a 1 h h15 := fr_tr hF2 (fr_in f15 (by omega) (by omega))
        refine xv (x_lastore 16 d_J7_fill_d0a16_15 rfl e15) ?_
        show Xv E q_m_J7_fill_d0a16 16 [Value.ref a, Value.long v, Value.null, Value.int (zi k), Value.int (zi n)] [] h15 Q
        refine xv (x_iinc 19 d_J7_fill_d0a16_16 rfl rfl) ?_
        show Xv E q_m_J7_fill_d0a16 19 [Value.ref a, Value.long v, Value.null, Value.int (zi (k + 1)), Value.int (zi n)] [] h15 Q
        refine xv (x_goto 6 d_J7_fill_d0a16_19 rfl) ?_
        refine ih6 _ (by omega) (k + 1) _ (by omega) (by omega) (al_cg w15 fun i a b => ?_) F15 rfl
        show (if i = k then v else if 0 ≤ i ∧ i < k then v else NE i) = if 0 ≤ i ∧ i < k + 1 then v else NE i
        by_cases z : i = k
        · rw [if_pos z, if_pos (by omega)]
        · rw [if_neg z]
          by_cases z2 : 0 ≤ i ∧ i < k
          · rw [if_pos z2, if_pos (by omega)]
          · rw [if_neg z2, if_neg (by omega)]
  exact L6 _ 0 _ (by omega) (by omega) (al_cg hA fun i a b => (if_neg (by omega)).symm) fr_rf rfl
theorem S_X4_horizon (hW : WH h w l p) (hR : RgC l) (hP : PLo h P' w ro go_ gt)  : q_cl E q_m_X4_horizon [Value.ref (P')] h = some (.inl (some (Value.int (zi (l 7)))), h) := by
  suffices K : ∀ Q : q_R → q_H → Prop, Q (.inl (some (Value.int (zi (l 7))))) h → Xv E q_m_X4_horizon 0 [Value.ref (P')] [] h Q by
    obtain ⟨r_, g_, a_, b_, c_⟩ := K (fun r_ g_ => r_ = .inl (some (Value.int (zi (l 7)))) ∧ g_ = h) ⟨rfl, rfl⟩
    subst b_; subst c_; exact a_
  intro Q hQ
  obtain ⟨g0, g1, g2, g3, g4, gc, g5, g6, g7, gk, gl, gr, go⟩ := id hR
  refine xv (x_bipush 2 d_X4_horizon_0 rfl rfl) ?_
  refine xv (x_aload_n 3 d_X4_horizon_2 rfl rfl) ?_
  refine xv (x_getfield 6 d_X4_horizon_3 rfl f_4_9 (Nat.le_of_ble_eq_true rfl) (Nat.le_of_ble_eq_true rfl) (q_gf_of hP rfl)) ?_
  refine xv (x_getfield 9 d_X4_horizon_6 rfl f_4_116 (Nat.le_of_ble_eq_true rfl) (Nat.le_of_ble_eq_true rfl) (q_gf_of (wh_o hW) rfl)) ?_
  refine xv (x_iconst 10 d_X4_horizon_9 rfl) ?_
  refine xv (x_iaload 11 d_X4_horizon_10 rfl ((ai_g (wh_s hW) (by omega) (by omega) (by decide)).trans (rfl : _ = some (Value.int (zi (l 7)))))) ?_
  refine xv (x_mmin 14 d_X4_horizon_11 rfl rfl rfl rfl (Nat.le_of_ble_eq_true rfl) (Nat.le_of_ble_eq_true rfl) (Nat.le_of_ble_eq_true rfl) (by omega) (by omega) (by omega) (by omega)) ?_
  refine xv_r (x_ireturn d_X4_horizon_14 rfl rfl) ?_
  refine lq hQ ?_
  omega
theorem S_X4_canEndAt (hW : WH h w l p) (hR : RgC l) (hP : PLo h P' w ro go_ gt) (hg : 0 ≤ go_ ∧ go_ < 64) (hgt : -1 ≤ gt ∧ gt ≤ 30) {x y : Int} (x0 : -2147483648 ≤ x) (x1 : x < 2147483648) (y0 : -2147483648 ≤ y) (y1 : y < 2147483648) : q_cl E q_m_X4_canEndAt [Value.ref (P'), Value.int (zi x), Value.int (zi y)] h = some (.inl (some (Value.int (zi (bI (x = go_ ∧ gt < y))))), h) := by
  suffices K : ∀ Q : q_R → q_H → Prop, Q (.inl (some (Value.int (zi (bI (x = go_ ∧ gt < y)))))) h → Xv E q_m_X4_canEndAt 0 [Value.ref (P'), Value.int (zi x), Value.int (zi y)] [] h Q by
    obtain ⟨r_, g_, a_, b_, c_⟩ := K (fun r_ g_ => r_ = .inl (some (Value.int (zi (bI (x = go_ ∧ gt < y))))) ∧ g_ = h) ⟨rfl, rfl⟩
    subst b_; subst c_; exact a_
  intro Q hQ
  obtain ⟨g0, g1, g2, g3, g4, gc, g5, g6, g7, gk, gl, gr, go⟩ := id hR
  refine xv (x_iload_n 1 d_X4_canEndAt_0 rfl rfl) ?_
  refine xv (x_aload_n 2 d_X4_canEndAt_1 rfl rfl) ?_
  refine xv (x_getfield 5 d_X4_canEndAt_2 rfl f_4_73 (Nat.le_of_ble_eq_true rfl) (Nat.le_of_ble_eq_true rfl) (q_gf_of hP rfl)) ?_
  refine v_icmp_ne 20 8 d_X4_canEndAt_5 rfl rfl (by omega) (by omega) (by omega) (by omega) (fun k5 => ?_) (fun k5 => ?_)
  · refine xv (x_iconst 21 d_X4_canEndAt_20 rfl) ?_
    refine xv_r (x_ireturn d_X4_canEndAt_21 rfl rfl) ?_
    refine lq hQ ?_
    exact (bI_f (by omega)).symm
  · refine xv (x_iload_n 9 d_X4_canEndAt_8 rfl rfl) ?_
    refine xv (x_aload_n 10 d_X4_canEndAt_9 rfl rfl) ?_
    refine xv (x_getfield 13 d_X4_canEndAt_10 rfl f_4_94 (Nat.le_of_ble_eq_true rfl) (Nat.le_of_ble_eq_true rfl) (q_gf_of hP rfl)) ?_
    refine v_icmp_le 20 16 d_X4_canEndAt_13 rfl rfl (by omega) (by omega) (by omega) (by omega) (fun k13 => ?_) (fun k13 => ?_)
    · refine xv (x_iconst 21 d_X4_canEndAt_20 rfl) ?_
      refine xv_r (x_ireturn d_X4_canEndAt_21 rfl rfl) ?_
      refine lq hQ ?_
      exact (bI_f (by omega)).symm
    · refine xv (x_iconst 17 d_X4_canEndAt_16 rfl) ?_
      refine xv (x_goto 21 d_X4_canEndAt_17 rfl) ?_
      refine xv_r (x_ireturn d_X4_canEndAt_21 rfl rfl) ?_
      refine lq hQ ?_
      exact (bI_t (by omega)).symm
theorem S_X4_isTaken (hW : WH h w l p) (hR : RgC l) (hP : PLo h P' w ro go_ gt) (hK : AL h (P' + 3) 31 TK) {x y : Int} (x0 : 0 ≤ x) (x1 : x < 64) (y0 : -2147483648 ≤ y) (y1 : y < 2147483648) : q_cl E q_m_X4_isTaken [Value.ref (P'), Value.int (zi x), Value.int (zi y)] h = some (.inl (some (Value.int (zi (bI ((0 ≤ y ∧ y < 31) ∧ bt (TK y) x))))), h) := by
  suffices K : ∀ Q : q_R → q_H → Prop, Q (.inl (some (Value.int (zi (bI ((0 ≤ y ∧ y < 31) ∧ bt (TK y) x)))))) h → Xv E q_m_X4_isTaken 0 [Value.ref (P'), Value.int (zi x), Value.int (zi y)] [] h Q by
    obtain ⟨r_, g_, a_, b_, c_⟩ := K (fun r_ g_ => r_ = .inl (some (Value.int (zi (bI ((0 ≤ y ∧ y < 31) ∧ bt (TK y) x))))) ∧ g_ = h) ⟨rfl, rfl⟩
    subst b_; subst c_; exact a_
  intro Q hQ
  obtain ⟨g0, g1, g2, g3, g4, gc, g5, g6, g7, gk, gl, gr, go⟩ := id hR
  refine xv (x_iload_n 1 d_X4_isTaken_0 rfl rfl) ?_
  refine v_if_lt 32 4 d_X4_isTaken_1 rfl rfl (by omega) (by omega) (fun k1 => ?_) (fun k1 => ?_)
  · refine xv (x_iconst 33 d_X4_isTaken_32 rfl) ?_
    refine xv_r (x_ireturn d_X4_isTaken_33 rfl rfl) ?_
    refine lq hQ ?_
    first | exact (bI_f (by omega)).symm | exact (bI_f (fun z => (bt_t (by omega) (by omega)).mp k25 z.2)).symm
  · refine xv (x_iload_n 5 d_X4_isTaken_4 rfl rfl) ?_
    refine xv (x_aload_n 6 d_X4_isTaken_5 rfl rfl) ?_
    refine xv (x_getfield 9 d_X4_isTaken_6 rfl f_4_22 (Nat.le_of_ble_eq_true rfl) (Nat.le_of_ble_eq_true rfl) (q_gf_of hP rfl)) ?_
    refine xv (x_arraylength 10 d_X4_isTaken_9 rfl (al_l hK)) ?_
    refine v_icmp_ge 32 13 d_X4_isTaken_10 rfl rfl (by omega) (by omega) (by omega) (by omega) (fun k10 => ?_) (fun k10 => ?_)
    · refine xv (x_iconst 33 d_X4_isTaken_32 rfl) ?_
      refine xv_r (x_ireturn d_X4_isTaken_33 rfl rfl) ?_
      refine lq hQ ?_
      first | exact (bI_f (by omega)).symm | exact (bI_f (fun z => (bt_t (by omega) (by omega)).mp k25 z.2)).symm
    · refine xv (x_aload_n 14 d_X4_isTaken_13 rfl rfl) ?_
      refine xv (x_getfield 17 d_X4_isTaken_14 rfl f_4_22 (Nat.le_of_ble_eq_true rfl) (Nat.le_of_ble_eq_true rfl) (q_gf_of hP rfl)) ?_
      refine xv (x_iload_n 18 d_X4_isTaken_17 rfl rfl) ?_
      refine xv (x_laload 19 d_X4_isTaken_18 rfl (al_g hK (by omega) (by omega) (by decide))) ?_
      refine xv (x_iload_n 20 d_X4_isTaken_19 rfl rfl) ?_
      refine xv (x_lushr 21 d_X4_isTaken_20 rfl) ?_
      show Xv E q_m_X4_isTaken 21 [Value.ref (P'), Value.int (zi x), Value.int (zi y)] [Value.long (lur (TK y) (zi x))] h Q
      refine xv (x_lconst 22 d_X4_isTaken_21 rfl) ?_
      show Xv E q_m_X4_isTaken 22 [Value.ref (P'), Value.int (zi x), Value.int (zi y)] [Value.long 1, Value.long (lur (TK y) (zi x))] h Q
      refine xv (x_land 23 d_X4_isTaken_22 rfl) ?_
      refine xv (x_lconst 24 d_X4_isTaken_23 rfl) ?_
      show Xv E q_m_X4_isTaken 24 [Value.ref (P'), Value.int (zi x), Value.int (zi y)] [Value.long 0, Value.long ((lur (TK y) (zi x)) &&& 1)] h Q
      refine xv (x_lcmp 25 d_X4_isTaken_24 rfl) ?_
      refine v_leq 32 28 d_X4_isTaken_25 rfl rfl (fun k25 => ?_) (fun k25 => ?_)
      · refine xv (x_iconst 33 d_X4_isTaken_32 rfl) ?_
        refine xv_r (x_ireturn d_X4_isTaken_33 rfl rfl) ?_
        refine lq hQ ?_
        first | exact (bI_f (by omega)).symm | exact (bI_f (fun z => (bt_t (by omega) (by omega)).mp k25 z.2)).symm
      · refine xv (x_iconst 29 d_X4_isTaken_28 rfl) ?_
        refine xv (x_goto 33 d_X4_isTaken_29 rfl) ?_
        refine xv_r (x_ireturn d_X4_isTaken_33 rfl rfl) ?_
        refine lq hQ ?_
        exact (bI_t ⟨by omega, Classical.not_not.mp (fun z => k25 ((bt_t (by omega) (by omega)).mpr z))⟩).symm
theorem S_X4_changesPlaces (hW : WH h w l p) (hR : RgC l) (hP : PLo h P' w ro go_ gt) (hro : isR l ro) {x y t : Int} (x0 : -2147483648 ≤ x) (x1 : x < 2147483648) (y0 : -2147483648 ≤ y) (y1 : y < 2147483648) (t0 : 1 ≤ t) (t1 : t < 1000) : q_cl E q_m_X4_changesPlaces [Value.ref (P'), Value.int (zi x), Value.int (zi y), Value.int (zi t)] h = some (.inl (some (Value.int (zi (bI (∃ r, isR l r ∧ r ≠ ro ∧ ahd l r (t - 1) = y ∧ ahd l r t = x))))), h) := by
  suffices K : ∀ Q : q_R → q_H → Prop, Q (.inl (some (Value.int (zi (bI (∃ r, isR l r ∧ r ≠ ro ∧ ahd l r (t - 1) = y ∧ ahd l r t = x)))))) h → Xv E q_m_X4_changesPlaces 0 [Value.ref (P'), Value.int (zi x), Value.int (zi y), Value.int (zi t), Value.null, Value.null] [] h Q by
    obtain ⟨r_, g_, a_, b_, c_⟩ := K (fun r_ g_ => r_ = .inl (some (Value.int (zi (bI (∃ r, isR l r ∧ r ≠ ro ∧ ahd l r (t - 1) = y ∧ ahd l r t = x))))) ∧ g_ = h) ⟨rfl, rfl⟩
    subst b_; subst c_; exact a_
  intro Q hQ
  obtain ⟨g0, g1, g2, g3, g4, gc, g5, g6, g7, gk, gl, gr, go⟩ := id hR
  refine xv (x_iconst 1 d_X4_changesPlaces_0 rfl) ?_
  refine xv (x_istore 3 d_X4_changesPlaces_1 rfl (Nat.le_of_ble_eq_true rfl)) ?_
  show Xv E q_m_X4_changesPlaces 3 [Value.ref (P'), Value.int (zi x), Value.int (zi y), Value.int (zi t), Value.int (zi 0), Value.null] [] h Q
  have L3 : ∀ (n_ : Nat) (i : Int) (x5 : Value), (0 ≤ i) → (i ≤ l 3) → (∀ r, 0 ≤ r → r < i → ¬ (r ≠ ro ∧ ahd l r (t - 1) = y ∧ ahd l r t = x)) → (l 3 - i).toNat = n_ → Xv E q_m_X4_changesPlaces 3 [Value.ref (P'), Value.int (zi x), Value.int (zi y), Value.int (zi t), Value.int (zi i), x5] [] h Q := by
    intro n_
    induction n_ using Nat.strongRecOn with
    | _ n_ ih3 =>
      intro i x5 k0 k1 hk em
      refine xv (x_aload_n 4 d_X4_changesPlaces_3 rfl rfl) ?_
      refine xv (x_getfield 7 d_X4_changesPlaces_4 rfl f_4_9 (Nat.le_of_ble_eq_true rfl) (Nat.le_of_ble_eq_true rfl) (q_gf_of hP rfl)) ?_
      refine xv (x_iload 9 d_X4_changesPlaces_7 rfl rfl) ?_
      refine xv (x_inv1 12 (as := [Value.int (zi i)]) d_X4_changesPlaces_9 rfl c_4_88 rfl (Nat.le_of_ble_eq_true rfl) (Nat.le_of_ble_eq_true rfl) (wh_o hW) (Nat.le_of_ble_eq_true rfl) (Nat.le_of_ble_eq_true rfl) rfl (S_X6_isRobot hW hR (by omega) (by omega))) ?_
      show Xv E q_m_X4_changesPlaces 12 [Value.ref (P'), Value.int (zi x), Value.int (zi y), Value.int (zi t), Value.int (zi i), x5] [Value.int (zi (bI (isR l i)))] h Q
      refine v_if_eq 73 15 d_X4_changesPlaces_12 rfl rfl (by have := bI_r (isR l i); omega) (by have := bI_r (isR l i); omega) (fun k12 => ?_) (fun k12 => ?_)
      · replace k12 := bI_0.mp k12
        refine xv (x_iconst 74 d_X4_changesPlaces_73 rfl) ?_
        refine xv_r (x_ireturn d_X4_changesPlaces_74 rfl rfl) ?_
        refine lq hQ ?_
        refine (bI_f ?_).symm
        rintro ⟨r, a1, a2, a3, a4⟩
        exact hk r a1.1 (by omega) ⟨a2, a3, a4⟩
      · replace k12 := bI_n0.mp k12
        refine xv (x_iload 17 d_X4_changesPlaces_15 rfl rfl) ?_
        refine xv (x_bipush 19 d_X4_changesPlaces_17 rfl rfl) ?_
        refine v_icmp_ge 73 22 d_X4_changesPlaces_19 rfl rfl (by omega) (by omega) (by omega) (by omega) (fun k19 => ?_) (fun k19 => ?_)
        · refine xv (x_iconst 74 d_X4_changesPlaces_73 rfl) ?_
          refine xv_r (x_ireturn d_X4_changesPlaces_74 rfl rfl) ?_
          refine lq hQ ?_
          refine (bI_f ?_).symm
          rintro ⟨r, a1, a2, a3, a4⟩
          exact hk r a1.1 (by omega) ⟨a2, a3, a4⟩
        · refine xv (x_aload_n 23 d_X4_changesPlaces_22 rfl rfl) ?_
          refine xv (x_getfield 26 d_X4_changesPlaces_23 rfl f_4_9 (Nat.le_of_ble_eq_true rfl) (Nat.le_of_ble_eq_true rfl) (q_gf_of hP rfl)) ?_
          refine xv (x_getfield 29 d_X4_changesPlaces_26 rfl f_4_43 (Nat.le_of_ble_eq_true rfl) (Nat.le_of_ble_eq_true rfl) (q_gf_of (wh_o hW) rfl)) ?_
          refine xv (x_iload 31 d_X4_changesPlaces_29 rfl rfl) ?_
          refine xv (x_aaload 32 d_X4_changesPlaces_31 rfl (wh_rs hW (by omega) (by omega))) ?_
          refine xv (x_astore 34 d_X4_changesPlaces_32 rfl (Nat.le_of_ble_eq_true rfl)) ?_
          show Xv E q_m_X4_changesPlaces 34 [Value.ref (P'), Value.int (zi x), Value.int (zi y), Value.int (zi t), Value.int (zi i), Value.ref (p i)] [] h Q
          refine xv (x_iload 36 d_X4_changesPlaces_34 rfl rfl) ?_
          refine xv (x_aload_n 37 d_X4_changesPlaces_36 rfl rfl) ?_
          refine xv (x_getfield 40 d_X4_changesPlaces_37 rfl f_4_49 (Nat.le_of_ble_eq_true rfl) (Nat.le_of_ble_eq_true rfl) (q_gf_of hP rfl)) ?_
          refine v_icmp_eq 67 43 d_X4_changesPlaces_40 rfl rfl (by omega) (by omega) (by omega) (by omega) (fun k40 => ?_) (fun k40 => ?_)
          · refine xv (x_iinc 70 d_X4_changesPlaces_67 rfl rfl) ?_
            show Xv E q_m_X4_changesPlaces 70 [Value.ref (P'), Value.int (zi x), Value.int (zi y), Value.int (zi t), Value.int (zi (i + 1)), Value.ref (p i)] [] h Q
            refine xv (x_goto 3 d_X4_changesPlaces_70 rfl) ?_
            refine ih3 _ (by omega) (i + 1) _ (by omega) (by omega) (fun r a b => ?_) rfl
            by_cases z : r = i
            · subst z; first | exact fun e => e.1 k40 | exact fun e => k52 e.2.1 | exact fun e => k62 e.2.2
            · exact hk r a (by omega)
          · refine xv (x_aload 45 d_X4_changesPlaces_43 rfl rfl) ?_
            refine xv (x_iload_n 46 d_X4_changesPlaces_45 rfl rfl) ?_
            refine xv (x_iconst 47 d_X4_changesPlaces_46 rfl) ?_
            refine xv (x_isub 48 d_X4_changesPlaces_47 rfl) ?_
            refine xv (x_inv1 51 (as := [Value.int (zi (t - 1))]) d_X4_changesPlaces_48 rfl c_4_104 rfl (Nat.le_of_ble_eq_true rfl) (Nat.le_of_ble_eq_true rfl) (wh_r hW (by omega) (by omega)).1 (Nat.le_of_ble_eq_true rfl) (Nat.le_of_ble_eq_true rfl) rfl (S_X5_cellAhead (wh_r (r := i) hW (by omega) (by omega)) (gr i (by omega) (by omega)) (by omega) (by omega))) ?_
            have q48 := ahf_r (t := t - 1) (gr i (by omega) (by omega)) (by omega)
            show Xv E q_m_X4_changesPlaces 51 [Value.ref (P'), Value.int (zi x), Value.int (zi y), Value.int (zi t), Value.int (zi i), Value.ref (p i)] [Value.int (zi (ahf (rb l i) (t - 1)))] h Q
            refine xv (x_iload_n 52 d_X4_changesPlaces_51 rfl rfl) ?_
            refine v_icmp_ne 67 55 d_X4_changesPlaces_52 rfl rfl (by omega) (by omega) (by omega) (by omega) (fun k52 => ?_) (fun k52 => ?_)
            · refine xv (x_iinc 70 d_X4_changesPlaces_67 rfl rfl) ?_
              show Xv E q_m_X4_changesPlaces 70 [Value.ref (P'), Value.int (zi x), Value.int (zi y), Value.int (zi t), Value.int (zi (i + 1)), Value.ref (p i)] [] h Q
              refine xv (x_goto 3 d_X4_changesPlaces_70 rfl) ?_
              refine ih3 _ (by omega) (i + 1) _ (by omega) (by omega) (fun r a b => ?_) rfl
              by_cases z : r = i
              · subst z; first | exact fun e => e.1 k40 | exact fun e => k52 e.2.1 | exact fun e => k62 e.2.2
              · exact hk r a (by omega)
            · refine xv (x_aload 57 d_X4_changesPlaces_55 rfl rfl) ?_
              refine xv (x_iload_n 58 d_X4_changesPlaces_57 rfl rfl) ?_
              refine xv (x_inv1 61 (as := [Value.int (zi t)]) d_X4_changesPlaces_58 rfl c_4_104 rfl (Nat.le_of_ble_eq_true rfl) (Nat.le_of_ble_eq_true rfl) (wh_r hW (by omega) (by omega)).1 (Nat.le_of_ble_eq_true rfl) (Nat.le_of_ble_eq_true rfl) rfl (S_X5_cellAhead (wh_r (r := i) hW (by omega) (by omega)) (gr i (by omega) (by omega)) (by omega) (by omega))) ?_
              have q58 := ahf_r (t := t) (gr i (by omega) (by omega)) (by omega)
              show Xv E q_m_X4_changesPlaces 61 [Value.ref (P'), Value.int (zi x), Value.int (zi y), Value.int (zi t), Value.int (zi i), Value.ref (p i)] [Value.int (zi (ahf (rb l i) t))] h Q
              refine xv (x_iload_n 62 d_X4_changesPlaces_61 rfl rfl) ?_
              refine v_icmp_ne 67 65 d_X4_changesPlaces_62 rfl rfl (by omega) (by omega) (by omega) (by omega) (fun k62 => ?_) (fun k62 => ?_)
              · refine xv (x_iinc 70 d_X4_changesPlaces_67 rfl rfl) ?_
                show Xv E q_m_X4_changesPlaces 70 [Value.ref (P'), Value.int (zi x), Value.int (zi y), Value.int (zi t), Value.int (zi (i + 1)), Value.ref (p i)] [] h Q
                refine xv (x_goto 3 d_X4_changesPlaces_70 rfl) ?_
                refine ih3 _ (by omega) (i + 1) _ (by omega) (by omega) (fun r a b => ?_) rfl
                by_cases z : r = i
                · subst z; first | exact fun e => e.1 k40 | exact fun e => k52 e.2.1 | exact fun e => k62 e.2.2
                · exact hk r a (by omega)
              · refine xv (x_iconst 66 d_X4_changesPlaces_65 rfl) ?_
                refine xv_r (x_ireturn d_X4_changesPlaces_66 rfl rfl) ?_
                refine lq hQ ?_
                exact (bI_t ⟨i, by omega, by omega, k52, k62⟩).symm
  exact L3 _ 0 _ (by omega) (by omega) (fun r a b => by omega) rfl
theorem mgo_cls {x y t : Int} (hro : isR l ro) (t0 : 1 ≤ t) (hy : isC l y) : (ent l y ∧ ¬ tkn l ro y t ∧ (x = y ∨ ¬ tkn l ro y (t - 1) ∨ ¬ ∃ r, isR l r ∧ r ≠ ro ∧ ahd l r (t - 1) = y ∧ ahd l r t = x)) ↔ mgo l ro x y (t - 1) := by
  have e : t - 1 + 1 = t := by omega
  constructor
  · rintro ⟨h1, h2, h3⟩
    refine ⟨h1, fun r a b => ?_⟩
    by_cases q : r = ro
    · exact .inl q
    · refine .inr ⟨?_, ?_⟩
      · rw [e]
        exact fun z => h2 ⟨r, ⟨a, b⟩, q, z⟩
      · rw [e]
        rintro ⟨z1, z2⟩
        rcases h3 with h3 | h3 | h3
        · subst h3
          exact h2 ⟨r, ⟨a, b⟩, q, z1⟩
        · exact h3 ⟨r, ⟨a, b⟩, q, z2⟩
        · exact h3 ⟨r, ⟨a, b⟩, q, z2, z1⟩
  · rintro ⟨h1, h2⟩
    refine ⟨h1, ?_, .inr (.inr ?_)⟩
    · rintro ⟨r, hr, q, z⟩
      rcases h2 r hr.1 hr.2 with k | ⟨k, _⟩
      · exact q k
      · rw [e] at k; exact k z
    · rintro ⟨r, hr, q, z1, z2⟩
      rcases h2 r hr.1 hr.2 with k | ⟨_, k⟩
      · exact q k
      · rw [e] at k; exact k ⟨z2, z1⟩
theorem tkk_all {c t : Int} (hT : TKk l ro (l 3) TK) (t0 : 0 ≤ t) (t1 : t < 31) (c0 : 0 ≤ c) (c1 : c < 64) : bt (TK t) c ↔ tkn l ro c t := by
  rw [hT t t0 t1 c c0 c1]
theorem S_X4_canStep (hW : WH h w l p) (hR : RgC l) (hP : PLo h P' w ro go_ gt) (hK : AL h (P' + 3) 31 TK) (hro : isR l ro) (hT : TKk l ro (l 3) TK) {x y t : Int} (x0 : -2147483648 ≤ x) (x1 : x < 2147483648) (y0 : -2147483648 ≤ y) (y1 : y < 2147483648) (t0 : 1 ≤ t) (t1 : t ≤ 30) : q_cl E q_m_X4_canStep [Value.ref (P'), Value.int (zi x), Value.int (zi y), Value.int (zi t)] h = some (.inl (some (Value.int (zi (bI (isC l y ∧ mgo l ro x y (t - 1)))))), h) := by
  suffices K : ∀ Q : q_R → q_H → Prop, Q (.inl (some (Value.int (zi (bI (isC l y ∧ mgo l ro x y (t - 1))))))) h → Xv E q_m_X4_canStep 0 [Value.ref (P'), Value.int (zi x), Value.int (zi y), Value.int (zi t)] [] h Q by
    obtain ⟨r_, g_, a_, b_, c_⟩ := K (fun r_ g_ => r_ = .inl (some (Value.int (zi (bI (isC l y ∧ mgo l ro x y (t - 1)))))) ∧ g_ = h) ⟨rfl, rfl⟩
    subst b_; subst c_; exact a_
  intro Q hQ
  obtain ⟨g0, g1, g2, g3, g4, gc, g5, g6, g7, gk, gl, gr, go⟩ := id hR
  refine xv (x_aload_n 1 d_X4_canStep_0 rfl rfl) ?_
  refine xv (x_getfield 4 d_X4_canStep_1 rfl f_4_9 (Nat.le_of_ble_eq_true rfl) (Nat.le_of_ble_eq_true rfl) (q_gf_of hP rfl)) ?_
  refine xv (x_iload_n 5 d_X4_canStep_4 rfl rfl) ?_
  refine xv (x_inv1 8 (as := [Value.int (zi y)]) d_X4_canStep_5 rfl c_4_91 rfl (Nat.le_of_ble_eq_true rfl) (Nat.le_of_ble_eq_true rfl) (wh_o hW) (Nat.le_of_ble_eq_true rfl) (Nat.le_of_ble_eq_true rfl) rfl (S_X6_canEnter hW hR (by omega) (by omega))) ?_
  show Xv E q_m_X4_canStep 8 [Value.ref (P'), Value.int (zi x), Value.int (zi y), Value.int (zi t)] [Value.int (zi (bI (isC l y ∧ ent l y)))] h Q
  refine v_if_eq 20 11 d_X4_canStep_8 rfl rfl (by have := bI_r (isC l y ∧ ent l y); omega) (by have := bI_r (isC l y ∧ ent l y); omega) (fun k8 => ?_) (fun k8 => ?_)
  · replace k8 := bI_0.mp k8
    refine xv (x_iconst 21 d_X4_canStep_20 rfl) ?_
    refine xv_r (x_ireturn d_X4_canStep_21 rfl rfl) ?_
    refine lq hQ ?_
    refine (bI_f fun z => ?_).symm
    have zz := (mgo_cls hro t0 z.1).mpr z.2
    first | exact k8 ⟨z.1, zz.1⟩ | exact zz.2.1 ((tkk_all hT (by omega) (by omega) (by omega) (by omega)).mp k17.2) | exact zz.2.2.elim (fun e => k24 e) (fun e => e.elim (fun u => u ((tkk_all hT (by omega) (by omega) (by omega) (by omega)).mp k35.2)) (fun u => u k45))
  · replace k8 := bI_n0.mp k8
    refine xv (x_aload_n 12 d_X4_canStep_11 rfl rfl) ?_
    refine xv (x_iload_n 13 d_X4_canStep_12 rfl rfl) ?_
    refine xv (x_iload_n 14 d_X4_canStep_13 rfl rfl) ?_
    refine xv (x_inv1 17 (as := [Value.int (zi y), Value.int (zi t)]) d_X4_canStep_14 rfl c_4_122 rfl (Nat.le_of_ble_eq_true rfl) (Nat.le_of_ble_eq_true rfl) hP (Nat.le_of_ble_eq_true rfl) (Nat.le_of_ble_eq_true rfl) rfl (S_X4_isTaken hW hR hP hK (by omega) (by omega) (by omega) (by omega))) ?_
    show Xv E q_m_X4_canStep 17 [Value.ref (P'), Value.int (zi x), Value.int (zi y), Value.int (zi t)] [Value.int (zi (bI ((0 ≤ t ∧ t < 31) ∧ bt (TK t) y)))] h Q
    refine v_if_eq 22 20 d_X4_canStep_17 rfl rfl (by have := bI_r ((0 ≤ t ∧ t < 31) ∧ bt (TK t) y); omega) (by have := bI_r ((0 ≤ t ∧ t < 31) ∧ bt (TK t) y); omega) (fun k17 => ?_) (fun k17 => ?_)
    · replace k17 := bI_0.mp k17
      refine xv (x_iload_n 23 d_X4_canStep_22 rfl rfl) ?_
      refine xv (x_iload_n 24 d_X4_canStep_23 rfl rfl) ?_
      refine v_icmp_eq 48 27 d_X4_canStep_24 rfl rfl (by omega) (by omega) (by omega) (by omega) (fun k24 => ?_) (fun k24 => ?_)
      · refine xv (x_iconst 49 d_X4_canStep_48 rfl) ?_
        refine xv (x_goto 53 d_X4_canStep_49 rfl) ?_
        refine xv_r (x_ireturn d_X4_canStep_53 rfl rfl) ?_
        refine lq hQ ?_
        refine (bI_t ⟨by omega, (mgo_cls hro t0 k8.1).mp ⟨k8.2, fun z => k17 ⟨by omega, (tkk_all hT (by omega) (by omega) (by omega) (by omega)).mpr z⟩, ?_⟩⟩).symm
        first | exact .inl k24 | exact .inr (.inl fun z => k35 ⟨by omega, (tkk_all hT (by omega) (by omega) (by omega) (by omega)).mpr z⟩) | exact .inr (.inr k45)
      · refine xv (x_aload_n 28 d_X4_canStep_27 rfl rfl) ?_
        refine xv (x_iload_n 29 d_X4_canStep_28 rfl rfl) ?_
        refine xv (x_iload_n 30 d_X4_canStep_29 rfl rfl) ?_
        refine xv (x_iconst 31 d_X4_canStep_30 rfl) ?_
        refine xv (x_isub 32 d_X4_canStep_31 rfl) ?_
        refine xv (x_inv1 35 (as := [Value.int (zi y), Value.int (zi (t - 1))]) d_X4_canStep_32 rfl c_4_122 rfl (Nat.le_of_ble_eq_true rfl) (Nat.le_of_ble_eq_true rfl) hP (Nat.le_of_ble_eq_true rfl) (Nat.le_of_ble_eq_true rfl) rfl (S_X4_isTaken hW hR hP hK (by omega) (by omega) (by omega) (by omega))) ?_
        show Xv E q_m_X4_canStep 35 [Value.ref (P'), Value.int (zi x), Value.int (zi y), Value.int (zi t)] [Value.int (zi (bI ((0 ≤ (t - 1) ∧ (t - 1) < 31) ∧ bt (TK (t - 1)) y)))] h Q
        refine v_if_eq 48 38 d_X4_canStep_35 rfl rfl (by have := bI_r ((0 ≤ (t - 1) ∧ (t - 1) < 31) ∧ bt (TK (t - 1)) y); omega) (by have := bI_r ((0 ≤ (t - 1) ∧ (t - 1) < 31) ∧ bt (TK (t - 1)) y); omega) (fun k35 => ?_) (fun k35 => ?_)
        · replace k35 := bI_0.mp k35
          refine xv (x_iconst 49 d_X4_canStep_48 rfl) ?_
          refine xv (x_goto 53 d_X4_canStep_49 rfl) ?_
          refine xv_r (x_ireturn d_X4_canStep_53 rfl rfl) ?_
          refine lq hQ ?_
          refine (bI_t ⟨by omega, (mgo_cls hro t0 k8.1).mp ⟨k8.2, fun z => k17 ⟨by omega, (tkk_all hT (by omega) (by omega) (by omega) (by omega)).mpr z⟩, ?_⟩⟩).symm
          first | exact .inl k24 | exact .inr (.inl fun z => k35 ⟨by omega, (tkk_all hT (by omega) (by omega) (by omega) (by omega)).mpr z⟩) | exact .inr (.inr k45)
        · replace k35 := bI_n0.mp k35
          refine xv (x_aload_n 39 d_X4_canStep_38 rfl rfl) ?_
          refine xv (x_iload_n 40 d_X4_canStep_39 rfl rfl) ?_
          refine xv (x_iload_n 41 d_X4_canStep_40 rfl rfl) ?_
          refine xv (x_iload_n 42 d_X4_canStep_41 rfl rfl) ?_
          refine xv (x_inv1 45 (as := [Value.int (zi x), Value.int (zi y), Value.int (zi t)]) d_X4_canStep_42 rfl c_4_125 rfl (Nat.le_of_ble_eq_true rfl) (Nat.le_of_ble_eq_true rfl) hP (Nat.le_of_ble_eq_true rfl) (Nat.le_of_ble_eq_true rfl) rfl (S_X4_changesPlaces hW hR hP hro (by omega) (by omega) (by omega) (by omega) (by omega) (by omega))) ?_
          show Xv E q_m_X4_canStep 45 [Value.ref (P'), Value.int (zi x), Value.int (zi y), Value.int (zi t)] [Value.int (zi (bI (∃ r, isR l r ∧ r ≠ ro ∧ ahd l r (t - 1) = y ∧ ahd l r t = x)))] h Q
          refine v_if_ne 52 48 d_X4_canStep_45 rfl rfl (by have := bI_r (∃ r, isR l r ∧ r ≠ ro ∧ ahd l r (t - 1) = y ∧ ahd l r t = x); omega) (by have := bI_r (∃ r, isR l r ∧ r ≠ ro ∧ ahd l r (t - 1) = y ∧ ahd l r t = x); omega) (fun k45 => ?_) (fun k45 => ?_)
          · replace k45 := bI_n0.mp k45
            refine xv (x_iconst 53 d_X4_canStep_52 rfl) ?_
            refine xv_r (x_ireturn d_X4_canStep_53 rfl rfl) ?_
            refine lq hQ ?_
            refine (bI_f fun z => ?_).symm
            have zz := (mgo_cls hro t0 z.1).mpr z.2
            first | exact k8 ⟨z.1, zz.1⟩ | exact zz.2.1 ((tkk_all hT (by omega) (by omega) (by omega) (by omega)).mp k17.2) | exact zz.2.2.elim (fun e => k24 e) (fun e => e.elim (fun u => u ((tkk_all hT (by omega) (by omega) (by omega) (by omega)).mp k35.2)) (fun u => u k45))
          · replace k45 := bI_0.mp k45
            refine xv (x_iconst 49 d_X4_canStep_48 rfl) ?_
            refine xv (x_goto 53 d_X4_canStep_49 rfl) ?_
            refine xv_r (x_ireturn d_X4_canStep_53 rfl rfl) ?_
            refine lq hQ ?_
            refine (bI_t ⟨by omega, (mgo_cls hro t0 k8.1).mp ⟨k8.2, fun z => k17 ⟨by omega, (tkk_all hT (by omega) (by omega) (by omega) (by omega)).mpr z⟩, ?_⟩⟩).symm
            first | exact .inl k24 | exact .inr (.inl fun z => k35 ⟨by omega, (tkk_all hT (by omega) (by omega) (by omega) (by omega)).mpr z⟩) | exact .inr (.inr k45)
    · replace k17 := bI_n0.mp k17
      refine xv (x_iconst 21 d_X4_canStep_20 rfl) ?_
      refine xv_r (x_ireturn d_X4_canStep_21 rfl rfl) ?_
      refine lq hQ ?_
      refine (bI_f fun z => ?_).symm
      have zz := (mgo_cls hro t0 z.1).mpr z.2
      first | exact k8 ⟨z.1, zz.1⟩ | exact zz.2.1 ((tkk_all hT (by omega) (by omega) (by omega) (by omega)).mp k17.2) | exact zz.2.2.elim (fun e => k24 e) (fun e => e.elim (fun u => u ((tkk_all hT (by omega) (by omega) (by omega) (by omega)).mp k35.2)) (fun u => u k45))
end CP
