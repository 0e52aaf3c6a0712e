/-! the reference: layout, the walk (printed by program) -/
section RB7
variable {E : q_E} {h : q_H} {am N : Nat} {M M2 : q_Im} {l F f q : Int → Int} {r g T t k w v c e d a b s n x y R C : Int}
/-- the row at first: settings stay -/
def zl (l : Int → Int) (k : Int) : Int → Int := fun i => if 0 ≤ i ∧ i < k ∧ ¬ (5 ≤ i ∧ i ≤ 7) then 0 else l i
theorem zl_0 : zl l 0 = l := funext fun i => if_neg (by omega)
theorem zl_s (hk : 0 ≤ k) : u1 (zl l k) k (if 5 ≤ k ∧ k ≤ 7 then zl l k k else 0) = zl l (k + 1) := by
  funext i
  by_cases z : i = k
  · rw [z, u1_eq]
    by_cases y : 5 ≤ k ∧ k ≤ 7
    · rw [if_pos y]
      show (if 0 ≤ k ∧ k < k ∧ ¬ (5 ≤ k ∧ k ≤ 7) then 0 else l k) = if 0 ≤ k ∧ k < k + 1 ∧ ¬ (5 ≤ k ∧ k ≤ 7) then 0 else l k
      rw [if_neg (by omega), if_neg (by omega)]
    · rw [if_neg y]
      exact (if_pos (by omega)).symm
  · rw [u1_ne z]
    show (if 0 ≤ i ∧ i < k ∧ ¬ (5 ≤ i ∧ i ≤ 7) then 0 else l i) = if 0 ≤ i ∧ i < k + 1 ∧ ¬ (5 ≤ i ∧ i ≤ 7) then 0 else l i
    by_cases y : 0 ≤ i ∧ i < k ∧ ¬ (5 ≤ i ∧ i ≤ 7)
    · rw [if_pos y, if_pos (by omega)]
    · rw [if_neg y, if_neg (by omega)]
/-- the cells of a text -/
def ryL (q : Int → Int) : Nat → Int → Int → (Int → Int) → (Int → Int)
  | 0, _, _, l => l
  | m + 1, k, c, l => if q k = 47 then ryL q m (k + 1) c l else ryL q m (k + 1) (c + 1) (u1 l (8 + c) (kd (q k)))
def ryN (q : Int → Int) : Nat → Int → Int → Int
  | 0, _, c => c
  | m + 1, k, c => if q k = 47 then ryN q m (k + 1) c else ryN q m (k + 1) (c + 1)
theorem ry_b (hk : k < n) : ryL q (n - k).toNat k c l = (if q k = 47 then ryL q (n - (k + 1)).toNat (k + 1) c l else ryL q (n - (k + 1)).toNat (k + 1) (c + 1) (u1 l (8 + c) (kd (q k)))) ∧ ryN q (n - k).toNat k c = (if q k = 47 then ryN q (n - (k + 1)).toNat (k + 1) c else ryN q (n - (k + 1)).toNat (k + 1) (c + 1)) := by
  rw [show (n - k).toNat = (n - (k + 1)).toNat + 1 by omega]; exact ⟨rfl, rfl⟩
theorem ry_e (hk : n ≤ k) : ryL q (n - k).toNat k c l = l ∧ ryN q (n - k).toNat k c = c := by
  rw [show (n - k).toNat = 0 by omega]; exact ⟨rfl, rfl⟩
def layO (M : q_Im) (t : Int) : q_Im := uM (uM (uM (uM (uM M 0 18 (wpW (M 11) (M 0 16)).2.1) 0 19 (wpW (M 11) (M 0 16)).2.2) 0 17 (wpW (M 11) (M 0 16)).1) 0 16 0) 0 5 t
def rLay (l q : Int → Int) (n R C : Int) : Int → Int := ryL q n.toNat 0 0 (u1 (u1 (zl l 400) 0 R) 1 C)
def layM (M : q_Im) : Int × q_Im := if 0 ≤ (wpW (M 11) (M 0 16)).1 then (0, layO M 1) else (ryN (M 11) (M 0 16).toNat 0 0, uA (mch (layO M 0)) 1 (rLay (M 1) (M 11) (M 0 16) (wpW (M 11) (M 0 16)).2.1 (wpW (M 11) (M 0 16)).2.2))
theorem wpl_r (hn : 0 ≤ n ∧ n ≤ 60) : ∀ (m : Nat) (k x R C : Int), 0 ≤ k → k + m = n → (1 ≤ R ∧ R ≤ 6) → (0 ≤ x ∧ x ≤ k) → (0 ≤ C ∧ C ≤ 60) → (-1 ≤ (wpl q n m k x R C).1 ∧ (wpl q n m k x R C).1 ≤ 60) ∧ (1 ≤ (wpl q n m k x R C).2.1 ∧ (wpl q n m k x R C).2.1 ≤ 6) ∧ (0 ≤ (wpl q n m k x R C).2.2 ∧ (wpl q n m k x R C).2.2 ≤ 60) := by
  intro m
  induction m with
  | zero =>
    intro k x R C h0 h1 h2 h3 h4
    show (-1 ≤ (if x < 2 ∨ x < (if R = 1 then x else C) then n else -1) ∧ (if x < 2 ∨ x < (if R = 1 then x else C) then n else -1) ≤ 60) ∧ (1 ≤ R ∧ R ≤ 6) ∧ (0 ≤ (if R = 1 then x else C) ∧ (if R = 1 then x else C) ≤ 60)
    refine ⟨?_, h2, ?_⟩
    · split <;> omega
    · split <;> omega
  | succ m ih =>
    intro k x R C h0 h1 h2 h3 h4
    unfold wpl
    generalize (if R = 1 then (8 : Int) else C) = B8
    split
    · split
      · exact ⟨⟨by show -1 ≤ k; omega, by show k ≤ 60; omega⟩, h2, h4⟩
      · exact ih _ _ _ _ (by omega) (by omega) h2 (by omega) h4
    · split
      · exact ih _ _ _ _ (by omega) (by omega) (by omega) (by omega) (by split <;> omega)
      · exact ⟨⟨by show -1 ≤ k; omega, by show k ≤ 60; omega⟩, h2, h4⟩
theorem wpW_r (hn : 0 ≤ n ∧ n ≤ 60) : (-1 ≤ (wpW q n).1 ∧ (wpW q n).1 ≤ 60) ∧ (1 ≤ (wpW q n).2.1 ∧ (wpW q n).2.1 ≤ 6) ∧ (0 ≤ (wpW q n).2.2 ∧ (wpW q n).2.2 ≤ 60) := wpl_r hn n.toNat 0 0 1 0 (by omega) (by omega) (by omega) (by omega) (by omega)
theorem S_X8_layout (hE : q_EN E N) (hLo : Lo h N) (hN : N ≤ am) (hR : Rg (M 1)) (hc : 0 ≤ M 0 4 ∧ M 0 4 ≤ 8) (hL : 0 ≤ M 0 16 ∧ M 0 16 ≤ 60) (hI : ∀ k, 0 ≤ k → k < 60 → 0 ≤ M 11 k ∧ M 11 k < 65536)  : ∃ r_ h', q_cl E q_m_X8_layout [Value.ref am] (q_mw h am M) = some (r_, h') ∧ (r_ = .inl (some (.int (zi (layM M).1))) ∧ h' = q_mw h am (layM M).2) := by
  suffices K : ∀ Q : q_R → q_H → Prop, (∀ r_ h', (r_ = .inl (some (.int (zi (layM M).1))) ∧ h' = q_mw h am (layM M).2) → Q r_ h') → Xv E q_m_X8_layout 0 [Value.ref am, Value.null, Value.null, Value.null] [] (q_mw h am M) Q from K _ fun _ _ p => p
  intro Q hQ
  have hR0 := hR
  obtain ⟨hr, g0, g1, g3, g4, gc, g5, g6, g7, gk, gl, gr, go⟩ := hR0
  obtain ⟨_, _, _, _, _, _, sa, ba, ⟨ls, lb⟩, e6, e7, eb⟩ := id hE
  refine xv (x_aload_n 1 d_X8_layout_0 rfl rfl) ?_
  refine xv (x_aload_n 2 d_X8_layout_1 rfl rfl) ?_
  obtain ⟨r2, h2, e2, z2, y2⟩ := S_X8_wrongPlace (E := E) (h := h) (am := am) (M := M) hE hLo hN hL hI
  subst z2
  subst y2
  refine xv (x_inv1 5 (as := []) d_X8_layout_2 rfl c_8_204 rfl (Nat.le_of_ble_eq_true rfl) (Nat.le_of_ble_eq_true rfl) m_o (Nat.le_of_ble_eq_true rfl) (Nat.le_of_ble_eq_true rfl) rfl e2) ?_
  have qw := @wpW_r (M 11) (M 0 16) hL
  show Xv E q_m_X8_layout 5 [Value.ref am, Value.null, Value.null, Value.null] [Value.int (zi ((wpW (M 11) (M 0 16)).1)), Value.ref am] (q_mw h am (uM (uM M 0 18 ((wpW (M 11) (M 0 16)).2.1)) 0 19 ((wpW (M 11) (M 0 16)).2.2))) Q
  refine xv (x_putfield 8 d_X8_layout_5 rfl f_8_45 (Nat.le_of_ble_eq_true rfl) m_pf17 rfl rfl (fun e => absurd e (by decide))) ?_
  show Xv E q_m_X8_layout 8 [Value.ref am, Value.null, Value.null, Value.null] [] (q_mw h am (uM (uM (uM M 0 18 ((wpW (M 11) (M 0 16)).2.1)) 0 19 ((wpW (M 11) (M 0 16)).2.2)) 0 17 ((wpW (M 11) (M 0 16)).1))) Q
  refine xv (x_aload_n 9 d_X8_layout_8 rfl rfl) ?_
  refine xv (x_getfield 12 d_X8_layout_9 rfl f_8_192 (Nat.le_of_ble_eq_true rfl) (Nat.le_of_ble_eq_true rfl) ((q_gf_of (m_o (h := h) (am := am) (M := (uM (uM (uM M 0 18 ((wpW (M 11) (M 0 16)).2.1)) 0 19 ((wpW (M 11) (M 0 16)).2.2)) 0 17 ((wpW (M 11) (M 0 16)).1)))) rfl : q_gf (q_mw h am (uM (uM (uM M 0 18 ((wpW (M 11) (M 0 16)).2.1)) 0 19 ((wpW (M 11) (M 0 16)).2.2)) 0 17 ((wpW (M 11) (M 0 16)).1))) am 8 16 = some (Value.int (zi (M 0 16)))))) ?_
  refine xv (x_istore_n 13 d_X8_layout_12 rfl (Nat.le_of_ble_eq_true rfl)) ?_
  show Xv E q_m_X8_layout 13 [Value.ref am, Value.int (zi (M 0 16)), Value.null, Value.null] [] (q_mw h am (uM (uM (uM M 0 18 ((wpW (M 11) (M 0 16)).2.1)) 0 19 ((wpW (M 11) (M 0 16)).2.2)) 0 17 ((wpW (M 11) (M 0 16)).1))) Q
  refine xv (x_aload_n 14 d_X8_layout_13 rfl rfl) ?_
  refine xv (x_iconst 15 d_X8_layout_14 rfl) ?_
  refine xv (x_putfield 18 d_X8_layout_15 rfl f_8_192 (Nat.le_of_ble_eq_true rfl) m_pf16 rfl rfl (fun e => absurd e (by decide))) ?_
  show Xv E q_m_X8_layout 18 [Value.ref am, Value.int (zi (M 0 16)), Value.null, Value.null] [] (q_mw h am (uM (uM (uM (uM M 0 18 ((wpW (M 11) (M 0 16)).2.1)) 0 19 ((wpW (M 11) (M 0 16)).2.2)) 0 17 ((wpW (M 11) (M 0 16)).1)) 0 16 0)) Q
  refine xv (x_aload_n 19 d_X8_layout_18 rfl rfl) ?_
  refine xv (x_aload_n 20 d_X8_layout_19 rfl rfl) ?_
  refine xv (x_getfield 23 d_X8_layout_20 rfl f_8_45 (Nat.le_of_ble_eq_true rfl) (Nat.le_of_ble_eq_true rfl) ((q_gf_of (m_o (h := h) (am := am) (M := (uM (uM (uM (uM M 0 18 ((wpW (M 11) (M 0 16)).2.1)) 0 19 ((wpW (M 11) (M 0 16)).2.2)) 0 17 ((wpW (M 11) (M 0 16)).1)) 0 16 0))) rfl : q_gf (q_mw h am (uM (uM (uM (uM M 0 18 ((wpW (M 11) (M 0 16)).2.1)) 0 19 ((wpW (M 11) (M 0 16)).2.2)) 0 17 ((wpW (M 11) (M 0 16)).1)) 0 16 0)) am 8 17 = some (Value.int (zi ((wpW (M 11) (M 0 16)).1)))))) ?_
  refine v_if_ge 30 26 d_X8_layout_23 rfl rfl (by omega) (by omega) (fun k23 => ?_) (fun k23 => ?_)
  · refine xv (x_iconst 31 d_X8_layout_30 rfl) ?_
    refine xv (x_putfield 34 d_X8_layout_31 rfl f_8_49 (Nat.le_of_ble_eq_true rfl) m_pf5 rfl rfl (fun e => absurd e (by decide))) ?_
    show Xv E q_m_X8_layout 34 [Value.ref am, Value.int (zi (M 0 16)), Value.null, Value.null] [] (q_mw h am (uM (uM (uM (uM (uM M 0 18 ((wpW (M 11) (M 0 16)).2.1)) 0 19 ((wpW (M 11) (M 0 16)).2.2)) 0 17 ((wpW (M 11) (M 0 16)).1)) 0 16 0) 0 5 1)) Q
    refine xv (x_aload_n 35 d_X8_layout_34 rfl rfl) ?_
    refine xv (x_getfield 38 d_X8_layout_35 rfl f_8_49 (Nat.le_of_ble_eq_true rfl) (Nat.le_of_ble_eq_true rfl) ((q_gf_of (m_o (h := h) (am := am) (M := (uM (uM (uM (uM (uM M 0 18 ((wpW (M 11) (M 0 16)).2.1)) 0 19 ((wpW (M 11) (M 0 16)).2.2)) 0 17 ((wpW (M 11) (M 0 16)).1)) 0 16 0) 0 5 1))) rfl : q_gf (q_mw h am (uM (uM (uM (uM (uM M 0 18 ((wpW (M 11) (M 0 16)).2.1)) 0 19 ((wpW (M 11) (M 0 16)).2.2)) 0 17 ((wpW (M 11) (M 0 16)).1)) 0 16 0) 0 5 1)) am 8 5 = some (Value.int (zi 1))))) ?_
    refine v_if_le 43 41 d_X8_layout_38 rfl rfl (by omega) (by omega) (fun k38 => ?_) (fun k38 => ?_)
    · omega
    · refine xv (x_iconst 42 d_X8_layout_41 rfl) ?_
      refine xv_r (x_ireturn d_X8_layout_42 rfl rfl) ?_
      have er : layM M = (0, layO M 1) := if_pos (by omega)
      refine hQ _ _ ⟨by rw [er], ?_⟩
      rw [er]
      rfl
  · refine xv (x_iconst 27 d_X8_layout_26 rfl) ?_
    refine xv (x_goto 31 d_X8_layout_27 rfl) ?_
    refine xv (x_putfield 34 d_X8_layout_31 rfl f_8_49 (Nat.le_of_ble_eq_true rfl) m_pf5 rfl rfl (fun e => absurd e (by decide))) ?_
    show Xv E q_m_X8_layout 34 [Value.ref am, Value.int (zi (M 0 16)), Value.null, Value.null] [] (q_mw h am (uM (uM (uM (uM (uM M 0 18 ((wpW (M 11) (M 0 16)).2.1)) 0 19 ((wpW (M 11) (M 0 16)).2.2)) 0 17 ((wpW (M 11) (M 0 16)).1)) 0 16 0) 0 5 0)) Q
    refine xv (x_aload_n 35 d_X8_layout_34 rfl rfl) ?_
    refine xv (x_getfield 38 d_X8_layout_35 rfl f_8_49 (Nat.le_of_ble_eq_true rfl) (Nat.le_of_ble_eq_true rfl) ((q_gf_of (m_o (h := h) (am := am) (M := (uM (uM (uM (uM (uM M 0 18 ((wpW (M 11) (M 0 16)).2.1)) 0 19 ((wpW (M 11) (M 0 16)).2.2)) 0 17 ((wpW (M 11) (M 0 16)).1)) 0 16 0) 0 5 0))) rfl : q_gf (q_mw h am (uM (uM (uM (uM (uM M 0 18 ((wpW (M 11) (M 0 16)).2.1)) 0 19 ((wpW (M 11) (M 0 16)).2.2)) 0 17 ((wpW (M 11) (M 0 16)).1)) 0 16 0) 0 5 0)) am 8 5 = some (Value.int (zi 0))))) ?_
    refine v_if_le 43 41 d_X8_layout_38 rfl rfl (by omega) (by omega) (fun k38 => ?_) (fun k38 => ?_)
    · refine xv (x_aload_n 44 d_X8_layout_43 rfl rfl) ?_
      obtain ⟨r44, h44, e44, z44, y44⟩ := S_X8_change (E := E) (h := h) (am := am) (M := (uM (uM (uM (uM (uM M 0 18 ((wpW (M 11) (M 0 16)).2.1)) 0 19 ((wpW (M 11) (M 0 16)).2.2)) 0 17 ((wpW (M 11) (M 0 16)).1)) 0 16 0) 0 5 0)) hc
      subst z44
      subst y44
      refine xv (x_inv0 47 (as := []) d_X8_layout_44 rfl c_8_100 rfl (Nat.le_of_ble_eq_true rfl) (Nat.le_of_ble_eq_true rfl) m_o (Nat.le_of_ble_eq_true rfl) (Nat.le_of_ble_eq_true rfl) rfl e44) ?_
      generalize hM2 : mch (uM (uM (uM (uM (uM M 0 18 ((wpW (M 11) (M 0 16)).2.1)) 0 19 ((wpW (M 11) (M 0 16)).2.2)) 0 17 ((wpW (M 11) (M 0 16)).1)) 0 16 0) 0 5 0) = M2
      have e2 : M2 1 = M 1 := by rw [← hM2]; exact mch_1
      have e11 : M2 11 = M 11 := by rw [← hM2]; exact mch_s (by decide) (by decide)
      have e18 : M2 0 18 = (wpW (M 11) (M 0 16)).2.1 := by rw [← hM2, mch_0 (by decide)]; rfl
      have e19 : M2 0 19 = (wpW (M 11) (M 0 16)).2.2 := by rw [← hM2, mch_0 (by decide)]; rfl
      have eM : M2 = uA M2 1 (zl (M 1) 0) := by rw [zl_0, ← e2, uA_self]
      rw [eM]
      show Xv E q_m_X8_layout 47 [Value.ref am, Value.int (zi (M 0 16)), Value.null, Value.null] [] (q_mw h am (uA M2 1 (zl (M 1) 0))) Q
      refine xv (x_iconst 48 d_X8_layout_47 rfl) ?_
      refine xv (x_istore_n 49 d_X8_layout_48 rfl (Nat.le_of_ble_eq_true rfl)) ?_
      show Xv E q_m_X8_layout 49 [Value.ref am, Value.int (zi (M 0 16)), Value.int (zi 0), Value.null] [] (q_mw h am (uA M2 1 (zl (M 1) 0))) Q
      have L49 : ∀ (n_ : Nat) (k : Int), (0 ≤ k) → (k ≤ 400) → (400 - k).toNat = n_ → Xv E q_m_X8_layout 49 [Value.ref am, Value.int (zi (M 0 16)), Value.int (zi k), Value.null] [] (q_mw h am (uA M2 1 (zl (M 1) k))) Q := by
        intro n_
        induction n_ using Nat.strongRecOn with
        | _ n_ ih49 =>
          intro k k0 k1 em
          refine xv (x_iload_n 50 d_X8_layout_49 rfl rfl) ?_
          refine xv (x_sipush 53 d_X8_layout_50 rfl rfl) ?_
          refine v_icmp_ge 88 56 d_X8_layout_53 rfl rfl (by omega) (by omega) (by omega) (by omega) (fun k53 => ?_) (fun k53 => ?_)
          · refine xv (x_aload_n 89 d_X8_layout_88 rfl rfl) ?_
            refine xv (x_getfield 92 d_X8_layout_89 rfl f_8_9 (Nat.le_of_ble_eq_true rfl) (Nat.le_of_ble_eq_true rfl) (q_gf_of m_o rfl)) ?_
            refine xv (x_iconst 93 d_X8_layout_92 rfl) ?_
            refine xv (x_aload_n 94 d_X8_layout_93 rfl rfl) ?_
            refine xv (x_getfield 97 d_X8_layout_94 rfl f_8_195 (Nat.le_of_ble_eq_true rfl) (Nat.le_of_ble_eq_true rfl) ((q_gf_of (m_o (h := h) (am := am) (M := (uA M2 1 (zl (M 1) k)))) rfl : q_gf (q_mw h am (uA M2 1 (zl (M 1) k))) am 8 18 = some (Value.int (zi (M2 0 18)))).trans (congrArg (fun z => some (Value.int (zi z))) e18))) ?_
            refine xv (x_iastore 98 d_X8_layout_97 rfl (m_s1 (by omega) (by omega))) ?_
            show Xv E q_m_X8_layout 98 [Value.ref am, Value.int (zi (M 0 16)), Value.int (zi k), Value.null] [] (q_mw h am (uM (uA M2 1 (zl (M 1) k)) 1 0 ((wpW (M 11) (M 0 16)).2.1))) Q
            refine xv (x_aload_n 99 d_X8_layout_98 rfl rfl) ?_
            refine xv (x_getfield 102 d_X8_layout_99 rfl f_8_9 (Nat.le_of_ble_eq_true rfl) (Nat.le_of_ble_eq_true rfl) (q_gf_of m_o rfl)) ?_
            refine xv (x_iconst 103 d_X8_layout_102 rfl) ?_
            refine xv (x_aload_n 104 d_X8_layout_103 rfl rfl) ?_
            refine xv (x_getfield 107 d_X8_layout_104 rfl f_8_198 (Nat.le_of_ble_eq_true rfl) (Nat.le_of_ble_eq_true rfl) ((q_gf_of (m_o (h := h) (am := am) (M := (uM (uA M2 1 (zl (M 1) k)) 1 0 ((wpW (M 11) (M 0 16)).2.1)))) rfl : q_gf (q_mw h am (uM (uA M2 1 (zl (M 1) k)) 1 0 ((wpW (M 11) (M 0 16)).2.1))) am 8 19 = some (Value.int (zi (M2 0 19)))).trans (congrArg (fun z => some (Value.int (zi z))) e19))) ?_
            refine xv (x_iastore 108 d_X8_layout_107 rfl (m_s1 (by omega) (by omega))) ?_
            show Xv E q_m_X8_layout 108 [Value.ref am, Value.int (zi (M 0 16)), Value.int (zi k), Value.null] [] (q_mw h am (uM (uM (uA M2 1 (zl (M 1) k)) 1 0 ((wpW (M 11) (M 0 16)).2.1)) 1 1 ((wpW (M 11) (M 0 16)).2.2))) Q
            refine xv (x_iconst 109 d_X8_layout_108 rfl) ?_
            refine xv (x_istore_n 110 d_X8_layout_109 rfl (Nat.le_of_ble_eq_true rfl)) ?_
            show Xv E q_m_X8_layout 110 [Value.ref am, Value.int (zi (M 0 16)), Value.int (zi 0), Value.null] [] (q_mw h am (uM (uM (uA M2 1 (zl (M 1) k)) 1 0 ((wpW (M 11) (M 0 16)).2.1)) 1 1 ((wpW (M 11) (M 0 16)).2.2))) Q
            refine xv (x_iconst 111 d_X8_layout_110 rfl) ?_
            refine xv (x_istore_n 112 d_X8_layout_111 rfl (Nat.le_of_ble_eq_true rfl)) ?_
            show Xv E q_m_X8_layout 112 [Value.ref am, Value.int (zi (M 0 16)), Value.int (zi 0), Value.int (zi 0)] [] (q_mw h am (uM (uM (uA M2 1 (zl (M 1) k)) 1 0 ((wpW (M 11) (M 0 16)).2.1)) 1 1 ((wpW (M 11) (M 0 16)).2.2))) Q
            have L112 : ∀ (n_ : Nat) (c : Int) (k : Int) (L_ : Int → Int), (0 ≤ k) → (k ≤ M 0 16) → (0 ≤ c ∧ c ≤ k) → (rLay (M 1) (M 11) (M 0 16) (wpW (M 11) (M 0 16)).2.1 (wpW (M 11) (M 0 16)).2.2 = ryL (M 11) (M 0 16 - k).toNat k c L_) → (ryN (M 11) (M 0 16).toNat 0 0 = ryN (M 11) (M 0 16 - k).toNat k c) → (M 0 16 - k).toNat = n_ → Xv E q_m_X8_layout 112 [Value.ref am, Value.int (zi (M 0 16)), Value.int (zi c), Value.int (zi k)] [] (q_mw h am (uA M2 1 L_)) Q := by
              intro n_
              induction n_ using Nat.strongRecOn with
              | _ n_ ih112 =>
                intro c k L_ k0 k1 c0 hv hw em
                refine xv (x_iload_n 113 d_X8_layout_112 rfl rfl) ?_
                refine xv (x_iload_n 114 d_X8_layout_113 rfl rfl) ?_
                refine v_icmp_ge 157 117 d_X8_layout_114 rfl rfl (by omega) (by omega) (by omega) (by omega) (fun k114 => ?_) (fun k114 => ?_)
                · refine xv (x_iload_n 158 d_X8_layout_157 rfl rfl) ?_
                  refine xv_r (x_ireturn d_X8_layout_158 rfl rfl) ?_
                  have er : layM M = _ := if_neg (by omega)
                  have ev : rLay (M 1) (M 11) (M 0 16) (wpW (M 11) (M 0 16)).2.1 (wpW (M 11) (M 0 16)).2.2 = L_ := hv.trans (ry_e (c := c) (by omega)).1
                  have ew : ryN (M 11) (M 0 16).toNat 0 0 = c := hw.trans (ry_e (l := L_) (by omega)).2
                  refine hQ _ _ ⟨by rw [er, ew], ?_⟩
                  rw [er, ev]
                  show q_mw h am _ = q_mw h am (uA (mch (layO M 0)) 1 L_)
                  unfold layO
                  rw [hM2]
                · refine xv (x_aload_n 118 d_X8_layout_117 rfl rfl) ?_
                  refine xv (x_getfield 121 d_X8_layout_118 rfl f_8_41 (Nat.le_of_ble_eq_true rfl) (Nat.le_of_ble_eq_true rfl) (q_gf_of m_o rfl)) ?_
                  refine xv (x_iload_n 122 d_X8_layout_121 rfl rfl) ?_
                  refine xv (x_caload 123 d_X8_layout_122 rfl ((m_g11 (by omega) (by omega)).trans (congrArg (fun z => some (Value.int (zi z))) (congrFun e11 k)))) ?_
                  have q122 := hI k (by omega) (by omega)
                  refine xv (x_bipush 125 d_X8_layout_123 rfl rfl) ?_
                  refine v_icmp_eq 151 128 d_X8_layout_125 rfl rfl (by omega) (by omega) (by omega) (by omega) (fun k125 => ?_) (fun k125 => ?_)
                  · refine xv (x_iinc 154 d_X8_layout_151 rfl rfl) ?_
                    show Xv E q_m_X8_layout 154 [Value.ref am, Value.int (zi (M 0 16)), Value.int (zi c), Value.int (zi (k + 1))] [] (q_mw h am (uA M2 1 L_)) Q
                    refine xv (x_goto 112 d_X8_layout_154 rfl) ?_
                    refine ih112 _ (by omega) _ (k + 1) _ (by omega) (by omega) (by omega) (hv.trans ((ry_b (by omega)).1.trans ?_)) (hw.trans ((ry_b (l := L_) (by omega)).2.trans ?_)) rfl
                    · exact if_pos k125
                    · exact if_pos k125
                  · refine xv (x_aload_n 129 d_X8_layout_128 rfl rfl) ?_
                    refine xv (x_getfield 132 d_X8_layout_129 rfl f_8_9 (Nat.le_of_ble_eq_true rfl) (Nat.le_of_ble_eq_true rfl) (q_gf_of m_o rfl)) ?_
                    refine xv (x_bipush 134 d_X8_layout_132 rfl rfl) ?_
                    refine xv (x_iload_n 135 d_X8_layout_134 rfl rfl) ?_
                    refine xv (x_iadd 136 d_X8_layout_135 rfl) ?_
                    refine xv (y_ldc 138 d_X8_layout_136 rfl rfl e6) ?_
                    show Xv E q_m_X8_layout 138 [Value.ref am, Value.int (zi (M 0 16)), Value.int (zi c), Value.int (zi k)] [Value.ref sa, Value.int (zi (8 + c)), Value.ref (am + 1)] (q_mw h am (uA M2 1 L_)) Q
                    refine xv (x_aload_n 139 d_X8_layout_138 rfl rfl) ?_
                    refine xv (x_getfield 142 d_X8_layout_139 rfl f_8_41 (Nat.le_of_ble_eq_true rfl) (Nat.le_of_ble_eq_true rfl) (q_gf_of m_o rfl)) ?_
                    refine xv (x_iload_n 143 d_X8_layout_142 rfl rfl) ?_
                    refine xv (x_caload 144 d_X8_layout_143 rfl ((m_g11 (by omega) (by omega)).trans (congrArg (fun z => some (Value.int (zi z))) (congrFun e11 k)))) ?_
                    have q143 := hI k (by omega) (by omega)
                    refine xv (y_invS1 147 (as := [Value.int (zi (M 11 k))]) d_X8_layout_144 rfl c_8_201 rfl rfl (Nat.le_of_ble_eq_true rfl) (lo_mw hLo hN _ ls) e6 (Nat.le_of_ble_eq_true rfl) (Nat.le_of_ble_eq_true rfl) rfl (S_J0_indexOf hE (lo_mw hLo hN) e6 (c := M 11 k) (by omega) (by omega))) ?_
                    have qk144 := @kd_r (M 11 k)
                    show Xv E q_m_X8_layout 147 [Value.ref am, Value.int (zi (M 0 16)), Value.int (zi c), Value.int (zi k)] [Value.int (zi (kd (M 11 k))), Value.int (zi (8 + c)), Value.ref (am + 1)] (q_mw h am (uA M2 1 L_)) Q
                    refine xv (x_iastore 148 d_X8_layout_147 rfl (m_s1 (by omega) (by omega))) ?_
                    show Xv E q_m_X8_layout 148 [Value.ref am, Value.int (zi (M 0 16)), Value.int (zi c), Value.int (zi k)] [] (q_mw h am (uM (uA M2 1 L_) 1 (8 + c) (kd (M 11 k)))) Q
                    refine xv (x_iinc 151 d_X8_layout_148 rfl rfl) ?_
                    show Xv E q_m_X8_layout 151 [Value.ref am, Value.int (zi (M 0 16)), Value.int (zi (c + 1)), Value.int (zi k)] [] (q_mw h am (uM (uA M2 1 L_) 1 (8 + c) (kd (M 11 k)))) Q
                    refine xv (x_iinc 154 d_X8_layout_151 rfl rfl) ?_
                    show Xv E q_m_X8_layout 154 [Value.ref am, Value.int (zi (M 0 16)), Value.int (zi (c + 1)), Value.int (zi (k + 1))] [] (q_mw h am (uM (uA M2 1 L_) 1 (8 + c) (kd (M 11 k)))) Q
                    refine xv (x_goto 112 d_X8_layout_154 rfl) ?_
                    rw [uM_uA]
                    refine ih112 _ (by omega) _ (k + 1) _ (by omega) (by omega) (by omega) (hv.trans ((ry_b (by omega)).1.trans ?_)) (hw.trans ((ry_b (l := L_) (by omega)).2.trans ?_)) rfl
                    · exact if_neg k125
                    · exact if_neg k125
            have ek : k = 400 := by omega
            rw [uM_uA, uA_uA, uA_eq, ek]
            exact L112 _ 0 0 _ (by omega) (by omega) (by omega) (by rw [Int.sub_zero]; rfl) (by rw [Int.sub_zero]) rfl
          · refine xv (x_aload_n 57 d_X8_layout_56 rfl rfl) ?_
            refine xv (x_getfield 60 d_X8_layout_57 rfl f_8_9 (Nat.le_of_ble_eq_true rfl) (Nat.le_of_ble_eq_true rfl) (q_gf_of m_o rfl)) ?_
            refine xv (x_iload_n 61 d_X8_layout_60 rfl rfl) ?_
            refine xv (x_iload_n 62 d_X8_layout_61 rfl rfl) ?_
            refine xv (x_iconst 63 d_X8_layout_62 rfl) ?_
            refine xv (x_bipush 65 d_X8_layout_63 rfl rfl) ?_
            refine xv (x_ins1 68 (as := [Value.int (zi k), Value.int (zi 5), Value.int (zi 7)]) d_X8_layout_65 rfl c_8_71 rfl (Nat.le_of_ble_eq_true rfl) (Nat.le_of_ble_eq_true rfl) (Nat.le_of_ble_eq_true rfl) rfl (S_X8_in (E := E) (h := h) (am := am) (M := (uA M2 1 (zl (M 1) k))) (by first | omega | (rw [show (uA M2 1 (zl (M 1) k)) 1 = (zl (M 1) k) from rfl]; omega)) (by first | omega | (rw [show (uA M2 1 (zl (M 1) k)) 1 = (zl (M 1) k) from rfl]; omega)) (by first | omega | (rw [show (uA M2 1 (zl (M 1) k)) 1 = (zl (M 1) k) from rfl]; omega)) (by first | omega | (rw [show (uA M2 1 (zl (M 1) k)) 1 = (zl (M 1) k) from rfl]; omega)) (by first | omega | (rw [show (uA M2 1 (zl (M 1) k)) 1 = (zl (M 1) k) from rfl]; omega)) (by first | omega | (rw [show (uA M2 1 (zl (M 1) k)) 1 = (zl (M 1) k) from rfl]; omega)))) ?_
            show Xv E q_m_X8_layout 68 [Value.ref am, Value.int (zi (M 0 16)), Value.int (zi k), Value.null] [Value.int (zi (bI (inn k 5 7))), Value.int (zi k), Value.ref (am + 1)] (q_mw h am (uA M2 1 (zl (M 1) k))) Q
            refine v_if_eq 80 71 d_X8_layout_68 rfl rfl (by have := bI_r (inn k 5 7); omega) (by have := bI_r (inn k 5 7); omega) (fun k68 => ?_) (fun k68 => ?_)
            · replace k68 := bI_0.mp k68
              refine xv (x_iconst 81 d_X8_layout_80 rfl) ?_
              refine xv (x_iastore 82 d_X8_layout_81 rfl (m_s1 (by omega) (by omega))) ?_
              show Xv E q_m_X8_layout 82 [Value.ref am, Value.int (zi (M 0 16)), Value.int (zi k), Value.null] [] (q_mw h am (uM (uA M2 1 (zl (M 1) k)) 1 k 0)) Q
              refine xv (x_iinc 85 d_X8_layout_82 rfl rfl) ?_
              show Xv E q_m_X8_layout 85 [Value.ref am, Value.int (zi (M 0 16)), Value.int (zi (k + 1)), Value.null] [] (q_mw h am (uM (uA M2 1 (zl (M 1) k)) 1 k 0)) Q
              refine xv (x_goto 49 d_X8_layout_85 rfl) ?_
              rw [uM_uA, show u1 (zl (M 1) k) k (0) = zl (M 1) (k + 1) from (congrArg (u1 (zl (M 1) k) k) (by first | exact (if_pos (by omega)).symm | exact (if_neg (by omega)).symm)).trans (zl_s k0)]
              exact ih49 _ (by omega) (k + 1) (by omega) (by omega) rfl
            · replace k68 := bI_n0.mp k68
              refine xv (x_aload_n 72 d_X8_layout_71 rfl rfl) ?_
              refine xv (x_getfield 75 d_X8_layout_72 rfl f_8_9 (Nat.le_of_ble_eq_true rfl) (Nat.le_of_ble_eq_true rfl) (q_gf_of m_o rfl)) ?_
              refine xv (x_iload_n 76 d_X8_layout_75 rfl rfl) ?_
              refine xv (x_iaload 77 d_X8_layout_76 rfl ((m_g1 (by omega) (by omega)).trans (rfl : _ = some (Value.int (zi ((zl (M 1) k) k)))))) ?_
              have q76 : -1000000 ≤ (zl (M 1) k) k ∧ (zl (M 1) k) k ≤ 1000000 := by unfold zl; split; omega; exact hr _
              refine xv (x_goto 81 d_X8_layout_77 rfl) ?_
              refine xv (x_iastore 82 d_X8_layout_81 rfl (m_s1 (by omega) (by omega))) ?_
              show Xv E q_m_X8_layout 82 [Value.ref am, Value.int (zi (M 0 16)), Value.int (zi k), Value.null] [] (q_mw h am (uM (uA M2 1 (zl (M 1) k)) 1 k ((zl (M 1) k) k))) Q
              refine xv (x_iinc 85 d_X8_layout_82 rfl rfl) ?_
              show Xv E q_m_X8_layout 85 [Value.ref am, Value.int (zi (M 0 16)), Value.int (zi (k + 1)), Value.null] [] (q_mw h am (uM (uA M2 1 (zl (M 1) k)) 1 k ((zl (M 1) k) k))) Q
              refine xv (x_goto 49 d_X8_layout_85 rfl) ?_
              rw [uM_uA, show u1 (zl (M 1) k) k ((zl (M 1) k) k) = zl (M 1) (k + 1) from (congrArg (u1 (zl (M 1) k) k) (by first | exact (if_pos (by omega)).symm | exact (if_neg (by omega)).symm)).trans (zl_s k0)]
              exact ih49 _ (by omega) (k + 1) (by omega) (by omega) rfl
      exact L49 _ 0 (by omega) (by omega) rfl
    · omega
end RB7
