/-! the reference: layout (printed by program) -/
section RB6
variable {E : q_E} {h : q_H} {am N : Nat} {M M2 : q_Im} {l F f q : Int → Int} {r g T t k w v c e d a b s n x y R C R' C' : Int}
/-- where the text goes wrong (-1: nowhere), rows and columns read -/
def wpl (q : Int → Int) (n : Int) : Nat → Int → Int → Int → Int → Int × Int × Int
  | 0, _, x, R, C => (if x < 2 ∨ x < (if R = 1 then x else C) then n else -1, R, if R = 1 then x else C)
  | m + 1, k, x, R, C => if 0 ≤ kd (q k) then (if x = (if R = 1 then 8 else C) then (k, R, C) else wpl q n m (k + 1) (x + 1) R C) else if (q k = 47 ∧ R < 6) ∧ ((R = 1 ∧ 2 ≤ x) ∨ (¬ R = 1 ∧ x = C)) then wpl q n m (k + 1) 0 (R + 1) (if R = 1 then x else C) else (k, R, C)
theorem wpl_b (hk : k < n) : wpl q n (n - k).toNat k x R C = if 0 ≤ kd (q k) then (if x = (if R = 1 then 8 else C) then (k, R, C) else wpl q n (n - (k + 1)).toNat (k + 1) (x + 1) R C) else if (q k = 47 ∧ R < 6) ∧ ((R = 1 ∧ 2 ≤ x) ∨ (¬ R = 1 ∧ x = C)) then wpl q n (n - (k + 1)).toNat (k + 1) 0 (R + 1) (if R = 1 then x else C) else (k, R, C) := by
  rw [show (n - k).toNat = (n - (k + 1)).toNat + 1 by omega]; rfl
theorem wpl_e (hk : n ≤ k) : wpl q n (n - k).toNat k x R C = (if x < 2 ∨ x < (if R = 1 then x else C) then n else -1, R, if R = 1 then x else C) := by
  rw [show (n - k).toNat = 0 by omega]; rfl
def wpW (q : Int → Int) (n : Int) : Int × Int × Int := wpl q n n.toNat 0 0 1 0
theorem im_2 {u v : Int} : uM (uM (uM (uM M 0 18 R) 0 19 C) 0 19 u) 0 18 v = uM (uM M 0 18 v) 0 19 u := by
  show uA (uA (uA (uA M 0 (u1 (M 0) 18 R)) 0 _) 0 _) 0 _ = uA (uA M 0 (u1 (M 0) 18 v)) 0 _
  simp only [uA_uA, uA_eq]
  congr 1
  rw [u1_u1, u1_comm (show (18 : Int) ≠ 19 by decide), u1_u1, u1_comm (show (18 : Int) ≠ 19 by decide)]
theorem im_3 {u : Int} : uM (uM (uM M 0 18 R) 0 19 C) 0 19 u = uM (uM M 0 18 R) 0 19 u := by
  show uA (uA (uA M 0 (u1 (M 0) 18 R)) 0 _) 0 _ = uA (uA M 0 (u1 (M 0) 18 R)) 0 _
  simp only [uA_uA, uA_eq]
  congr 1
  rw [u1_u1]
theorem S_X8_wrongPlace (hE : q_EN E N) (hLo : Lo h N) (hN : N ≤ am) (hL : 0 ≤ M 0 16 ∧ M 0 16 ≤ 60) (hI : ∀ k, 0 ≤ k → k < 60 → 0 ≤ M 11 k ∧ M 11 k < 65536)  : ∃ r_ h', q_cl E q_m_X8_wrongPlace [Value.ref am] (q_mw h am M) = some (r_, h') ∧ (r_ = .inl (some (.int (zi (wpW (M 11) (M 0 16)).1))) ∧ h' = q_mw h am (uM (uM M 0 18 (wpW (M 11) (M 0 16)).2.1) 0 19 (wpW (M 11) (M 0 16)).2.2)) := by
  suffices K : ∀ Q : q_R → q_H → Prop, (∀ r_ h', (r_ = .inl (some (.int (zi (wpW (M 11) (M 0 16)).1))) ∧ h' = q_mw h am (uM (uM M 0 18 (wpW (M 11) (M 0 16)).2.1) 0 19 (wpW (M 11) (M 0 16)).2.2)) → Q r_ h') → Xv E q_m_X8_wrongPlace 0 [Value.ref am, Value.null, Value.null, Value.null, Value.null] [] (q_mw h am M) Q from K _ fun _ _ p => p
  intro Q hQ
  obtain ⟨_, _, _, _, _, _, sa, ba, ⟨ls, lb⟩, e6, e7, eb⟩ := id hE
  refine xv (x_aload_n 1 d_X8_wrongPlace_0 rfl rfl) ?_
  refine xv (x_iconst 2 d_X8_wrongPlace_1 rfl) ?_
  refine xv (x_putfield 5 d_X8_wrongPlace_2 rfl f_8_195 (Nat.le_of_ble_eq_true rfl) m_pf18 rfl rfl (fun e => absurd e (by decide))) ?_
  show Xv E q_m_X8_wrongPlace 5 [Value.ref am, Value.null, Value.null, Value.null, Value.null] [] (q_mw h am (uM M 0 18 1)) Q
  refine xv (x_aload_n 6 d_X8_wrongPlace_5 rfl rfl) ?_
  refine xv (x_iconst 7 d_X8_wrongPlace_6 rfl) ?_
  refine xv (x_putfield 10 d_X8_wrongPlace_7 rfl f_8_198 (Nat.le_of_ble_eq_true rfl) m_pf19 rfl rfl (fun e => absurd e (by decide))) ?_
  show Xv E q_m_X8_wrongPlace 10 [Value.ref am, Value.null, Value.null, Value.null, Value.null] [] (q_mw h am (uM (uM M 0 18 1) 0 19 0)) Q
  refine xv (x_iconst 11 d_X8_wrongPlace_10 rfl) ?_
  refine xv (x_istore_n 12 d_X8_wrongPlace_11 rfl (Nat.le_of_ble_eq_true rfl)) ?_
  show Xv E q_m_X8_wrongPlace 12 [Value.ref am, Value.int (zi 0), Value.null, Value.null, Value.null] [] (q_mw h am (uM (uM M 0 18 1) 0 19 0)) Q
  refine xv (x_iconst 13 d_X8_wrongPlace_12 rfl) ?_
  refine xv (x_istore_n 14 d_X8_wrongPlace_13 rfl (Nat.le_of_ble_eq_true rfl)) ?_
  show Xv E q_m_X8_wrongPlace 14 [Value.ref am, Value.int (zi 0), Value.int (zi 0), Value.null, Value.null] [] (q_mw h am (uM (uM M 0 18 1) 0 19 0)) Q
  have L14 : ∀ (n_ : Nat) (x : Int) (k : Int) (R : Int) (C : Int) (x3 : Value) (x4 : Value), (0 ≤ k) → (k ≤ M 0 16) → (0 ≤ x ∧ x ≤ k) → (1 ≤ R ∧ R ≤ 6) → (0 ≤ C ∧ C ≤ 60) → (wpW (M 11) (M 0 16) = wpl (M 11) (M 0 16) (M 0 16 - k).toNat k x R C) → (M 0 16 - k).toNat = n_ → Xv E q_m_X8_wrongPlace 14 [Value.ref am, Value.int (zi x), Value.int (zi k), x3, x4] [] (q_mw h am (uM (uM M 0 18 R) 0 19 C)) Q := by
    intro n_
    induction n_ using Nat.strongRecOn with
    | _ n_ ih14 =>
      intro x k R C x3 x4 k0 k1 x0 R0 C0 hv em
      refine xv (x_iload_n 15 d_X8_wrongPlace_14 rfl rfl) ?_
      refine xv (x_aload_n 16 d_X8_wrongPlace_15 rfl rfl) ?_
      refine xv (x_getfield 19 d_X8_wrongPlace_16 rfl f_8_192 (Nat.le_of_ble_eq_true rfl) (Nat.le_of_ble_eq_true rfl) ((q_gf_of (m_o (h := h) (am := am) (M := (uM (uM M 0 18 R) 0 19 C))) rfl : q_gf (q_mw h am (uM (uM M 0 18 R) 0 19 C)) am 8 16 = some (Value.int (zi (M 0 16)))))) ?_
      refine v_icmp_ge 163 22 d_X8_wrongPlace_19 rfl rfl (by omega) (by omega) (by omega) (by omega) (fun k19 => ?_) (fun k19 => ?_)
      · refine xv (x_aload_n 164 d_X8_wrongPlace_163 rfl rfl) ?_
        refine xv (x_aload_n 165 d_X8_wrongPlace_164 rfl rfl) ?_
        refine xv (x_getfield 168 d_X8_wrongPlace_165 rfl f_8_195 (Nat.le_of_ble_eq_true rfl) (Nat.le_of_ble_eq_true rfl) ((q_gf_of (m_o (h := h) (am := am) (M := (uM (uM M 0 18 R) 0 19 C))) rfl : q_gf (q_mw h am (uM (uM M 0 18 R) 0 19 C)) am 8 18 = some (Value.int (zi R))))) ?_
        refine xv (x_iconst 169 d_X8_wrongPlace_168 rfl) ?_
        refine v_icmp_ne 176 172 d_X8_wrongPlace_169 rfl rfl (by omega) (by omega) (by omega) (by omega) (fun k169 => ?_) (fun k169 => ?_)
        · refine xv (x_aload_n 177 d_X8_wrongPlace_176 rfl rfl) ?_
          refine xv (x_getfield 180 d_X8_wrongPlace_177 rfl f_8_198 (Nat.le_of_ble_eq_true rfl) (Nat.le_of_ble_eq_true rfl) ((q_gf_of (m_o (h := h) (am := am) (M := (uM (uM M 0 18 R) 0 19 C))) rfl : q_gf (q_mw h am (uM (uM M 0 18 R) 0 19 C)) am 8 19 = some (Value.int (zi C))))) ?_
          refine xv (x_putfield 183 d_X8_wrongPlace_180 rfl f_8_198 (Nat.le_of_ble_eq_true rfl) m_pf19 rfl rfl (fun e => absurd e (by decide))) ?_
          show Xv E q_m_X8_wrongPlace 183 [Value.ref am, Value.int (zi x), Value.int (zi k), x3, x4] [] (q_mw h am (uM (uM (uM M 0 18 R) 0 19 C) 0 19 C)) Q
          refine xv (x_iload_n 184 d_X8_wrongPlace_183 rfl rfl) ?_
          refine xv (x_iconst 185 d_X8_wrongPlace_184 rfl) ?_
          refine v_icmp_lt 196 188 d_X8_wrongPlace_185 rfl rfl (by omega) (by omega) (by omega) (by omega) (fun k185 => ?_) (fun k185 => ?_)
          · refine xv (x_aload_n 197 d_X8_wrongPlace_196 rfl rfl) ?_
            refine xv (x_getfield 200 d_X8_wrongPlace_197 rfl f_8_192 (Nat.le_of_ble_eq_true rfl) (Nat.le_of_ble_eq_true rfl) ((q_gf_of (m_o (h := h) (am := am) (M := (uM (uM (uM M 0 18 R) 0 19 C) 0 19 C))) rfl : q_gf (q_mw h am (uM (uM (uM M 0 18 R) 0 19 C) 0 19 C)) am 8 16 = some (Value.int (zi (M 0 16)))))) ?_
            refine xv (x_goto 204 d_X8_wrongPlace_200 rfl) ?_
            refine xv_r (x_ireturn d_X8_wrongPlace_204 rfl rfl) ?_
            have ev : wpW (M 11) (M 0 16) = (M 0 16, R, C) := by
              rw [hv, wpl_e (by omega)]
              repeat (first | rw [if_pos (by omega)] | rw [if_neg (by omega)])
            exact hQ _ _ ⟨by rw [ev], by rw [ev, im_3]⟩
          · refine xv (x_iload_n 189 d_X8_wrongPlace_188 rfl rfl) ?_
            refine xv (x_aload_n 190 d_X8_wrongPlace_189 rfl rfl) ?_
            refine xv (x_getfield 193 d_X8_wrongPlace_190 rfl f_8_198 (Nat.le_of_ble_eq_true rfl) (Nat.le_of_ble_eq_true rfl) ((q_gf_of (m_o (h := h) (am := am) (M := (uM (uM (uM M 0 18 R) 0 19 C) 0 19 C))) rfl : q_gf (q_mw h am (uM (uM (uM M 0 18 R) 0 19 C) 0 19 C)) am 8 19 = some (Value.int (zi C))))) ?_
            refine v_icmp_ge 203 196 d_X8_wrongPlace_193 rfl rfl (by omega) (by omega) (by omega) (by omega) (fun k193 => ?_) (fun k193 => ?_)
            · refine xv (x_iconst 204 d_X8_wrongPlace_203 rfl) ?_
              refine xv_r (x_ireturn d_X8_wrongPlace_204 rfl rfl) ?_
              have ev : wpW (M 11) (M 0 16) = ((-1), R, C) := by
                rw [hv, wpl_e (by omega)]
                repeat (first | rw [if_pos (by omega)] | rw [if_neg (by omega)])
              exact hQ _ _ ⟨by rw [ev], by rw [ev, im_3]⟩
            · refine xv (x_aload_n 197 d_X8_wrongPlace_196 rfl rfl) ?_
              refine xv (x_getfield 200 d_X8_wrongPlace_197 rfl f_8_192 (Nat.le_of_ble_eq_true rfl) (Nat.le_of_ble_eq_true rfl) ((q_gf_of (m_o (h := h) (am := am) (M := (uM (uM (uM M 0 18 R) 0 19 C) 0 19 C))) rfl : q_gf (q_mw h am (uM (uM (uM M 0 18 R) 0 19 C) 0 19 C)) am 8 16 = some (Value.int (zi (M 0 16)))))) ?_
              refine xv (x_goto 204 d_X8_wrongPlace_200 rfl) ?_
              refine xv_r (x_ireturn d_X8_wrongPlace_204 rfl rfl) ?_
              have ev : wpW (M 11) (M 0 16) = (M 0 16, R, C) := by
                rw [hv, wpl_e (by omega)]
                repeat (first | rw [if_pos (by omega)] | rw [if_neg (by omega)])
              exact hQ _ _ ⟨by rw [ev], by rw [ev, im_3]⟩
        · refine xv (x_iload_n 173 d_X8_wrongPlace_172 rfl rfl) ?_
          refine xv (x_goto 180 d_X8_wrongPlace_173 rfl) ?_
          refine xv (x_putfield 183 d_X8_wrongPlace_180 rfl f_8_198 (Nat.le_of_ble_eq_true rfl) m_pf19 rfl rfl (fun e => absurd e (by decide))) ?_
          show Xv E q_m_X8_wrongPlace 183 [Value.ref am, Value.int (zi x), Value.int (zi k), x3, x4] [] (q_mw h am (uM (uM (uM M 0 18 R) 0 19 C) 0 19 x)) Q
          refine xv (x_iload_n 184 d_X8_wrongPlace_183 rfl rfl) ?_
          refine xv (x_iconst 185 d_X8_wrongPlace_184 rfl) ?_
          refine v_icmp_lt 196 188 d_X8_wrongPlace_185 rfl rfl (by omega) (by omega) (by omega) (by omega) (fun k185 => ?_) (fun k185 => ?_)
          · refine xv (x_aload_n 197 d_X8_wrongPlace_196 rfl rfl) ?_
            refine xv (x_getfield 200 d_X8_wrongPlace_197 rfl f_8_192 (Nat.le_of_ble_eq_true rfl) (Nat.le_of_ble_eq_true rfl) ((q_gf_of (m_o (h := h) (am := am) (M := (uM (uM (uM M 0 18 R) 0 19 C) 0 19 x))) rfl : q_gf (q_mw h am (uM (uM (uM M 0 18 R) 0 19 C) 0 19 x)) am 8 16 = some (Value.int (zi (M 0 16)))))) ?_
            refine xv (x_goto 204 d_X8_wrongPlace_200 rfl) ?_
            refine xv_r (x_ireturn d_X8_wrongPlace_204 rfl rfl) ?_
            have ev : wpW (M 11) (M 0 16) = (M 0 16, R, x) := by
              rw [hv, wpl_e (by omega)]
              repeat (first | rw [if_pos (by omega)] | rw [if_neg (by omega)])
            exact hQ _ _ ⟨by rw [ev], by rw [ev, im_3]⟩
          · refine xv (x_iload_n 189 d_X8_wrongPlace_188 rfl rfl) ?_
            refine xv (x_aload_n 190 d_X8_wrongPlace_189 rfl rfl) ?_
            refine xv (x_getfield 193 d_X8_wrongPlace_190 rfl f_8_198 (Nat.le_of_ble_eq_true rfl) (Nat.le_of_ble_eq_true rfl) ((q_gf_of (m_o (h := h) (am := am) (M := (uM (uM (uM M 0 18 R) 0 19 C) 0 19 x))) rfl : q_gf (q_mw h am (uM (uM (uM M 0 18 R) 0 19 C) 0 19 x)) am 8 19 = some (Value.int (zi x))))) ?_
            refine v_icmp_ge 203 196 d_X8_wrongPlace_193 rfl rfl (by omega) (by omega) (by omega) (by omega) (fun k193 => ?_) (fun k193 => ?_)
            · refine xv (x_iconst 204 d_X8_wrongPlace_203 rfl) ?_
              refine xv_r (x_ireturn d_X8_wrongPlace_204 rfl rfl) ?_
              have ev : wpW (M 11) (M 0 16) = ((-1), R, x) := by
                rw [hv, wpl_e (by omega)]
                repeat (first | rw [if_pos (by omega)] | rw [if_neg (by omega)])
              exact hQ _ _ ⟨by rw [ev], by rw [ev, im_3]⟩
            · refine xv (x_aload_n 197 d_X8_wrongPlace_196 rfl rfl) ?_
              refine xv (x_getfield 200 d_X8_wrongPlace_197 rfl f_8_192 (Nat.le_of_ble_eq_true rfl) (Nat.le_of_ble_eq_true rfl) ((q_gf_of (m_o (h := h) (am := am) (M := (uM (uM (uM M 0 18 R) 0 19 C) 0 19 x))) rfl : q_gf (q_mw h am (uM (uM (uM M 0 18 R) 0 19 C) 0 19 x)) am 8 16 = some (Value.int (zi (M 0 16)))))) ?_
              refine xv (x_goto 204 d_X8_wrongPlace_200 rfl) ?_
              refine xv_r (x_ireturn d_X8_wrongPlace_204 rfl rfl) ?_
              have ev : wpW (M 11) (M 0 16) = (M 0 16, R, x) := by
                rw [hv, wpl_e (by omega)]
                repeat (first | rw [if_pos (by omega)] | rw [if_neg (by omega)])
              exact hQ _ _ ⟨by rw [ev], by rw [ev, im_3]⟩
      · refine xv (y_ldc 24 d_X8_wrongPlace_22 rfl rfl e6) ?_
        show Xv E q_m_X8_wrongPlace 24 [Value.ref am, Value.int (zi x), Value.int (zi k), x3, x4] [Value.ref sa] (q_mw h am (uM (uM M 0 18 R) 0 19 C)) Q
        refine xv (x_aload_n 25 d_X8_wrongPlace_24 rfl rfl) ?_
        refine xv (x_getfield 28 d_X8_wrongPlace_25 rfl f_8_41 (Nat.le_of_ble_eq_true rfl) (Nat.le_of_ble_eq_true rfl) (q_gf_of m_o rfl)) ?_
        refine xv (x_iload_n 29 d_X8_wrongPlace_28 rfl rfl) ?_
        refine xv (x_caload 30 d_X8_wrongPlace_29 rfl ((m_g11 (by omega) (by omega)).trans (rfl : _ = some (Value.int (zi ((M 11) k)))))) ?_
        have q29 := hI k (by omega) (by omega)
        refine xv (y_invS1 33 (as := [Value.int (zi ((M 11) k))]) d_X8_wrongPlace_30 rfl c_8_201 rfl rfl (Nat.le_of_ble_eq_true rfl) (lo_mw hLo hN _ ls) e6 (Nat.le_of_ble_eq_true rfl) (Nat.le_of_ble_eq_true rfl) rfl (S_J0_indexOf hE (lo_mw hLo hN) e6 (c := (M 11) k) (by omega) (by omega))) ?_
        have qk30 := @kd_r ((M 11) k)
        show Xv E q_m_X8_wrongPlace 33 [Value.ref am, Value.int (zi x), Value.int (zi k), x3, x4] [Value.int (zi (kd ((M 11) k)))] (q_mw h am (uM (uM M 0 18 R) 0 19 C)) Q
        refine xv (x_istore_n 34 d_X8_wrongPlace_33 rfl (Nat.le_of_ble_eq_true rfl)) ?_
        show Xv E q_m_X8_wrongPlace 34 [Value.ref am, Value.int (zi x), Value.int (zi k), Value.int (zi (kd ((M 11) k))), x4] [] (q_mw h am (uM (uM M 0 18 R) 0 19 C)) Q
        refine xv (x_iload_n 35 d_X8_wrongPlace_34 rfl rfl) ?_
        refine v_if_lt 67 38 d_X8_wrongPlace_35 rfl rfl (by omega) (by omega) (fun k35 => ?_) (fun k35 => ?_)
        · refine xv (x_aload_n 68 d_X8_wrongPlace_67 rfl rfl) ?_
          refine xv (x_getfield 71 d_X8_wrongPlace_68 rfl f_8_41 (Nat.le_of_ble_eq_true rfl) (Nat.le_of_ble_eq_true rfl) (q_gf_of m_o rfl)) ?_
          refine xv (x_iload_n 72 d_X8_wrongPlace_71 rfl rfl) ?_
          refine xv (x_caload 73 d_X8_wrongPlace_72 rfl ((m_g11 (by omega) (by omega)).trans (rfl : _ = some (Value.int (zi ((M 11) k)))))) ?_
          refine xv (x_bipush 75 d_X8_wrongPlace_73 rfl rfl) ?_
          refine v_icmp_ne 115 78 d_X8_wrongPlace_75 rfl rfl (by omega) (by omega) (by omega) (by omega) (fun k75 => ?_) (fun k75 => ?_)
          · refine xv (x_iconst 116 d_X8_wrongPlace_115 rfl) ?_
            refine xv (x_istore 118 d_X8_wrongPlace_116 rfl (Nat.le_of_ble_eq_true rfl)) ?_
            show Xv E q_m_X8_wrongPlace 118 [Value.ref am, Value.int (zi x), Value.int (zi k), Value.int (zi (kd ((M 11) k))), Value.int (zi 0)] [] (q_mw h am (uM (uM M 0 18 R) 0 19 C)) Q
            refine xv (x_iload 120 d_X8_wrongPlace_118 rfl rfl) ?_
            refine v_if_ne 125 123 d_X8_wrongPlace_120 rfl rfl (by omega) (by omega) (fun k120 => ?_) (fun k120 => ?_)
            · omega
            · refine xv (x_iload_n 124 d_X8_wrongPlace_123 rfl rfl) ?_
              refine xv_r (x_ireturn d_X8_wrongPlace_124 rfl rfl) ?_
              have ev : wpW (M 11) (M 0 16) = (k, R, C) := by
                rw [hv, wpl_b (by omega)]
                repeat (first | rw [if_pos (by omega)] | rw [if_neg (by omega)])
              exact hQ _ _ ⟨by rw [ev], by rw [ev]⟩
          · refine xv (x_aload_n 79 d_X8_wrongPlace_78 rfl rfl) ?_
            refine xv (x_getfield 82 d_X8_wrongPlace_79 rfl f_8_195 (Nat.le_of_ble_eq_true rfl) (Nat.le_of_ble_eq_true rfl) ((q_gf_of (m_o (h := h) (am := am) (M := (uM (uM M 0 18 R) 0 19 C))) rfl : q_gf (q_mw h am (uM (uM M 0 18 R) 0 19 C)) am 8 18 = some (Value.int (zi R))))) ?_
            refine xv (x_bipush 84 d_X8_wrongPlace_82 rfl rfl) ?_
            refine v_icmp_ge 115 87 d_X8_wrongPlace_84 rfl rfl (by omega) (by omega) (by omega) (by omega) (fun k84 => ?_) (fun k84 => ?_)
            · refine xv (x_iconst 116 d_X8_wrongPlace_115 rfl) ?_
              refine xv (x_istore 118 d_X8_wrongPlace_116 rfl (Nat.le_of_ble_eq_true rfl)) ?_
              show Xv E q_m_X8_wrongPlace 118 [Value.ref am, Value.int (zi x), Value.int (zi k), Value.int (zi (kd ((M 11) k))), Value.int (zi 0)] [] (q_mw h am (uM (uM M 0 18 R) 0 19 C)) Q
              refine xv (x_iload 120 d_X8_wrongPlace_118 rfl rfl) ?_
              refine v_if_ne 125 123 d_X8_wrongPlace_120 rfl rfl (by omega) (by omega) (fun k120 => ?_) (fun k120 => ?_)
              · omega
              · refine xv (x_iload_n 124 d_X8_wrongPlace_123 rfl rfl) ?_
                refine xv_r (x_ireturn d_X8_wrongPlace_124 rfl rfl) ?_
                have ev : wpW (M 11) (M 0 16) = (k, R, C) := by
                  rw [hv, wpl_b (by omega)]
                  repeat (first | rw [if_pos (by omega)] | rw [if_neg (by omega)])
                exact hQ _ _ ⟨by rw [ev], by rw [ev]⟩
            · refine xv (x_aload_n 88 d_X8_wrongPlace_87 rfl rfl) ?_
              refine xv (x_getfield 91 d_X8_wrongPlace_88 rfl f_8_195 (Nat.le_of_ble_eq_true rfl) (Nat.le_of_ble_eq_true rfl) ((q_gf_of (m_o (h := h) (am := am) (M := (uM (uM M 0 18 R) 0 19 C))) rfl : q_gf (q_mw h am (uM (uM M 0 18 R) 0 19 C)) am 8 18 = some (Value.int (zi R))))) ?_
              refine xv (x_iconst 92 d_X8_wrongPlace_91 rfl) ?_
              refine v_icmp_ne 103 95 d_X8_wrongPlace_92 rfl rfl (by omega) (by omega) (by omega) (by omega) (fun k92 => ?_) (fun k92 => ?_)
              · refine xv (x_iload_n 104 d_X8_wrongPlace_103 rfl rfl) ?_
                refine xv (x_aload_n 105 d_X8_wrongPlace_104 rfl rfl) ?_
                refine xv (x_getfield 108 d_X8_wrongPlace_105 rfl f_8_198 (Nat.le_of_ble_eq_true rfl) (Nat.le_of_ble_eq_true rfl) ((q_gf_of (m_o (h := h) (am := am) (M := (uM (uM M 0 18 R) 0 19 C))) rfl : q_gf (q_mw h am (uM (uM M 0 18 R) 0 19 C)) am 8 19 = some (Value.int (zi C))))) ?_
                refine v_icmp_ne 115 111 d_X8_wrongPlace_108 rfl rfl (by omega) (by omega) (by omega) (by omega) (fun k108 => ?_) (fun k108 => ?_)
                · refine xv (x_iconst 116 d_X8_wrongPlace_115 rfl) ?_
                  refine xv (x_istore 118 d_X8_wrongPlace_116 rfl (Nat.le_of_ble_eq_true rfl)) ?_
                  show Xv E q_m_X8_wrongPlace 118 [Value.ref am, Value.int (zi x), Value.int (zi k), Value.int (zi (kd ((M 11) k))), Value.int (zi 0)] [] (q_mw h am (uM (uM M 0 18 R) 0 19 C)) Q
                  refine xv (x_iload 120 d_X8_wrongPlace_118 rfl rfl) ?_
                  refine v_if_ne 125 123 d_X8_wrongPlace_120 rfl rfl (by omega) (by omega) (fun k120 => ?_) (fun k120 => ?_)
                  · omega
                  · refine xv (x_iload_n 124 d_X8_wrongPlace_123 rfl rfl) ?_
                    refine xv_r (x_ireturn d_X8_wrongPlace_124 rfl rfl) ?_
                    have ev : wpW (M 11) (M 0 16) = (k, R, C) := by
                      rw [hv, wpl_b (by omega)]
                      repeat (first | rw [if_pos (by omega)] | rw [if_neg (by omega)])
                    exact hQ _ _ ⟨by rw [ev], by rw [ev]⟩
                · refine xv (x_iconst 112 d_X8_wrongPlace_111 rfl) ?_
                  refine xv (x_goto 116 d_X8_wrongPlace_112 rfl) ?_
                  refine xv (x_istore 118 d_X8_wrongPlace_116 rfl (Nat.le_of_ble_eq_true rfl)) ?_
                  show Xv E q_m_X8_wrongPlace 118 [Value.ref am, Value.int (zi x), Value.int (zi k), Value.int (zi (kd ((M 11) k))), Value.int (zi 1)] [] (q_mw h am (uM (uM M 0 18 R) 0 19 C)) Q
                  refine xv (x_iload 120 d_X8_wrongPlace_118 rfl rfl) ?_
                  refine v_if_ne 125 123 d_X8_wrongPlace_120 rfl rfl (by omega) (by omega) (fun k120 => ?_) (fun k120 => ?_)
                  · refine xv (x_aload_n 126 d_X8_wrongPlace_125 rfl rfl) ?_
                    refine xv (x_aload_n 127 d_X8_wrongPlace_126 rfl rfl) ?_
                    refine xv (x_getfield 130 d_X8_wrongPlace_127 rfl f_8_195 (Nat.le_of_ble_eq_true rfl) (Nat.le_of_ble_eq_true rfl) ((q_gf_of (m_o (h := h) (am := am) (M := (uM (uM M 0 18 R) 0 19 C))) rfl : q_gf (q_mw h am (uM (uM M 0 18 R) 0 19 C)) am 8 18 = some (Value.int (zi R))))) ?_
                    refine xv (x_iconst 131 d_X8_wrongPlace_130 rfl) ?_
                    refine v_icmp_ne 138 134 d_X8_wrongPlace_131 rfl rfl (by omega) (by omega) (by omega) (by omega) (fun k131 => ?_) (fun k131 => ?_)
                    · refine xv (x_aload_n 139 d_X8_wrongPlace_138 rfl rfl) ?_
                      refine xv (x_getfield 142 d_X8_wrongPlace_139 rfl f_8_198 (Nat.le_of_ble_eq_true rfl) (Nat.le_of_ble_eq_true rfl) ((q_gf_of (m_o (h := h) (am := am) (M := (uM (uM M 0 18 R) 0 19 C))) rfl : q_gf (q_mw h am (uM (uM M 0 18 R) 0 19 C)) am 8 19 = some (Value.int (zi C))))) ?_
                      refine xv (x_putfield 145 d_X8_wrongPlace_142 rfl f_8_198 (Nat.le_of_ble_eq_true rfl) m_pf19 rfl rfl (fun e => absurd e (by decide))) ?_
                      show Xv E q_m_X8_wrongPlace 145 [Value.ref am, Value.int (zi x), Value.int (zi k), Value.int (zi (kd ((M 11) k))), Value.int (zi 1)] [] (q_mw h am (uM (uM (uM M 0 18 R) 0 19 C) 0 19 C)) Q
                      refine xv (x_aload_n 146 d_X8_wrongPlace_145 rfl rfl) ?_
                      refine xv (x_dup 147 d_X8_wrongPlace_146 rfl rfl) ?_
                      refine xv (x_getfield 150 d_X8_wrongPlace_147 rfl f_8_195 (Nat.le_of_ble_eq_true rfl) (Nat.le_of_ble_eq_true rfl) ((q_gf_of (m_o (h := h) (am := am) (M := (uM (uM (uM M 0 18 R) 0 19 C) 0 19 C))) rfl : q_gf (q_mw h am (uM (uM (uM M 0 18 R) 0 19 C) 0 19 C)) am 8 18 = some (Value.int (zi R))))) ?_
                      refine xv (x_iconst 151 d_X8_wrongPlace_150 rfl) ?_
                      refine xv (x_iadd 152 d_X8_wrongPlace_151 rfl) ?_
                      refine xv (x_putfield 155 d_X8_wrongPlace_152 rfl f_8_195 (Nat.le_of_ble_eq_true rfl) m_pf18 rfl rfl (fun e => absurd e (by decide))) ?_
                      show Xv E q_m_X8_wrongPlace 155 [Value.ref am, Value.int (zi x), Value.int (zi k), Value.int (zi (kd ((M 11) k))), Value.int (zi 1)] [] (q_mw h am (uM (uM (uM (uM M 0 18 R) 0 19 C) 0 19 C) 0 18 (R + 1))) Q
                      refine xv (x_iconst 156 d_X8_wrongPlace_155 rfl) ?_
                      refine xv (x_istore_n 157 d_X8_wrongPlace_156 rfl (Nat.le_of_ble_eq_true rfl)) ?_
                      show Xv E q_m_X8_wrongPlace 157 [Value.ref am, Value.int (zi 0), Value.int (zi k), Value.int (zi (kd ((M 11) k))), Value.int (zi 1)] [] (q_mw h am (uM (uM (uM (uM M 0 18 R) 0 19 C) 0 19 C) 0 18 (R + 1))) Q
                      refine xv (x_iinc 160 d_X8_wrongPlace_157 rfl rfl) ?_
                      show Xv E q_m_X8_wrongPlace 160 [Value.ref am, Value.int (zi 0), Value.int (zi (k + 1)), Value.int (zi (kd ((M 11) k))), Value.int (zi 1)] [] (q_mw h am (uM (uM (uM (uM M 0 18 R) 0 19 C) 0 19 C) 0 18 (R + 1))) Q
                      refine xv (x_goto 14 d_X8_wrongPlace_160 rfl) ?_
                      first | (exfalso; omega) | (rw [im_2]; refine ih14 _ (by omega) 0 (k + 1) (R + 1) (C) _ _ (by omega) (by omega) (by omega) (by omega) (by omega) (hv.trans ((wpl_b (by omega)).trans ?_)) rfl; repeat (first | rw [if_pos (by omega)] | rw [if_neg (by omega)]))
                    · refine xv (x_iload_n 135 d_X8_wrongPlace_134 rfl rfl) ?_
                      refine xv (x_goto 142 d_X8_wrongPlace_135 rfl) ?_
                      refine xv (x_putfield 145 d_X8_wrongPlace_142 rfl f_8_198 (Nat.le_of_ble_eq_true rfl) m_pf19 rfl rfl (fun e => absurd e (by decide))) ?_
                      show Xv E q_m_X8_wrongPlace 145 [Value.ref am, Value.int (zi x), Value.int (zi k), Value.int (zi (kd ((M 11) k))), Value.int (zi 1)] [] (q_mw h am (uM (uM (uM M 0 18 R) 0 19 C) 0 19 x)) Q
                      refine xv (x_aload_n 146 d_X8_wrongPlace_145 rfl rfl) ?_
                      refine xv (x_dup 147 d_X8_wrongPlace_146 rfl rfl) ?_
                      refine xv (x_getfield 150 d_X8_wrongPlace_147 rfl f_8_195 (Nat.le_of_ble_eq_true rfl) (Nat.le_of_ble_eq_true rfl) ((q_gf_of (m_o (h := h) (am := am) (M := (uM (uM (uM M 0 18 R) 0 19 C) 0 19 x))) rfl : q_gf (q_mw h am (uM (uM (uM M 0 18 R) 0 19 C) 0 19 x)) am 8 18 = some (Value.int (zi R))))) ?_
                      refine xv (x_iconst 151 d_X8_wrongPlace_150 rfl) ?_
                      refine xv (x_iadd 152 d_X8_wrongPlace_151 rfl) ?_
                      refine xv (x_putfield 155 d_X8_wrongPlace_152 rfl f_8_195 (Nat.le_of_ble_eq_true rfl) m_pf18 rfl rfl (fun e => absurd e (by decide))) ?_
                      show Xv E q_m_X8_wrongPlace 155 [Value.ref am, Value.int (zi x), Value.int (zi k), Value.int (zi (kd ((M 11) k))), Value.int (zi 1)] [] (q_mw h am (uM (uM (uM (uM M 0 18 R) 0 19 C) 0 19 x) 0 18 (R + 1))) Q
                      refine xv (x_iconst 156 d_X8_wrongPlace_155 rfl) ?_
                      refine xv (x_istore_n 157 d_X8_wrongPlace_156 rfl (Nat.le_of_ble_eq_true rfl)) ?_
                      show Xv E q_m_X8_wrongPlace 157 [Value.ref am, Value.int (zi 0), Value.int (zi k), Value.int (zi (kd ((M 11) k))), Value.int (zi 1)] [] (q_mw h am (uM (uM (uM (uM M 0 18 R) 0 19 C) 0 19 x) 0 18 (R + 1))) Q
                      refine xv (x_iinc 160 d_X8_wrongPlace_157 rfl rfl) ?_
                      show Xv E q_m_X8_wrongPlace 160 [Value.ref am, Value.int (zi 0), Value.int (zi (k + 1)), Value.int (zi (kd ((M 11) k))), Value.int (zi 1)] [] (q_mw h am (uM (uM (uM (uM M 0 18 R) 0 19 C) 0 19 x) 0 18 (R + 1))) Q
                      refine xv (x_goto 14 d_X8_wrongPlace_160 rfl) ?_
                      first | (exfalso; omega) | (rw [im_2]; refine ih14 _ (by omega) 0 (k + 1) (R + 1) (x) _ _ (by omega) (by omega) (by omega) (by omega) (by omega) (hv.trans ((wpl_b (by omega)).trans ?_)) rfl; repeat (first | rw [if_pos (by omega)] | rw [if_neg (by omega)]))
                  · omega
              · refine xv (x_iload_n 96 d_X8_wrongPlace_95 rfl rfl) ?_
                refine xv (x_iconst 97 d_X8_wrongPlace_96 rfl) ?_
                refine v_icmp_lt 115 100 d_X8_wrongPlace_97 rfl rfl (by omega) (by omega) (by omega) (by omega) (fun k97 => ?_) (fun k97 => ?_)
                · refine xv (x_iconst 116 d_X8_wrongPlace_115 rfl) ?_
                  refine xv (x_istore 118 d_X8_wrongPlace_116 rfl (Nat.le_of_ble_eq_true rfl)) ?_
                  show Xv E q_m_X8_wrongPlace 118 [Value.ref am, Value.int (zi x), Value.int (zi k), Value.int (zi (kd ((M 11) k))), Value.int (zi 0)] [] (q_mw h am (uM (uM M 0 18 R) 0 19 C)) Q
                  refine xv (x_iload 120 d_X8_wrongPlace_118 rfl rfl) ?_
                  refine v_if_ne 125 123 d_X8_wrongPlace_120 rfl rfl (by omega) (by omega) (fun k120 => ?_) (fun k120 => ?_)
                  · omega
                  · refine xv (x_iload_n 124 d_X8_wrongPlace_123 rfl rfl) ?_
                    refine xv_r (x_ireturn d_X8_wrongPlace_124 rfl rfl) ?_
                    have ev : wpW (M 11) (M 0 16) = (k, R, C) := by
                      rw [hv, wpl_b (by omega)]
                      repeat (first | rw [if_pos (by omega)] | rw [if_neg (by omega)])
                    exact hQ _ _ ⟨by rw [ev], by rw [ev]⟩
                · refine xv (x_goto 111 d_X8_wrongPlace_100 rfl) ?_
                  refine xv (x_iconst 112 d_X8_wrongPlace_111 rfl) ?_
                  refine xv (x_goto 116 d_X8_wrongPlace_112 rfl) ?_
                  refine xv (x_istore 118 d_X8_wrongPlace_116 rfl (Nat.le_of_ble_eq_true rfl)) ?_
                  show Xv E q_m_X8_wrongPlace 118 [Value.ref am, Value.int (zi x), Value.int (zi k), Value.int (zi (kd ((M 11) k))), Value.int (zi 1)] [] (q_mw h am (uM (uM M 0 18 R) 0 19 C)) Q
                  refine xv (x_iload 120 d_X8_wrongPlace_118 rfl rfl) ?_
                  refine v_if_ne 125 123 d_X8_wrongPlace_120 rfl rfl (by omega) (by omega) (fun k120 => ?_) (fun k120 => ?_)
                  · refine xv (x_aload_n 126 d_X8_wrongPlace_125 rfl rfl) ?_
                    refine xv (x_aload_n 127 d_X8_wrongPlace_126 rfl rfl) ?_
                    refine xv (x_getfield 130 d_X8_wrongPlace_127 rfl f_8_195 (Nat.le_of_ble_eq_true rfl) (Nat.le_of_ble_eq_true rfl) ((q_gf_of (m_o (h := h) (am := am) (M := (uM (uM M 0 18 R) 0 19 C))) rfl : q_gf (q_mw h am (uM (uM M 0 18 R) 0 19 C)) am 8 18 = some (Value.int (zi R))))) ?_
                    refine xv (x_iconst 131 d_X8_wrongPlace_130 rfl) ?_
                    refine v_icmp_ne 138 134 d_X8_wrongPlace_131 rfl rfl (by omega) (by omega) (by omega) (by omega) (fun k131 => ?_) (fun k131 => ?_)
                    · refine xv (x_aload_n 139 d_X8_wrongPlace_138 rfl rfl) ?_
                      refine xv (x_getfield 142 d_X8_wrongPlace_139 rfl f_8_198 (Nat.le_of_ble_eq_true rfl) (Nat.le_of_ble_eq_true rfl) ((q_gf_of (m_o (h := h) (am := am) (M := (uM (uM M 0 18 R) 0 19 C))) rfl : q_gf (q_mw h am (uM (uM M 0 18 R) 0 19 C)) am 8 19 = some (Value.int (zi C))))) ?_
                      refine xv (x_putfield 145 d_X8_wrongPlace_142 rfl f_8_198 (Nat.le_of_ble_eq_true rfl) m_pf19 rfl rfl (fun e => absurd e (by decide))) ?_
                      show Xv E q_m_X8_wrongPlace 145 [Value.ref am, Value.int (zi x), Value.int (zi k), Value.int (zi (kd ((M 11) k))), Value.int (zi 1)] [] (q_mw h am (uM (uM (uM M 0 18 R) 0 19 C) 0 19 C)) Q
                      refine xv (x_aload_n 146 d_X8_wrongPlace_145 rfl rfl) ?_
                      refine xv (x_dup 147 d_X8_wrongPlace_146 rfl rfl) ?_
                      refine xv (x_getfield 150 d_X8_wrongPlace_147 rfl f_8_195 (Nat.le_of_ble_eq_true rfl) (Nat.le_of_ble_eq_true rfl) ((q_gf_of (m_o (h := h) (am := am) (M := (uM (uM (uM M 0 18 R) 0 19 C) 0 19 C))) rfl : q_gf (q_mw h am (uM (uM (uM M 0 18 R) 0 19 C) 0 19 C)) am 8 18 = some (Value.int (zi R))))) ?_
                      refine xv (x_iconst 151 d_X8_wrongPlace_150 rfl) ?_
                      refine xv (x_iadd 152 d_X8_wrongPlace_151 rfl) ?_
                      refine xv (x_putfield 155 d_X8_wrongPlace_152 rfl f_8_195 (Nat.le_of_ble_eq_true rfl) m_pf18 rfl rfl (fun e => absurd e (by decide))) ?_
                      show Xv E q_m_X8_wrongPlace 155 [Value.ref am, Value.int (zi x), Value.int (zi k), Value.int (zi (kd ((M 11) k))), Value.int (zi 1)] [] (q_mw h am (uM (uM (uM (uM M 0 18 R) 0 19 C) 0 19 C) 0 18 (R + 1))) Q
                      refine xv (x_iconst 156 d_X8_wrongPlace_155 rfl) ?_
                      refine xv (x_istore_n 157 d_X8_wrongPlace_156 rfl (Nat.le_of_ble_eq_true rfl)) ?_
                      show Xv E q_m_X8_wrongPlace 157 [Value.ref am, Value.int (zi 0), Value.int (zi k), Value.int (zi (kd ((M 11) k))), Value.int (zi 1)] [] (q_mw h am (uM (uM (uM (uM M 0 18 R) 0 19 C) 0 19 C) 0 18 (R + 1))) Q
                      refine xv (x_iinc 160 d_X8_wrongPlace_157 rfl rfl) ?_
                      show Xv E q_m_X8_wrongPlace 160 [Value.ref am, Value.int (zi 0), Value.int (zi (k + 1)), Value.int (zi (kd ((M 11) k))), Value.int (zi 1)] [] (q_mw h am (uM (uM (uM (uM M 0 18 R) 0 19 C) 0 19 C) 0 18 (R + 1))) Q
                      refine xv (x_goto 14 d_X8_wrongPlace_160 rfl) ?_
                      first | (exfalso; omega) | (rw [im_2]; refine ih14 _ (by omega) 0 (k + 1) (R + 1) (C) _ _ (by omega) (by omega) (by omega) (by omega) (by omega) (hv.trans ((wpl_b (by omega)).trans ?_)) rfl; repeat (first | rw [if_pos (by omega)] | rw [if_neg (by omega)]))
                    · refine xv (x_iload_n 135 d_X8_wrongPlace_134 rfl rfl) ?_
                      refine xv (x_goto 142 d_X8_wrongPlace_135 rfl) ?_
                      refine xv (x_putfield 145 d_X8_wrongPlace_142 rfl f_8_198 (Nat.le_of_ble_eq_true rfl) m_pf19 rfl rfl (fun e => absurd e (by decide))) ?_
                      show Xv E q_m_X8_wrongPlace 145 [Value.ref am, Value.int (zi x), Value.int (zi k), Value.int (zi (kd ((M 11) k))), Value.int (zi 1)] [] (q_mw h am (uM (uM (uM M 0 18 R) 0 19 C) 0 19 x)) Q
                      refine xv (x_aload_n 146 d_X8_wrongPlace_145 rfl rfl) ?_
                      refine xv (x_dup 147 d_X8_wrongPlace_146 rfl rfl) ?_
                      refine xv (x_getfield 150 d_X8_wrongPlace_147 rfl f_8_195 (Nat.le_of_ble_eq_true rfl) (Nat.le_of_ble_eq_true rfl) ((q_gf_of (m_o (h := h) (am := am) (M := (uM (uM (uM M 0 18 R) 0 19 C) 0 19 x))) rfl : q_gf (q_mw h am (uM (uM (uM M 0 18 R) 0 19 C) 0 19 x)) am 8 18 = some (Value.int (zi R))))) ?_
                      refine xv (x_iconst 151 d_X8_wrongPlace_150 rfl) ?_
                      refine xv (x_iadd 152 d_X8_wrongPlace_151 rfl) ?_
                      refine xv (x_putfield 155 d_X8_wrongPlace_152 rfl f_8_195 (Nat.le_of_ble_eq_true rfl) m_pf18 rfl rfl (fun e => absurd e (by decide))) ?_
                      show Xv E q_m_X8_wrongPlace 155 [Value.ref am, Value.int (zi x), Value.int (zi k), Value.int (zi (kd ((M 11) k))), Value.int (zi 1)] [] (q_mw h am (uM (uM (uM (uM M 0 18 R) 0 19 C) 0 19 x) 0 18 (R + 1))) Q
                      refine xv (x_iconst 156 d_X8_wrongPlace_155 rfl) ?_
                      refine xv (x_istore_n 157 d_X8_wrongPlace_156 rfl (Nat.le_of_ble_eq_true rfl)) ?_
                      show Xv E q_m_X8_wrongPlace 157 [Value.ref am, Value.int (zi 0), Value.int (zi k), Value.int (zi (kd ((M 11) k))), Value.int (zi 1)] [] (q_mw h am (uM (uM (uM (uM M 0 18 R) 0 19 C) 0 19 x) 0 18 (R + 1))) Q
                      refine xv (x_iinc 160 d_X8_wrongPlace_157 rfl rfl) ?_
                      show Xv E q_m_X8_wrongPlace 160 [Value.ref am, Value.int (zi 0), Value.int (zi (k + 1)), Value.int (zi (kd ((M 11) k))), Value.int (zi 1)] [] (q_mw h am (uM (uM (uM (uM M 0 18 R) 0 19 C) 0 19 x) 0 18 (R + 1))) Q
                      refine xv (x_goto 14 d_X8_wrongPlace_160 rfl) ?_
                      first | (exfalso; omega) | (rw [im_2]; refine ih14 _ (by omega) 0 (k + 1) (R + 1) (x) _ _ (by omega) (by omega) (by omega) (by omega) (by omega) (hv.trans ((wpl_b (by omega)).trans ?_)) rfl; repeat (first | rw [if_pos (by omega)] | rw [if_neg (by omega)]))
                  · omega
        · refine xv (x_iload_n 39 d_X8_wrongPlace_38 rfl rfl) ?_
          refine xv (x_aload_n 40 d_X8_wrongPlace_39 rfl rfl) ?_
          refine xv (x_getfield 43 d_X8_wrongPlace_40 rfl f_8_195 (Nat.le_of_ble_eq_true rfl) (Nat.le_of_ble_eq_true rfl) ((q_gf_of (m_o (h := h) (am := am) (M := (uM (uM M 0 18 R) 0 19 C))) rfl : q_gf (q_mw h am (uM (uM M 0 18 R) 0 19 C)) am 8 18 = some (Value.int (zi R))))) ?_
          refine xv (x_iconst 44 d_X8_wrongPlace_43 rfl) ?_
          refine v_icmp_ne 52 47 d_X8_wrongPlace_44 rfl rfl (by omega) (by omega) (by omega) (by omega) (fun k44 => ?_) (fun k44 => ?_)
          · refine xv (x_aload_n 53 d_X8_wrongPlace_52 rfl rfl) ?_
            refine xv (x_getfield 56 d_X8_wrongPlace_53 rfl f_8_198 (Nat.le_of_ble_eq_true rfl) (Nat.le_of_ble_eq_true rfl) ((q_gf_of (m_o (h := h) (am := am) (M := (uM (uM M 0 18 R) 0 19 C))) rfl : q_gf (q_mw h am (uM (uM M 0 18 R) 0 19 C)) am 8 19 = some (Value.int (zi C))))) ?_
            refine v_icmp_ne 61 59 d_X8_wrongPlace_56 rfl rfl (by omega) (by omega) (by omega) (by omega) (fun k56 => ?_) (fun k56 => ?_)
            · refine xv (x_iinc 64 d_X8_wrongPlace_61 rfl rfl) ?_
              show Xv E q_m_X8_wrongPlace 64 [Value.ref am, Value.int (zi (x + 1)), Value.int (zi k), Value.int (zi (kd ((M 11) k))), x4] [] (q_mw h am (uM (uM M 0 18 R) 0 19 C)) Q
              refine xv (x_goto 157 d_X8_wrongPlace_64 rfl) ?_
              refine xv (x_iinc 160 d_X8_wrongPlace_157 rfl rfl) ?_
              show Xv E q_m_X8_wrongPlace 160 [Value.ref am, Value.int (zi (x + 1)), Value.int (zi (k + 1)), Value.int (zi (kd ((M 11) k))), x4] [] (q_mw h am (uM (uM M 0 18 R) 0 19 C)) Q
              refine xv (x_goto 14 d_X8_wrongPlace_160 rfl) ?_
              refine ih14 _ (by omega) (x + 1) (k + 1) R C _ _ (by omega) (by omega) (by omega) (by omega) (by omega) (hv.trans ((wpl_b (by omega)).trans ?_)) rfl
              repeat (first | rw [if_pos (by omega)] | rw [if_neg (by omega)])
            · refine xv (x_iload_n 60 d_X8_wrongPlace_59 rfl rfl) ?_
              refine xv_r (x_ireturn d_X8_wrongPlace_60 rfl rfl) ?_
              have ev : wpW (M 11) (M 0 16) = (k, R, C) := by
                rw [hv, wpl_b (by omega)]
                repeat (first | rw [if_pos (by omega)] | rw [if_neg (by omega)])
              exact hQ _ _ ⟨by rw [ev], by rw [ev]⟩
          · refine xv (x_bipush 49 d_X8_wrongPlace_47 rfl rfl) ?_
            refine xv (x_goto 56 d_X8_wrongPlace_49 rfl) ?_
            refine v_icmp_ne 61 59 d_X8_wrongPlace_56 rfl rfl (by omega) (by omega) (by omega) (by omega) (fun k56 => ?_) (fun k56 => ?_)
            · refine xv (x_iinc 64 d_X8_wrongPlace_61 rfl rfl) ?_
              show Xv E q_m_X8_wrongPlace 64 [Value.ref am, Value.int (zi (x + 1)), Value.int (zi k), Value.int (zi (kd ((M 11) k))), x4] [] (q_mw h am (uM (uM M 0 18 R) 0 19 C)) Q
              refine xv (x_goto 157 d_X8_wrongPlace_64 rfl) ?_
              refine xv (x_iinc 160 d_X8_wrongPlace_157 rfl rfl) ?_
              show Xv E q_m_X8_wrongPlace 160 [Value.ref am, Value.int (zi (x + 1)), Value.int (zi (k + 1)), Value.int (zi (kd ((M 11) k))), x4] [] (q_mw h am (uM (uM M 0 18 R) 0 19 C)) Q
              refine xv (x_goto 14 d_X8_wrongPlace_160 rfl) ?_
              refine ih14 _ (by omega) (x + 1) (k + 1) R C _ _ (by omega) (by omega) (by omega) (by omega) (by omega) (hv.trans ((wpl_b (by omega)).trans ?_)) rfl
              repeat (first | rw [if_pos (by omega)] | rw [if_neg (by omega)])
            · refine xv (x_iload_n 60 d_X8_wrongPlace_59 rfl rfl) ?_
              refine xv_r (x_ireturn d_X8_wrongPlace_60 rfl rfl) ?_
              have ev : wpW (M 11) (M 0 16) = (k, R, C) := by
                rw [hv, wpl_b (by omega)]
                repeat (first | rw [if_pos (by omega)] | rw [if_neg (by omega)])
              exact hQ _ _ ⟨by rw [ev], by rw [ev]⟩
  exact L14 _ 0 0 1 0 _ _ (by omega) (by omega) (by omega) (by omega) (by omega) (by rw [Int.sub_zero]; rfl) rfl
end RB6
