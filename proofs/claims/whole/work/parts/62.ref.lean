/-! the reference: add (printed by program) -/
section RN
variable {E : q_E} {h : q_H} {am : Nat} {M M2 : q_Im}
def zro (l : Int → Int) (a k : Int) : Int → Int := fun i => if a ≤ i ∧ i < a + k then 0 else l i
theorem zro_0 {l : Int → Int} {a : Int} : zro l a 0 = l := funext fun i => if_neg (by omega)
theorem zro_s {l : Int → Int} {a k : Int} (hk : 0 ≤ k) : u1 (zro l a k) (a + k) 0 = zro l a (k + 1) := by
  funext i
  show (if i = a + k then (0 : Int) else if a ≤ i ∧ i < a + k then 0 else l i) = if a ≤ i ∧ i < a + (k + 1) then 0 else l i
  by_cases q : i = a + k
  · rw [if_pos q, if_pos (by omega)]
  · rw [if_neg q]
    by_cases q2 : a ≤ i ∧ i < a + k
    · rw [if_pos q2, if_pos (by omega)]
    · rw [if_neg q2, if_neg (by omega)]
theorem uM_uA {f : Int → Int} {j : Nat} {k v : Int} : uM (uA M j f) j k v = uA M j (u1 f k v) := by
  show uA (uA M j f) j (u1 (uA M j f j) k v) = _
  rw [uA_uA, uA_eq]
/-- why the reference refuses to add: 0 if it does not -/
noncomputable def mAdd (l : Int → Int) (c b : Int) : Int × Int := if ¬ isC l c then (1, 0) else if ¬ inn b 0 99 then (2, 0) else if l 3 = 6 then (3, 0) else if ¬ ent l c then (4, c) else if 0 ≤ wbe l c 0 (-1) then (5, wbe l c 0 (-1)) else (0, 0)
def rAdd (l : Int → Int) (c b : Int) : Int → Int := u1 (u1 (u1 (u1 (zro l (104 + 36 * l 3) 36) (104 + 36 * l 3) c) (104 + 36 * l 3 + 1) b) (104 + 36 * l 3 + 2) (-1)) 3 (l 3 + 1)
/-- how a change of the reference ends -/
noncomputable def mMut (M : q_Im) (rf : Int × Int) (v : Int) (l' : Int → Int) : Int × q_Im := if rf.1 = 0 then (v, uA (mch (uM M 0 5 0)) 1 l') else (0, mrf (uM M 0 5 0) rf.1 rf.2)
theorem S_X8_add (hR : Rg (M 1)) (hc : 0 ≤ M 0 4 ∧ M 0 4 ≤ 8) {y z : Int} (y0 : -2147483648 ≤ y) (y1 : y < 2147483648) (z0 : -2147483648 ≤ z) (z1 : z < 2147483648) : ∃ r_ h', q_cl E q_m_X8_add [Value.ref am, Value.int (zi y), Value.int (zi z)] (q_mw h am M) = some (r_, h') ∧ (r_ = .inl (some (.int (zi (mMut M (mAdd (M 1) y z) (M 1 3) (rAdd (M 1) y z)).1))) ∧ h' = q_mw h am (mMut M (mAdd (M 1) y z) (M 1 3) (rAdd (M 1) y z)).2) := by
  suffices K : ∀ Q : q_R → q_H → Prop, (∀ r_ h', (r_ = .inl (some (.int (zi (mMut M (mAdd (M 1) y z) (M 1 3) (rAdd (M 1) y z)).1))) ∧ h' = q_mw h am (mMut M (mAdd (M 1) y z) (M 1 3) (rAdd (M 1) y z)).2) → Q r_ h') → Xv E q_m_X8_add 0 [Value.ref am, Value.int (zi y), Value.int (zi z), Value.null, Value.null, Value.null] [] (q_mw h am M) Q from K _ fun _ _ p => p
  intro Q hQ
  have hR0 := hR
  obtain ⟨hr, g0, g1, g3, g4, gc, g5, g6, g7, gk, gl, gr, go⟩ := hR0
  refine xv (x_aload_n 1 d_X8_add_0 rfl rfl) ?_
  refine xv (x_iconst 2 d_X8_add_1 rfl) ?_
  refine xv (x_putfield 5 d_X8_add_2 rfl f_8_49 (Nat.le_of_ble_eq_true rfl) m_pf5 rfl rfl (fun e => absurd e (by decide))) ?_
  show Xv E q_m_X8_add 5 [Value.ref am, Value.int (zi y), Value.int (zi z), Value.null, Value.null, Value.null] [] (q_mw h am (uM M 0 5 0)) Q
  refine xv (x_aload_n 6 d_X8_add_5 rfl rfl) ?_
  refine xv (x_iload_n 7 d_X8_add_6 rfl rfl) ?_
  refine xv (x_inv1 10 (as := [Value.int (zi y)]) d_X8_add_7 rfl c_8_86 rfl (Nat.le_of_ble_eq_true rfl) (Nat.le_of_ble_eq_true rfl) m_o (Nat.le_of_ble_eq_true rfl) (Nat.le_of_ble_eq_true rfl) rfl (S_X8_isCell (E := E) (h := h) (am := am) (M := (uM M 0 5 0)) hR (by omega) (by omega))) ?_
  show Xv E q_m_X8_add 10 [Value.ref am, Value.int (zi y), Value.int (zi z), Value.null, Value.null, Value.null] [Value.int (zi (bI (isC (M 1) y)))] (q_mw h am (uM M 0 5 0)) Q
  refine v_if_ne 20 13 d_X8_add_10 rfl rfl (by have := bI_r (isC (M 1) y); omega) (by have := bI_r (isC (M 1) y); omega) (fun k10 => ?_) (fun k10 => ?_)
  · replace k10 := bI_n0.mp k10
    refine xv (x_iload_n 21 d_X8_add_20 rfl rfl) ?_
    refine xv (x_iconst 22 d_X8_add_21 rfl) ?_
    refine xv (x_bipush 24 d_X8_add_22 rfl rfl) ?_
    refine xv (x_ins1 27 (as := [Value.int (zi z), Value.int (zi 0), Value.int (zi 99)]) d_X8_add_24 rfl c_8_71 rfl (Nat.le_of_ble_eq_true rfl) (Nat.le_of_ble_eq_true rfl) (Nat.le_of_ble_eq_true rfl) rfl (S_X8_in (E := E) (h := h) (am := am) (M := (uM M 0 5 0)) (by omega) (by omega) (by omega) (by omega) (by omega) (by omega))) ?_
    show Xv E q_m_X8_add 27 [Value.ref am, Value.int (zi y), Value.int (zi z), Value.null, Value.null, Value.null] [Value.int (zi (bI (inn z 0 99)))] (q_mw h am (uM M 0 5 0)) Q
    refine v_if_ne 37 30 d_X8_add_27 rfl rfl (by have := bI_r (inn z 0 99); omega) (by have := bI_r (inn z 0 99); omega) (fun k27 => ?_) (fun k27 => ?_)
    · replace k27 := bI_n0.mp k27
      refine xv (x_aload_n 38 d_X8_add_37 rfl rfl) ?_
      refine xv (x_getfield 41 d_X8_add_38 rfl f_8_9 (Nat.le_of_ble_eq_true rfl) (Nat.le_of_ble_eq_true rfl) (q_gf_of m_o rfl)) ?_
      refine xv (x_iconst 42 d_X8_add_41 rfl) ?_
      refine xv (x_iaload 43 d_X8_add_42 rfl ((m_g1 (by omega) (by omega)).trans (rfl : _ = some (Value.int (zi ((M 1) 3)))))) ?_
      have q_1 : -1000000 ≤ (M 1) 3 ∧ (M 1) 3 ≤ 1000000 := hr _
      refine xv (x_bipush 45 d_X8_add_43 rfl rfl) ?_
      refine v_icmp_ne 55 48 d_X8_add_45 rfl rfl (by omega) (by omega) (by omega) (by omega) (fun k45 => ?_) (fun k45 => ?_)
      · refine xv (x_aload_n 56 d_X8_add_55 rfl rfl) ?_
        refine xv (x_iload_n 57 d_X8_add_56 rfl rfl) ?_
        refine xv (x_inv1 60 (as := [Value.int (zi y)]) d_X8_add_57 rfl c_8_93 rfl (Nat.le_of_ble_eq_true rfl) (Nat.le_of_ble_eq_true rfl) m_o (Nat.le_of_ble_eq_true rfl) (Nat.le_of_ble_eq_true rfl) rfl (S_X8_canEnter (E := E) (h := h) (am := am) (M := (uM M 0 5 0)) hR (by omega) (by omega))) ?_
        show Xv E q_m_X8_add 60 [Value.ref am, Value.int (zi y), Value.int (zi z), Value.null, Value.null, Value.null] [Value.int (zi (bI (ent (M 1) y)))] (q_mw h am (uM M 0 5 0)) Q
        refine v_if_ne 70 63 d_X8_add_60 rfl rfl (by have := bI_r (ent (M 1) y); omega) (by have := bI_r (ent (M 1) y); omega) (fun k60 => ?_) (fun k60 => ?_)
        · replace k60 := bI_n0.mp k60
          refine xv (x_aload_n 71 d_X8_add_70 rfl rfl) ?_
          refine xv (x_iload_n 72 d_X8_add_71 rfl rfl) ?_
          refine xv (x_iconst 73 d_X8_add_72 rfl) ?_
          refine xv (x_iconst 74 d_X8_add_73 rfl) ?_
          refine xv (x_inv1 77 (as := [Value.int (zi y), Value.int (zi 0), Value.int (zi (-1))]) d_X8_add_74 rfl c_8_96 rfl (Nat.le_of_ble_eq_true rfl) (Nat.le_of_ble_eq_true rfl) m_o (Nat.le_of_ble_eq_true rfl) (Nat.le_of_ble_eq_true rfl) rfl (S_X8_willBe (E := E) (h := h) (am := am) (M := (uM M 0 5 0)) hR (by omega) (by omega) (by omega) (by omega) (by omega) (by omega))) ?_
          have q_3 : wbe (M 1) y 0 (-1) = -1 ∨ (0 ≤ wbe (M 1) y 0 (-1) ∧ wbe (M 1) y 0 (-1) < 0 + (((M 1) 3).toNat : Nat)) :=  @fnd_r (wbA (M 1) y 0 (-1)) ((M 1) 3).toNat 0
          show Xv E q_m_X8_add 77 [Value.ref am, Value.int (zi y), Value.int (zi z), Value.null, Value.null, Value.null] [Value.int (zi (wbe (M 1) y 0 (-1)))] (q_mw h am (uM M 0 5 0)) Q
          refine xv (x_istore_n 78 d_X8_add_77 rfl (Nat.le_of_ble_eq_true rfl)) ?_
          show Xv E q_m_X8_add 78 [Value.ref am, Value.int (zi y), Value.int (zi z), Value.int (zi (wbe (M 1) y 0 (-1))), Value.null, Value.null] [] (q_mw h am (uM M 0 5 0)) Q
          refine xv (x_iload_n 79 d_X8_add_78 rfl rfl) ?_
          refine v_if_lt 89 82 d_X8_add_79 rfl rfl (by omega) (by omega) (fun k79 => ?_) (fun k79 => ?_)
          · refine xv (x_aload_n 90 d_X8_add_89 rfl rfl) ?_
            obtain ⟨r90, h90, e90, z90, y90⟩ := S_X8_change (E := E) (h := h) (am := am) (M := (uM M 0 5 0)) hc
            subst z90
            subst y90
            refine xv (x_inv0 93 (as := []) d_X8_add_90 rfl c_8_100 rfl (Nat.le_of_ble_eq_true rfl) (Nat.le_of_ble_eq_true rfl) m_o (Nat.le_of_ble_eq_true rfl) (Nat.le_of_ble_eq_true rfl) rfl e90) ?_
            generalize hM2 : mch (uM M 0 5 0) = M2
            have e2 : M2 1 = M 1 := by rw [← hM2]; exact mch_1
            have hR2 : Rg (M2 1) := by rw [e2]; exact hR
            have h23 : M2 1 3 = M 1 3 := congrFun e2 3
            have h24 : M2 1 4 = M 1 4 := congrFun e2 4
            show Xv E q_m_X8_add 93 [Value.ref am, Value.int (zi y), Value.int (zi z), Value.int (zi (wbe (M 1) y 0 (-1))), Value.null, Value.null] [] (q_mw h am M2) Q
            refine xv (x_aload_n 94 d_X8_add_93 rfl rfl) ?_
            refine xv (x_getfield 97 d_X8_add_94 rfl f_8_9 (Nat.le_of_ble_eq_true rfl) (Nat.le_of_ble_eq_true rfl) (q_gf_of m_o rfl)) ?_
            refine xv (x_iconst 98 d_X8_add_97 rfl) ?_
            refine xv (x_iaload 99 d_X8_add_98 rfl ((m_g1 (by omega) (by omega)).trans (rfl : _ = some (Value.int (zi ((M2 1) 3)))))) ?_
            have q_4 : -1000000 ≤ (M2 1) 3 ∧ (M2 1) 3 ≤ 1000000 := hR2.1 _
            refine xv (x_istore 101 d_X8_add_99 rfl (Nat.le_of_ble_eq_true rfl)) ?_
            show Xv E q_m_X8_add 101 [Value.ref am, Value.int (zi y), Value.int (zi z), Value.int (zi (wbe (M 1) y 0 (-1))), Value.int (zi ((M2 1) 3)), Value.null] [] (q_mw h am M2) Q
            refine xv (x_iconst 102 d_X8_add_101 rfl) ?_
            refine xv (x_istore 104 d_X8_add_102 rfl (Nat.le_of_ble_eq_true rfl)) ?_
            show Xv E q_m_X8_add 104 [Value.ref am, Value.int (zi y), Value.int (zi z), Value.int (zi (wbe (M 1) y 0 (-1))), Value.int (zi ((M2 1) 3)), Value.int (zi 0)] [] (q_mw h am M2) Q
            have L104 : ∀ (n_ : Nat) (k : Int), (0 ≤ k) → (k ≤ 36) → (36 - k).toNat = n_ → Xv E q_m_X8_add 104 [Value.ref am, Value.int (zi y), Value.int (zi z), Value.int (zi (wbe (M 1) y 0 (-1))), Value.int (zi ((M2 1) 3)), Value.int (zi k)] [] (q_mw h am (uA M2 1 (zro (M2 1) (104 + 36 * M2 1 3) k))) Q := by
              intro n_
              induction n_ using Nat.strongRecOn with
              | _ n_ ih104 =>
                intro k k0 k1 em
                refine xv (x_iload 106 d_X8_add_104 rfl rfl) ?_
                refine xv (x_bipush 108 d_X8_add_106 rfl rfl) ?_
                refine v_icmp_ge 131 111 d_X8_add_108 rfl rfl (by omega) (by omega) (by omega) (by omega) (fun k108 => ?_) (fun k108 => ?_)
                · refine xv (x_aload_n 132 d_X8_add_131 rfl rfl) ?_
                  refine xv (x_getfield 135 d_X8_add_132 rfl f_8_9 (Nat.le_of_ble_eq_true rfl) (Nat.le_of_ble_eq_true rfl) (q_gf_of m_o rfl)) ?_
                  refine xv (x_iload 137 d_X8_add_135 rfl rfl) ?_
                  refine xv (x_ins1 140 (as := [Value.int (zi ((M2 1) 3))]) d_X8_add_137 rfl c_8_75 rfl (Nat.le_of_ble_eq_true rfl) (Nat.le_of_ble_eq_true rfl) (Nat.le_of_ble_eq_true rfl) rfl (S_X8_at (E := E) (h := h) (am := am) (M := (uA M2 1 (zro (M2 1) (104 + 36 * M2 1 3) k))))) ?_
                  show Xv E q_m_X8_add 140 [Value.ref am, Value.int (zi y), Value.int (zi z), Value.int (zi (wbe (M 1) y 0 (-1))), Value.int (zi ((M2 1) 3)), Value.int (zi k)] [Value.int (zi (104 + 36 * ((M2 1) 3))), Value.ref (am + 1)] (q_mw h am (uA M2 1 (zro (M2 1) (104 + 36 * M2 1 3) k))) Q
                  refine xv (x_iconst 141 d_X8_add_140 rfl) ?_
                  refine xv (x_iadd 142 d_X8_add_141 rfl) ?_
                  refine xv (x_iload_n 143 d_X8_add_142 rfl rfl) ?_
                  refine xv (x_iastore 144 d_X8_add_143 rfl (m_s1 (by omega) (by omega))) ?_
                  show Xv E q_m_X8_add 144 [Value.ref am, Value.int (zi y), Value.int (zi z), Value.int (zi (wbe (M 1) y 0 (-1))), Value.int (zi ((M2 1) 3)), Value.int (zi k)] [] (q_mw h am (uM (uA M2 1 (zro (M2 1) (104 + 36 * M2 1 3) k)) 1 ((104 + 36 * ((M2 1) 3)) + 0) y)) Q
                  refine xv (x_aload_n 145 d_X8_add_144 rfl rfl) ?_
                  refine xv (x_getfield 148 d_X8_add_145 rfl f_8_9 (Nat.le_of_ble_eq_true rfl) (Nat.le_of_ble_eq_true rfl) (q_gf_of m_o rfl)) ?_
                  refine xv (x_iload 150 d_X8_add_148 rfl rfl) ?_
                  refine xv (x_ins1 153 (as := [Value.int (zi ((M2 1) 3))]) d_X8_add_150 rfl c_8_75 rfl (Nat.le_of_ble_eq_true rfl) (Nat.le_of_ble_eq_true rfl) (Nat.le_of_ble_eq_true rfl) rfl (S_X8_at (E := E) (h := h) (am := am) (M := (uM (uA M2 1 (zro (M2 1) (104 + 36 * M2 1 3) k)) 1 ((104 + 36 * ((M2 1) 3)) + 0) y)))) ?_
                  show Xv E q_m_X8_add 153 [Value.ref am, Value.int (zi y), Value.int (zi z), Value.int (zi (wbe (M 1) y 0 (-1))), Value.int (zi ((M2 1) 3)), Value.int (zi k)] [Value.int (zi (104 + 36 * ((M2 1) 3))), Value.ref (am + 1)] (q_mw h am (uM (uA M2 1 (zro (M2 1) (104 + 36 * M2 1 3) k)) 1 ((104 + 36 * ((M2 1) 3)) + 0) y)) Q
                  refine xv (x_iconst 154 d_X8_add_153 rfl) ?_
                  refine xv (x_iadd 155 d_X8_add_154 rfl) ?_
                  refine xv (x_iload_n 156 d_X8_add_155 rfl rfl) ?_
                  refine xv (x_iastore 157 d_X8_add_156 rfl (m_s1 (by omega) (by omega))) ?_
                  show Xv E q_m_X8_add 157 [Value.ref am, Value.int (zi y), Value.int (zi z), Value.int (zi (wbe (M 1) y 0 (-1))), Value.int (zi ((M2 1) 3)), Value.int (zi k)] [] (q_mw h am (uM (uM (uA M2 1 (zro (M2 1) (104 + 36 * M2 1 3) k)) 1 ((104 + 36 * ((M2 1) 3)) + 0) y) 1 ((104 + 36 * ((M2 1) 3)) + 1) z)) Q
                  refine xv (x_aload_n 158 d_X8_add_157 rfl rfl) ?_
                  refine xv (x_getfield 161 d_X8_add_158 rfl f_8_9 (Nat.le_of_ble_eq_true rfl) (Nat.le_of_ble_eq_true rfl) (q_gf_of m_o rfl)) ?_
                  refine xv (x_iload 163 d_X8_add_161 rfl rfl) ?_
                  refine xv (x_ins1 166 (as := [Value.int (zi ((M2 1) 3))]) d_X8_add_163 rfl c_8_75 rfl (Nat.le_of_ble_eq_true rfl) (Nat.le_of_ble_eq_true rfl) (Nat.le_of_ble_eq_true rfl) rfl (S_X8_at (E := E) (h := h) (am := am) (M := (uM (uM (uA M2 1 (zro (M2 1) (104 + 36 * M2 1 3) k)) 1 ((104 + 36 * ((M2 1) 3)) + 0) y) 1 ((104 + 36 * ((M2 1) 3)) + 1) z)))) ?_
                  show Xv E q_m_X8_add 166 [Value.ref am, Value.int (zi y), Value.int (zi z), Value.int (zi (wbe (M 1) y 0 (-1))), Value.int (zi ((M2 1) 3)), Value.int (zi k)] [Value.int (zi (104 + 36 * ((M2 1) 3))), Value.ref (am + 1)] (q_mw h am (uM (uM (uA M2 1 (zro (M2 1) (104 + 36 * M2 1 3) k)) 1 ((104 + 36 * ((M2 1) 3)) + 0) y) 1 ((104 + 36 * ((M2 1) 3)) + 1) z)) Q
                  refine xv (x_iconst 167 d_X8_add_166 rfl) ?_
                  refine xv (x_iadd 168 d_X8_add_167 rfl) ?_
                  refine xv (x_iconst 169 d_X8_add_168 rfl) ?_
                  refine xv (x_iastore 170 d_X8_add_169 rfl (m_s1 (by omega) (by omega))) ?_
                  show Xv E q_m_X8_add 170 [Value.ref am, Value.int (zi y), Value.int (zi z), Value.int (zi (wbe (M 1) y 0 (-1))), Value.int (zi ((M2 1) 3)), Value.int (zi k)] [] (q_mw h am (uM (uM (uM (uA M2 1 (zro (M2 1) (104 + 36 * M2 1 3) k)) 1 ((104 + 36 * ((M2 1) 3)) + 0) y) 1 ((104 + 36 * ((M2 1) 3)) + 1) z) 1 ((104 + 36 * ((M2 1) 3)) + 2) (-1))) Q
                  refine xv (x_aload_n 171 d_X8_add_170 rfl rfl) ?_
                  refine xv (x_getfield 174 d_X8_add_171 rfl f_8_9 (Nat.le_of_ble_eq_true rfl) (Nat.le_of_ble_eq_true rfl) (q_gf_of m_o rfl)) ?_
                  refine xv (x_iconst 175 d_X8_add_174 rfl) ?_
                  refine xv (x_dup2 176 d_X8_add_175 rfl rfl rfl) ?_
                  refine xv (x_iaload 177 d_X8_add_176 rfl ((m_g1 (by omega) (by omega)).trans (rfl : _ = some (Value.int (zi ((u1 (u1 (u1 (zro (M2 1) (104 + 36 * M2 1 3) k) ((104 + 36 * ((M2 1) 3)) + 0) y) ((104 + 36 * ((M2 1) 3)) + 1) z) ((104 + 36 * ((M2 1) 3)) + 2) (-1)) 3)))))) ?_
                  refine xv (x_iconst 178 d_X8_add_177 rfl) ?_
                  refine xv (x_iadd 179 d_X8_add_178 rfl) ?_
                  refine xv (x_iastore 180 d_X8_add_179 rfl (m_s1 (by omega) (by omega))) ?_
                  show Xv E q_m_X8_add 180 [Value.ref am, Value.int (zi y), Value.int (zi z), Value.int (zi (wbe (M 1) y 0 (-1))), Value.int (zi ((M2 1) 3)), Value.int (zi k)] [] (q_mw h am (uM (uM (uM (uM (uA M2 1 (zro (M2 1) (104 + 36 * M2 1 3) k)) 1 ((104 + 36 * ((M2 1) 3)) + 0) y) 1 ((104 + 36 * ((M2 1) 3)) + 1) z) 1 ((104 + 36 * ((M2 1) 3)) + 2) (-1)) 1 3 (((u1 (u1 (u1 (zro (M2 1) (104 + 36 * M2 1 3) k) ((104 + 36 * ((M2 1) 3)) + 0) y) ((104 + 36 * ((M2 1) 3)) + 1) z) ((104 + 36 * ((M2 1) 3)) + 2) (-1)) 3) + 1))) Q
                  refine xv (x_iload 182 d_X8_add_180 rfl rfl) ?_
                  refine xv_r (x_ireturn d_X8_add_182 rfl rfl) ?_
                  have er : mAdd (M 1) y z = (0, 0) := by unfold mAdd; repeat (first | rw [if_pos (by omega)] | rw [if_neg (by omega)])
                  have ek : k = 36 := by omega
                  subst ek
                  refine hQ _ _ ?_
                  unfold mMut
                  rw [er, if_pos rfl]
                  refine ⟨by rw [h23], ?_⟩
                  rw [hM2]
                  unfold rAdd
                  rw [← e2]
                  have e3 : ∀ (a b c : Int), u1 (u1 (u1 (zro (M2 1) (104 + 36 * M2 1 3) 36) (104 + 36 * M2 1 3) a) (104 + 36 * M2 1 3 + 1) b) (104 + 36 * M2 1 3 + 2) c 3 = M2 1 3 := fun a b c => by
                    rw [u1_ne (by omega), u1_ne (by omega), u1_ne (by omega)]
                    exact if_neg (by omega)
                  simp only [uM_uA]
                  rw [show (104 + 36 * M2 1 3 + 0) = 104 + 36 * M2 1 3 by omega]
                  first | rfl | (rw [e3]) | skip
                · refine xv (x_aload_n 112 d_X8_add_111 rfl rfl) ?_
                  refine xv (x_getfield 115 d_X8_add_112 rfl f_8_9 (Nat.le_of_ble_eq_true rfl) (Nat.le_of_ble_eq_true rfl) (q_gf_of m_o rfl)) ?_
                  refine xv (x_iload 117 d_X8_add_115 rfl rfl) ?_
                  refine xv (x_ins1 120 (as := [Value.int (zi ((M2 1) 3))]) d_X8_add_117 rfl c_8_75 rfl (Nat.le_of_ble_eq_true rfl) (Nat.le_of_ble_eq_true rfl) (Nat.le_of_ble_eq_true rfl) rfl (S_X8_at (E := E) (h := h) (am := am) (M := (uA M2 1 (zro (M2 1) (104 + 36 * M2 1 3) k))))) ?_
                  show Xv E q_m_X8_add 120 [Value.ref am, Value.int (zi y), Value.int (zi z), Value.int (zi (wbe (M 1) y 0 (-1))), Value.int (zi ((M2 1) 3)), Value.int (zi k)] [Value.int (zi (104 + 36 * ((M2 1) 3))), Value.ref (am + 1)] (q_mw h am (uA M2 1 (zro (M2 1) (104 + 36 * M2 1 3) k))) Q
                  refine xv (x_iload 122 d_X8_add_120 rfl rfl) ?_
                  refine xv (x_iadd 123 d_X8_add_122 rfl) ?_
                  refine xv (x_iconst 124 d_X8_add_123 rfl) ?_
                  refine xv (x_iastore 125 d_X8_add_124 rfl (m_s1 (by omega) (by omega))) ?_
                  show Xv E q_m_X8_add 125 [Value.ref am, Value.int (zi y), Value.int (zi z), Value.int (zi (wbe (M 1) y 0 (-1))), Value.int (zi ((M2 1) 3)), Value.int (zi k)] [] (q_mw h am (uM (uA M2 1 (zro (M2 1) (104 + 36 * M2 1 3) k)) 1 ((104 + 36 * ((M2 1) 3)) + k) 0)) Q
                  refine xv (x_iinc 128 d_X8_add_125 rfl rfl) ?_
                  show Xv E q_m_X8_add 128 [Value.ref am, Value.int (zi y), Value.int (zi z), Value.int (zi (wbe (M 1) y 0 (-1))), Value.int (zi ((M2 1) 3)), Value.int (zi (k + 1))] [] (q_mw h am (uM (uA M2 1 (zro (M2 1) (104 + 36 * M2 1 3) k)) 1 ((104 + 36 * ((M2 1) 3)) + k) 0)) Q
                  refine xv (x_goto 104 d_X8_add_128 rfl) ?_
                  have ez := @uM_uA M2 (zro (M2 1) (104 + 36 * M2 1 3) k) 1 (104 + 36 * M2 1 3 + k) 0
                  rw [zro_s k0] at ez
                  rw [ez]
                  exact ih104 _ (by omega) (k + 1) (by omega) (by omega) rfl
            have i0 := L104 _ 0 (by omega) (by omega) rfl
            rw [zro_0, uA_self] at i0
            exact i0
          · refine xv (x_aload_n 83 d_X8_add_82 rfl rfl) ?_
            refine xv (x_iconst 84 d_X8_add_83 rfl) ?_
            refine xv (x_iload_n 85 d_X8_add_84 rfl rfl) ?_
            obtain ⟨r85, h85, e85, z85, y85⟩ := S_X8_refuse (E := E) (h := h) (am := am) (M := (uM M 0 5 0)) (y := 5) (z := wbe (M 1) y 0 (-1)) 
            subst z85
            subst y85
            refine xv (x_inv1 88 (as := [Value.int (zi 5), Value.int (zi (wbe (M 1) y 0 (-1)))]) d_X8_add_85 rfl c_8_90 rfl (Nat.le_of_ble_eq_true rfl) (Nat.le_of_ble_eq_true rfl) m_o (Nat.le_of_ble_eq_true rfl) (Nat.le_of_ble_eq_true rfl) rfl e85) ?_
            show Xv E q_m_X8_add 88 [Value.ref am, Value.int (zi y), Value.int (zi z), Value.int (zi (wbe (M 1) y 0 (-1))), Value.null, Value.null] [Value.int (zi 0)] (q_mw h am (uM (uM (uM (uM M 0 5 0) 0 5 1) 0 6 5) 0 7 (wbe (M 1) y 0 (-1)))) Q
            refine xv_r (x_ireturn d_X8_add_88 rfl rfl) ?_
            have er : mAdd (M 1) y z = (5, (wbe (M 1) y 0 (-1))) := by unfold mAdd; repeat (first | rw [if_pos (by omega)] | rw [if_neg (by omega)])
            refine hQ _ _ ?_
            unfold mMut
            rw [er]
            exact ⟨rfl, rfl⟩
        · replace k60 := bI_0.mp k60
          refine xv (x_aload_n 64 d_X8_add_63 rfl rfl) ?_
          refine xv (x_iconst 65 d_X8_add_64 rfl) ?_
          refine xv (x_iload_n 66 d_X8_add_65 rfl rfl) ?_
          obtain ⟨r66, h66, e66, z66, y66⟩ := S_X8_refuse (E := E) (h := h) (am := am) (M := (uM M 0 5 0)) (y := 4) (z := y) 
          subst z66
          subst y66
          refine xv (x_inv1 69 (as := [Value.int (zi 4), Value.int (zi y)]) d_X8_add_66 rfl c_8_90 rfl (Nat.le_of_ble_eq_true rfl) (Nat.le_of_ble_eq_true rfl) m_o (Nat.le_of_ble_eq_true rfl) (Nat.le_of_ble_eq_true rfl) rfl e66) ?_
          show Xv E q_m_X8_add 69 [Value.ref am, Value.int (zi y), Value.int (zi z), Value.null, Value.null, Value.null] [Value.int (zi 0)] (q_mw h am (uM (uM (uM (uM M 0 5 0) 0 5 1) 0 6 4) 0 7 y)) Q
          refine xv_r (x_ireturn d_X8_add_69 rfl rfl) ?_
          have er : mAdd (M 1) y z = (4, y) := by unfold mAdd; repeat (first | rw [if_pos (by omega)] | rw [if_neg (by omega)])
          refine hQ _ _ ?_
          unfold mMut
          rw [er]
          exact ⟨rfl, rfl⟩
      · refine xv (x_aload_n 49 d_X8_add_48 rfl rfl) ?_
        refine xv (x_iconst 50 d_X8_add_49 rfl) ?_
        refine xv (x_iconst 51 d_X8_add_50 rfl) ?_
        obtain ⟨r51, h51, e51, z51, y51⟩ := S_X8_refuse (E := E) (h := h) (am := am) (M := (uM M 0 5 0)) (y := 3) (z := 0) 
        subst z51
        subst y51
        refine xv (x_inv1 54 (as := [Value.int (zi 3), Value.int (zi 0)]) d_X8_add_51 rfl c_8_90 rfl (Nat.le_of_ble_eq_true rfl) (Nat.le_of_ble_eq_true rfl) m_o (Nat.le_of_ble_eq_true rfl) (Nat.le_of_ble_eq_true rfl) rfl e51) ?_
        show Xv E q_m_X8_add 54 [Value.ref am, Value.int (zi y), Value.int (zi z), Value.null, Value.null, Value.null] [Value.int (zi 0)] (q_mw h am (uM (uM (uM (uM M 0 5 0) 0 5 1) 0 6 3) 0 7 0)) Q
        refine xv_r (x_ireturn d_X8_add_54 rfl rfl) ?_
        have er : mAdd (M 1) y z = (3, 0) := by unfold mAdd; repeat (first | rw [if_pos (by omega)] | rw [if_neg (by omega)])
        refine hQ _ _ ?_
        unfold mMut
        rw [er]
        exact ⟨rfl, rfl⟩
    · replace k27 := bI_0.mp k27
      refine xv (x_aload_n 31 d_X8_add_30 rfl rfl) ?_
      refine xv (x_iconst 32 d_X8_add_31 rfl) ?_
      refine xv (x_iconst 33 d_X8_add_32 rfl) ?_
      obtain ⟨r33, h33, e33, z33, y33⟩ := S_X8_refuse (E := E) (h := h) (am := am) (M := (uM M 0 5 0)) (y := 2) (z := 0) 
      subst z33
      subst y33
      refine xv (x_inv1 36 (as := [Value.int (zi 2), Value.int (zi 0)]) d_X8_add_33 rfl c_8_90 rfl (Nat.le_of_ble_eq_true rfl) (Nat.le_of_ble_eq_true rfl) m_o (Nat.le_of_ble_eq_true rfl) (Nat.le_of_ble_eq_true rfl) rfl e33) ?_
      show Xv E q_m_X8_add 36 [Value.ref am, Value.int (zi y), Value.int (zi z), Value.null, Value.null, Value.null] [Value.int (zi 0)] (q_mw h am (uM (uM (uM (uM M 0 5 0) 0 5 1) 0 6 2) 0 7 0)) Q
      refine xv_r (x_ireturn d_X8_add_36 rfl rfl) ?_
      have er : mAdd (M 1) y z = (2, 0) := by unfold mAdd; repeat (first | rw [if_pos (by omega)] | rw [if_neg (by omega)])
      refine hQ _ _ ?_
      unfold mMut
      rw [er]
      exact ⟨rfl, rfl⟩
  · replace k10 := bI_0.mp k10
    refine xv (x_aload_n 14 d_X8_add_13 rfl rfl) ?_
    refine xv (x_iconst 15 d_X8_add_14 rfl) ?_
    refine xv (x_iconst 16 d_X8_add_15 rfl) ?_
    obtain ⟨r16, h16, e16, z16, y16⟩ := S_X8_refuse (E := E) (h := h) (am := am) (M := (uM M 0 5 0)) (y := 1) (z := 0) 
    subst z16
    subst y16
    refine xv (x_inv1 19 (as := [Value.int (zi 1), Value.int (zi 0)]) d_X8_add_16 rfl c_8_90 rfl (Nat.le_of_ble_eq_true rfl) (Nat.le_of_ble_eq_true rfl) m_o (Nat.le_of_ble_eq_true rfl) (Nat.le_of_ble_eq_true rfl) rfl e16) ?_
    show Xv E q_m_X8_add 19 [Value.ref am, Value.int (zi y), Value.int (zi z), Value.null, Value.null, Value.null] [Value.int (zi 0)] (q_mw h am (uM (uM (uM (uM M 0 5 0) 0 5 1) 0 6 1) 0 7 0)) Q
    refine xv_r (x_ireturn d_X8_add_19 rfl rfl) ?_
    have er : mAdd (M 1) y z = (1, 0) := by unfold mAdd; repeat (first | rw [if_pos (by omega)] | rw [if_neg (by omega)])
    refine hQ _ _ ?_
    unfold mMut
    rw [er]
    exact ⟨rfl, rfl⟩
end RN
