/-! what the law draws (printed by program) -/
section F8
variable {E : q_E} {h : q_H} {x b L : Nat} {ys : Nat → Int32}
theorem rc_nn {C R : Int} (hC : 3 ≤ C ∧ C ≤ 6) (hR : 2 ≤ R ∧ R ≤ 5) : 0 ≤ R * C := Int.mul_nonneg (by omega) (by omega)
theorem P_drawn (hE : q_EN E x) (hb : b < x) (hS : E.2 b = some (.int, L, fun j => .int (ys j))) (hL : L ≤ 260) (hLo : Lo h x) (hs : h.2 = (some x, 0, 0)) : ∃ r_ h', q_cl E q_m_L_drawn [Value.ref b] h = some (r_, h') ∧ (r_ = .inl (some (.ref x)) ∧ ∃ l kr T, (0 ≤ T ∧ T ≤ 1000) ∧ DR x T 1000 100000 l kr h') := by
  suffices K : ∀ Q : q_R → q_H → Prop, (∀ r_ h', (r_ = .inl (some (.ref x)) ∧ ∃ l kr T, (0 ≤ T ∧ T ≤ 1000) ∧ DR x T 1000 100000 l kr h') → Q r_ h') → Xv E q_m_L_drawn 0 [Value.ref b, Value.null, Value.null, Value.null, Value.null, Value.null, Value.null, Value.null, Value.null] [] h Q from K _ fun _ _ p => p
  intro Q hQ
  obtain ⟨ta0, tb0, et0, ⟨ta0_, tb0_⟩, TT0_⟩ := txt_cst (E := E) (h := h) (i := 0) hE hLo (by decide)
  have TT0 : TXT E h ta0 tb0 0 (fun k => (q_stb 0).getD k.toNat 0) := TT0_
  obtain ⟨ta1, tb1, et1, ⟨ta1_, tb1_⟩, TT1_⟩ := txt_cst (E := E) (h := h) (i := 1) hE hLo (by decide)
  have TT1 : TXT E h ta1 tb1 1 (fun k => (q_stb 1).getD k.toNat 0) := TT1_
  obtain ⟨ta2, tb2, et2, ⟨ta2_, tb2_⟩, TT2_⟩ := txt_cst (E := E) (h := h) (i := 2) hE hLo (by decide)
  have TT2 : TXT E h ta2 tb2 1 (fun k => (q_stb 2).getD k.toNat 0) := TT2_
  obtain ⟨ta3, tb3, et3, ⟨ta3_, tb3_⟩, TT3_⟩ := txt_cst (E := E) (h := h) (i := 3) hE hLo (by decide)
  have TT3 : TXT E h ta3 tb3 1 (fun k => (q_stb 3).getD k.toNat 0) := TT3_
  obtain ⟨ta4, tb4, et4, ⟨ta4_, tb4_⟩, TT4_⟩ := txt_cst (E := E) (h := h) (i := 4) hE hLo (by decide)
  have TT4 : TXT E h ta4 tb4 1 (fun k => (q_stb 4).getD k.toNat 0) := TT4_
  obtain ⟨ta5, tb5, et5, ⟨ta5_, tb5_⟩, TT5_⟩ := txt_cst (E := E) (h := h) (i := 5) hE hLo (by decide)
  have TT5 : TXT E h ta5 tb5 1 (fun k => (q_stb 5).getD k.toNat 0) := TT5_
  obtain ⟨h0, e0, a0, f0, z0⟩ := al_x (h := h) (e := .inr (7, q_df 7)) (n := q_N 7) hs
  refine xv (xA_new 3 d_L_drawn_0 rfl rfl (Nat.le_of_ble_eq_true rfl) (sz_1 hs) e0) ?_
  show Xv E q_m_L_drawn 3 [Value.ref b, Value.null, Value.null, Value.null, Value.null, Value.null, Value.null, Value.null, Value.null] [Value.ref x] h0 Q
  refine xv (x_dup 4 d_L_drawn_3 rfl rfl) ?_
  have L0 : Lo h0 x := fun q hq => (f0.2 q (Or.inl hq)).trans (hLo q hq)
  obtain ⟨r4, h4, e4, x4, C4, z4, f4⟩ := S_X7_init (E := E) (x := x) a0 z0 hE L0 (Nat.le_refl _)
  subst x4
  have P4 : PX x ini ini 0 0 (fun _ => ini) 0 (fun _ => 0) 0 (-1) (-1) 0 h4 (0) h4 := ⟨⟨C4, fy_rf (Int.le_refl 0)⟩, rgc_ini, ⟨⟨by omega, by omega⟩, ⟨by omega, by omega⟩, by omega, by omega⟩, fun q hq => (f4.2 q (Or.inl hq)).trans (L0 q hq)⟩
  refine xv (x_ini 7 (as := []) d_L_drawn_4 rfl c_9_112 rfl (Nat.le_of_ble_eq_true rfl) (Nat.le_of_ble_eq_true rfl) (Nat.le_of_ble_eq_true rfl) rfl e4) ?_
  show Xv E q_m_L_drawn 7 [Value.ref b, Value.null, Value.null, Value.null, Value.null, Value.null, Value.null, Value.null, Value.null] [Value.ref x] h4 Q
  refine xv (x_astore_n 8 d_L_drawn_7 rfl (Nat.le_of_ble_eq_true rfl)) ?_
  show Xv E q_m_L_drawn 8 [Value.ref b, Value.ref x, Value.null, Value.null, Value.null, Value.null, Value.null, Value.null, Value.null] [] h4 Q
  refine xv (x_iconst 9 d_L_drawn_8 rfl) ?_
  refine xv (x_aload_n 10 d_L_drawn_9 rfl rfl) ?_
  refine xv (x_iconst 11 d_L_drawn_10 rfl) ?_
  obtain ⟨v11, e11⟩ := A_cell (E := E) (k := 0) (px_lo P4 _ hb) hS hL (by omega) (by omega)
  refine xv (x_ins1 14 (as := [Value.ref b, Value.int (zi 0)]) d_L_drawn_11 rfl c_9_113 rfl (Nat.le_of_ble_eq_true rfl) (Nat.le_of_ble_eq_true rfl) (Nat.le_of_ble_eq_true rfl) rfl e11) ?_
  show Xv E q_m_L_drawn 14 [Value.ref b, Value.ref x, Value.null, Value.null, Value.null, Value.null, Value.null, Value.null, Value.null] [Value.int v11, Value.int (zi 2)] h4 Q
  refine xv (x_iconst 15 d_L_drawn_14 rfl) ?_
  refine xv (x_iushr 16 d_L_drawn_15 rfl) ?_
  obtain ⟨z15, z015, z115, ez15⟩ := shr_x v11 (q := 1) (by omega) (by omega)
  rw [ez15]
  refine xv (x_iconst 17 d_L_drawn_16 rfl) ?_
  refine xv (x_irem 18 d_L_drawn_17 rfl (by omega) (by omega) (by omega) (by omega)) ?_
  refine xv (x_iadd 19 d_L_drawn_18 rfl) ?_
  refine xv (x_istore_n 20 d_L_drawn_19 rfl (Nat.le_of_ble_eq_true rfl)) ?_
  show Xv E q_m_L_drawn 20 [Value.ref b, Value.ref x, Value.int (zi (2 + (z15 % 4))), Value.null, Value.null, Value.null, Value.null, Value.null, Value.null] [] h4 Q
  obtain ⟨R, eR, R_⟩ : ∃ R : Int, 2 + (z15 % 4) = R ∧ 2 ≤ R ∧ R ≤ 5 := ⟨_, rfl, by omega⟩
  rw [eR]
  refine xv (x_iconst 21 d_L_drawn_20 rfl) ?_
  refine xv (x_aload_n 22 d_L_drawn_21 rfl rfl) ?_
  refine xv (x_iconst 23 d_L_drawn_22 rfl) ?_
  obtain ⟨v23, e23⟩ := A_cell (E := E) (k := 1) (px_lo P4 _ hb) hS hL (by omega) (by omega)
  refine xv (x_ins1 26 (as := [Value.ref b, Value.int (zi 1)]) d_L_drawn_23 rfl c_9_113 rfl (Nat.le_of_ble_eq_true rfl) (Nat.le_of_ble_eq_true rfl) (Nat.le_of_ble_eq_true rfl) rfl e23) ?_
  show Xv E q_m_L_drawn 26 [Value.ref b, Value.ref x, Value.int (zi R), Value.null, Value.null, Value.null, Value.null, Value.null, Value.null] [Value.int v23, Value.int (zi 3)] h4 Q
  refine xv (x_iconst 27 d_L_drawn_26 rfl) ?_
  refine xv (x_iushr 28 d_L_drawn_27 rfl) ?_
  obtain ⟨z27, z027, z127, ez27⟩ := shr_x v23 (q := 1) (by omega) (by omega)
  rw [ez27]
  refine xv (x_iconst 29 d_L_drawn_28 rfl) ?_
  refine xv (x_irem 30 d_L_drawn_29 rfl (by omega) (by omega) (by omega) (by omega)) ?_
  refine xv (x_iadd 31 d_L_drawn_30 rfl) ?_
  refine xv (x_istore_n 32 d_L_drawn_31 rfl (Nat.le_of_ble_eq_true rfl)) ?_
  show Xv E q_m_L_drawn 32 [Value.ref b, Value.ref x, Value.int (zi R), Value.int (zi (3 + (z27 % 4))), Value.null, Value.null, Value.null, Value.null, Value.null] [] h4 Q
  obtain ⟨C, eC, C_⟩ : ∃ C : Int, 3 + (z27 % 4) = C ∧ 3 ≤ C ∧ C ≤ 6 := ⟨_, rfl, by omega⟩
  rw [eC]
  refine xv (x_ldcs 34 d_L_drawn_32 rfl rfl (Nat.le_of_ble_eq_true rfl) (show E.1 (6 + 2 * 0) = some (.ref ta0) from et0)) ?_
  show Xv E q_m_L_drawn 34 [Value.ref b, Value.ref x, Value.int (zi R), Value.int (zi C), Value.null, Value.null, Value.null, Value.null, Value.null] [Value.ref ta0] h4 Q
  refine xv (x_astore 36 d_L_drawn_34 rfl (Nat.le_of_ble_eq_true rfl)) ?_
  show Xv E q_m_L_drawn 36 [Value.ref b, Value.ref x, Value.int (zi R), Value.int (zi C), Value.ref ta0, Value.null, Value.null, Value.null, Value.null] [] h4 Q
  refine xv (x_iconst 37 d_L_drawn_36 rfl) ?_
  refine xv (x_istore 39 d_L_drawn_37 rfl (Nat.le_of_ble_eq_true rfl)) ?_
  show Xv E q_m_L_drawn 39 [Value.ref b, Value.ref x, Value.int (zi R), Value.int (zi C), Value.ref ta0, Value.int (zi 0), Value.null, Value.null, Value.null] [] h4 Q
  have L39 : ∀ (n_ : Nat) (k : Int) (ta : Nat) (tb : Nat) (nt : Nat) (f : Int → Int) (b6 : Value) (b7 : Value) (b8 : Value) (h_39 : q_H), (0 ≤ k) → (k ≤ R * C) → (PX x ini ini 0 0 (fun _ => ini) 0 (fun _ => 0) 0 (-1) (-1) 0 h_39 (0) h_39) → (TXT E h_39 ta tb nt f) → (TI C k nt f) → (∃ s c w : Nat, h_39.2 = (some s, c, w) ∧ x + 444 ≤ s ∧ (ta < x ∨ x + 444 ≤ ta ∧ ta < s) ∧ (tb < x ∨ x + 444 ≤ tb ∧ tb < s) ∧ (c : Int) ≤ 444 + 10 * k ∧ (w : Int) ≤ 10000 + 2000 * k) → (R * C - k).toNat = n_ → Xv E q_m_L_drawn 39 [Value.ref b, Value.ref x, Value.int (zi R), Value.int (zi C), Value.ref ta, Value.int (zi k), b6, b7, b8] [] h_39 Q := by
    intro n_
    induction n_ using Nat.strongRecOn with
    | _ n_ ih39 =>
      intro k ta tb nt f b6 b7 b8 h_39 y0 y1 P_39 TT TI_39 B_39 em
      have qN8 : q_N 8 = 4 := rfl
      have tb_ := ti_b C_ R_ TI_39 y0 y1
      obtain ⟨s, c_, w_, Z39, zs, zt, zu, zc, zw⟩ := B_39
      have F39 : ∀ q, (q < s ∨ s + 10 ≤ q) → h_39.1 q = h_39.1 q := fun _ _ => rfl
      refine xv (x_iload 41 d_L_drawn_39 rfl rfl) ?_
      refine xv (x_iload_n 42 d_L_drawn_41 rfl rfl) ?_
      refine xv (x_iload_n 43 d_L_drawn_42 rfl rfl) ?_
      refine xv (x_imul 44 d_L_drawn_43 rfl) ?_
      refine v_icmp_ge 156 47 d_L_drawn_44 rfl rfl (by omega) (by omega) (by omega) (by omega) (fun k44 => ?_) (fun k44 => ?_)
      · refine xv (x_aload_n 157 d_L_drawn_156 rfl rfl) ?_
        refine xv (x_aload 159 d_L_drawn_157 rfl rfl) ?_
        obtain ⟨r159, g159, e159, c159, cc159, D159⟩ := P_layout_ (E := E) hE TT (by omega) (by omega) P_39
        have ek : k = R * C := by omega
        rw [ek] at TI_39
        have ef := ti_e C_ R_ TI_39 cc159
        have ef' : fpl c159 nt (nt : Int).toNat 0 0 0 0 = (-1, R, C) := by rw [Int.toNat_natCast]; exact ef
        rcases D159 with ⟨d1, h159, nx1, ct1, kl1, d2, d3, d4⟩ | ⟨d1, _⟩
        rotate_left
        · rw [ef'] at d1; exact absurd rfl d1
        obtain ⟨q1, q2⟩ := Prod.mk.inj (Option.some.inj d2)
        subst q1
        subst q2
        have J159 := jv_lay (l := ini) (n := (nt : Int)) (by omega) d1 (fun y a b => ini_0 _ (by omega) (by omega)) rfl
        have T159 := ((st_lay (q := c159) st_ini (N := (nt : Int)) (by omega) fun i _ _ => rfl).2 d1).1
        have B159 : BZ x h_39 (444 + 10 * k) (10000 + 2000 * k) := ⟨s, c_, w_, Z39, zs, zc, zw⟩
        have e159' : q_cl E q_m_L_layout_ [.ref x, .ref ta] h_39 = some (.inl (some (.int (zi (R * C)))), g159) := by rw [ef'] at e159; exact e159
        refine xv (x_ins1 162 (as := [Value.ref x, Value.ref ta]) d_L_drawn_159 rfl c_9_139 rfl (Nat.le_of_ble_eq_true rfl) (Nat.le_of_ble_eq_true rfl) (Nat.le_of_ble_eq_true rfl) rfl (e159')) ?_
        show Xv E q_m_L_drawn 162 [Value.ref b, Value.ref x, Value.int (zi R), Value.int (zi C), Value.ref ta, Value.int (zi k), b6, b7, b8] [Value.int (zi (R * C))] g159 Q
        refine xv (x_iload_n 163 d_L_drawn_162 rfl rfl) ?_
        refine xv (x_iload_n 164 d_L_drawn_163 rfl rfl) ?_
        refine xv (x_imul 165 d_L_drawn_164 rfl) ?_
        refine v_icmp_ne 192 168 d_L_drawn_165 rfl rfl (by omega) (by omega) (by omega) (by omega) (fun k165 => ?_) (fun k165 => ?_)
        · omega
        · refine xv (x_aload_n 169 d_L_drawn_168 rfl rfl) ?_
          refine xv (x_iconst 170 d_L_drawn_169 rfl) ?_
          refine xv (x_bipush 172 d_L_drawn_170 rfl rfl) ?_
          refine xv (x_aload_n 173 d_L_drawn_172 rfl rfl) ?_
          refine xv (x_bipush 175 d_L_drawn_173 rfl rfl) ?_
          obtain ⟨v175, e175⟩ := A_cell (E := E) (k := 9) (px_lo d4 _ hb) hS hL (by omega) (by omega)
          refine xv (x_ins1 178 (as := [Value.ref b, Value.int (zi 9)]) d_L_drawn_175 rfl c_9_113 rfl (Nat.le_of_ble_eq_true rfl) (Nat.le_of_ble_eq_true rfl) (Nat.le_of_ble_eq_true rfl) rfl e175) ?_
          show Xv E q_m_L_drawn 178 [Value.ref b, Value.ref x, Value.int (zi R), Value.int (zi C), Value.ref ta, Value.int (zi k), b6, b7, b8] [Value.int v175, Value.int (zi 8), Value.int (zi 2), Value.ref x] g159 Q
          refine xv (x_iconst 179 d_L_drawn_178 rfl) ?_
          refine xv (x_iushr 180 d_L_drawn_179 rfl) ?_
          obtain ⟨z179, z0179, z1179, ez179⟩ := shr_x v175 (q := 1) (by omega) (by omega)
          rw [ez179]
          refine xv (x_bipush 182 d_L_drawn_180 rfl rfl) ?_
          refine xv (x_irem 183 d_L_drawn_182 rfl (by omega) (by omega) (by omega) (by omega)) ?_
          refine xv (x_iadd 184 d_L_drawn_183 rfl) ?_
          have j7 := J159.2.2.2
          rw [show ini 7 = 30 from rfl] at j7
          obtain ⟨h184, l184, kr184, e184, D184, n3, n4⟩ := D_set (E := E) (z := 8 + (z179 % 9)) hE d4 T159 J159.1 B159 (by omega) (by omega) (by omega)
          rw [j7] at e184
          rw [J159.2.1] at n3
          rw [J159.2.2.1] at n4
          obtain ⟨nx_, ct_, kl_, c__, fa_, kd__, m_, P184, hT184, hJ184, B184⟩ := id D184
          refine xv (x_ins1 187 (as := [Value.ref x, Value.int (zi 2), Value.int (zi (8 + (z179 % 9)))]) d_L_drawn_184 rfl c_9_142 rfl (Nat.le_of_ble_eq_true rfl) (Nat.le_of_ble_eq_true rfl) (Nat.le_of_ble_eq_true rfl) rfl e184) ?_
          show Xv E q_m_L_drawn 187 [Value.ref b, Value.ref x, Value.int (zi R), Value.int (zi C), Value.ref ta, Value.int (zi k), b6, b7, b8] [Value.int (zi 30)] h184 Q
          refine xv (x_bipush 189 d_L_drawn_187 rfl rfl) ?_
          refine v_icmp_eq 194 192 d_L_drawn_189 rfl rfl (by omega) (by omega) (by omega) (by omega) (fun k189 => ?_) (fun k189 => ?_)
          · refine xv (x_iconst 195 d_L_drawn_194 rfl) ?_
            refine xv (x_istore 197 d_L_drawn_195 rfl (Nat.le_of_ble_eq_true rfl)) ?_
            show Xv E q_m_L_drawn 197 [Value.ref b, Value.ref x, Value.int (zi R), Value.int (zi C), Value.ref ta, Value.int (zi 0), b6, b7, b8] [] h184 Q
            have L197 : ∀ (n_ : Nat) (i : Int) (l : Int → Int) (kr : Int) (b197_0 : Value) (b197_1 : Value) (b197_2 : Value) (h_197 : q_H), (0 ≤ i ∧ i ≤ 4) → (DR x (0) (760 + 10 * i) (70100 + 60 * i) l kr h_197) → (l 3 ≤ i ∧ l 4 = 0) → (4 - i).toNat = n_ → Xv E q_m_L_drawn 197 [Value.ref b, Value.ref x, Value.int (zi R), Value.int (zi C), Value.ref ta, Value.int (zi i), b197_0, b197_1, b197_2] [] h_197 Q := by
              intro n_
              induction n_ using Nat.strongRecOn with
              | _ n_ ih197 =>
                intro i l kr b197_0 b197_1 b197_2 h_197 y197 D_197 x197 em
                obtain ⟨nx, ct, kl, c, fa, kd_, m, P_197, T197, J197, B197⟩ := id D_197
                have hR := P_197.2.1
                have gc := rg_c hR
                have gr := rg_r hR
                have go := rg_o hR
                refine xv (x_iload 199 d_L_drawn_197 rfl rfl) ?_
                refine xv (x_iconst 200 d_L_drawn_199 rfl) ?_
                refine v_icmp_ge 286 203 d_L_drawn_200 rfl rfl (by omega) (by omega) (by omega) (by omega) (fun k200 => ?_) (fun k200 => ?_)
                · refine xv (x_iconst 287 d_L_drawn_286 rfl) ?_
                  refine xv (x_istore 289 d_L_drawn_287 rfl (Nat.le_of_ble_eq_true rfl)) ?_
                  show Xv E q_m_L_drawn 289 [Value.ref b, Value.ref x, Value.int (zi R), Value.int (zi C), Value.ref ta, Value.int (zi 0), b197_0, b197_1, b197_2] [] h_197 Q
                  have L289 : ∀ (n_ : Nat) (i : Int) (l : Int → Int) (kr : Int) (b289_0 : Value) (b289_1 : Value) (b289_2 : Value) (h_289 : q_H), (0 ≤ i ∧ i ≤ 4) → (DR x (0) (800 + 10 * i) (70340 + 60 * i) l kr h_289) → (l 3 ≤ 4 ∧ l 4 ≤ i) → (4 - i).toNat = n_ → Xv E q_m_L_drawn 289 [Value.ref b, Value.ref x, Value.int (zi R), Value.int (zi C), Value.ref ta, Value.int (zi i), b289_0, b289_1, b289_2] [] h_289 Q := by
                    intro n_
                    induction n_ using Nat.strongRecOn with
                    | _ n_ ih289 =>
                      intro i l kr b289_0 b289_1 b289_2 h_289 y289 D_289 x289 em
                      obtain ⟨nx, ct, kl, c, fa, kd_, m, P_289, T289, J289, B289⟩ := id D_289
                      have hR := P_289.2.1
                      have gc := rg_c hR
                      have gr := rg_r hR
                      have go := rg_o hR
                      refine xv (x_iload 291 d_L_drawn_289 rfl rfl) ?_
                      refine xv (x_iconst 292 d_L_drawn_291 rfl) ?_
                      refine v_icmp_ge 389 295 d_L_drawn_292 rfl rfl (by omega) (by omega) (by omega) (by omega) (fun k292 => ?_) (fun k292 => ?_)
                      · refine xv (x_iconst 390 d_L_drawn_389 rfl) ?_
                        refine xv (x_istore 392 d_L_drawn_390 rfl (Nat.le_of_ble_eq_true rfl)) ?_
                        show Xv E q_m_L_drawn 392 [Value.ref b, Value.ref x, Value.int (zi R), Value.int (zi C), Value.ref ta, Value.int (zi 0), b289_0, b289_1, b289_2] [] h_289 Q
                        have L392 : ∀ (n_ : Nat) (i : Int) (l : Int → Int) (kr : Int) (b392_0 : Value) (b392_1 : Value) (b392_2 : Value) (h_392 : q_H), (0 ≤ i ∧ i ≤ 6) → (DR x (99 * i) (840 + 20 * i) (70580 + 120 * i) l kr h_392) → (True) → (6 - i).toNat = n_ → Xv E q_m_L_drawn 392 [Value.ref b, Value.ref x, Value.int (zi R), Value.int (zi C), Value.ref ta, Value.int (zi i), b392_0, b392_1, b392_2] [] h_392 Q := by
                          intro n_
                          induction n_ using Nat.strongRecOn with
                          | _ n_ ih392 =>
                            intro i l kr b392_0 b392_1 b392_2 h_392 y392 D_392 x392 em
                            obtain ⟨nx, ct, kl, c, fa, kd_, m, P_392, T392, J392, B392⟩ := id D_392
                            have hR := P_392.2.1
                            have gc := rg_c hR
                            have gr := rg_r hR
                            have go := rg_o hR
                            refine xv (x_iload 394 d_L_drawn_392 rfl rfl) ?_
                            refine xv (x_bipush 396 d_L_drawn_394 rfl rfl) ?_
                            refine v_icmp_ge 583 399 d_L_drawn_396 rfl rfl (by omega) (by omega) (by omega) (by omega) (fun k396 => ?_) (fun k396 => ?_)
                            · refine xv (x_aload_n 584 d_L_drawn_583 rfl rfl) ?_
                              refine xv_r (x_areturn d_L_drawn_584 rfl) ?_
                              exact hQ _ _ ⟨rfl, l, kr, 99 * i, by omega, dr_mo (show DR x (99 * i) (840 + 20 * i) (70580 + 120 * i) l kr h_392 from D_392) (by omega) (by omega)⟩
                            · refine xv (x_aload_n 400 d_L_drawn_399 rfl rfl) ?_
                              refine xv (x_bipush 402 d_L_drawn_400 rfl rfl) ?_
                              refine xv (x_iload 404 d_L_drawn_402 rfl rfl) ?_
                              refine xv (x_iadd 405 d_L_drawn_404 rfl) ?_
                              obtain ⟨v405, e405⟩ := A_cell (E := E) (k := (18 + i)) (px_lo P_392 _ hb) hS hL (by omega) (by omega)
                              refine xv (x_ins1 408 (as := [Value.ref b, Value.int (zi (18 + i))]) d_L_drawn_405 rfl c_9_113 rfl (Nat.le_of_ble_eq_true rfl) (Nat.le_of_ble_eq_true rfl) (Nat.le_of_ble_eq_true rfl) rfl e405) ?_
                              show Xv E q_m_L_drawn 408 [Value.ref b, Value.ref x, Value.int (zi R), Value.int (zi C), Value.ref ta, Value.int (zi i), b392_0, b392_1, b392_2] [Value.int v405] h_392 Q
                              refine xv (x_iconst 409 d_L_drawn_408 rfl) ?_
                              refine xv (x_iushr 410 d_L_drawn_409 rfl) ?_
                              obtain ⟨z409, z0409, z1409, ez409⟩ := shr_x v405 (q := 1) (by omega) (by omega)
                              rw [ez409]
                              refine xv (x_istore 412 d_L_drawn_410 rfl (Nat.le_of_ble_eq_true rfl)) ?_
                              show Xv E q_m_L_drawn 412 [Value.ref b, Value.ref x, Value.int (zi R), Value.int (zi C), Value.ref ta, Value.int (zi i), Value.int (zi z409), b392_1, b392_2] [] h_392 Q
                              have J488 : ∀ (l : Int → Int) (kr : Int) (b488_7 : Value) (h_488 : q_H), (DR x (99 * i) (840 + 20 * i + 5) (70580 + 120 * i + 30) l kr h_488) → Xv E q_m_L_drawn 488 [Value.ref b, Value.ref x, Value.int (zi R), Value.int (zi C), Value.ref ta, Value.int (zi i), Value.int (zi z409), b488_7, b392_2] [] h_488 Q := by
                                intro l kr b488_7 h_488 D_488
                                obtain ⟨nx, ct, kl, c, fa, kd_, m, P_488, T488, J488, B488⟩ := id D_488
                                have hR := P_488.2.1
                                have gc := rg_c hR
                                have gr := rg_r hR
                                have go := rg_o hR
                                have J549 : ∀ (l : Int → Int) (kr : Int) (b549_7 : Value) (h_549 : q_H), (DR x (99 * i) (840 + 20 * i + 10) (70580 + 120 * i + 60) l kr h_549) → Xv E q_m_L_drawn 549 [Value.ref b, Value.ref x, Value.int (zi R), Value.int (zi C), Value.ref ta, Value.int (zi i), Value.int (zi z409), b549_7, b392_2] [] h_549 Q := by
                                  intro l kr b549_7 h_549 D_549
                                  obtain ⟨nx, ct, kl, c, fa, kd_, m, P_549, T549, J549, B549⟩ := id D_549
                                  have hR := P_549.2.1
                                  have gc := rg_c hR
                                  have gr := rg_r hR
                                  have go := rg_o hR
                                  refine xv (x_iload 551 d_L_drawn_549 rfl rfl) ?_
                                  refine xv (x_bipush 553 d_L_drawn_551 rfl rfl) ?_
                                  refine xv (x_iushr 554 d_L_drawn_553 rfl) ?_
                                  obtain ⟨z553, z0553, z1553, ez553⟩ := shr_x (zi z409) (q := 17) (by omega) (by omega)
                                  rw [ez553]
                                  refine xv (x_iconst 555 d_L_drawn_554 rfl) ?_
                                  refine xv (x_irem 556 d_L_drawn_555 rfl (by omega) (by omega) (by omega) (by omega)) ?_
                                  refine v_if_ne 577 559 d_L_drawn_556 rfl rfl (by omega) (by omega) (fun k556 => ?_) (fun k556 => ?_)
                                  · refine xv (x_iinc 580 d_L_drawn_577 rfl rfl) ?_
                                    show Xv E q_m_L_drawn 580 [Value.ref b, Value.ref x, Value.int (zi R), Value.int (zi C), Value.ref ta, Value.int (zi (i + 1)), Value.int (zi z409), b549_7, b392_2] [] h_549 Q
                                    refine xv (x_goto 392 d_L_drawn_580 rfl) ?_
                                    exact ih392 _ (by omega) (i + 1) _ _ _ _ _ _ (by omega) (dr_mt (dr_mo (dr_rd (k' := 0) P_549 T549 J549 B549 (by omega) (by omega)) (by omega) (by omega)) (by omega) (by omega)) trivial rfl
                                  · refine xv (x_aload_n 560 d_L_drawn_559 rfl rfl) ?_
                                    refine xv (x_iconst 561 d_L_drawn_560 rfl) ?_
                                    refine xv (x_iload 563 d_L_drawn_561 rfl rfl) ?_
                                    refine xv (x_bipush 565 d_L_drawn_563 rfl rfl) ?_
                                    refine xv (x_iushr 566 d_L_drawn_565 rfl) ?_
                                    obtain ⟨z565, z0565, z1565, ez565⟩ := shr_x (zi z409) (q := 20) (by omega) (by omega)
                                    rw [ez565]
                                    refine xv (x_iconst 567 d_L_drawn_566 rfl) ?_
                                    refine xv (x_irem 568 d_L_drawn_567 rfl (by omega) (by omega) (by omega) (by omega)) ?_
                                    refine xv (x_iadd 569 d_L_drawn_568 rfl) ?_
                                    obtain ⟨v569, h569, l569, kr569, e569, D569, K569, n3569, n4569⟩ := D_pass (E := E) (y := (1 + (z565 % 4))) P_549 T549 J549 B549 (by omega) (by omega) (by omega) (by omega)
                                    obtain ⟨nx569, ct569, kl569, c569, fa569, kd569, m569, P569, T569, J569, B569⟩ := id D569
                                    have R569 := P569.2.1
                                    refine xv (x_ins1 572 (as := [Value.ref x, Value.int (zi (1 + (z565 % 4)))]) d_L_drawn_569 rfl c_9_160 rfl (Nat.le_of_ble_eq_true rfl) (Nat.le_of_ble_eq_true rfl) (Nat.le_of_ble_eq_true rfl) rfl e569) ?_
                                    show Xv E q_m_L_drawn 572 [Value.ref b, Value.ref x, Value.int (zi R), Value.int (zi C), Value.ref ta, Value.int (zi i), Value.int (zi z409), b549_7, b392_2] [Value.int (zi v569)] h569 Q
                                    refine v_if_ge 577 575 d_L_drawn_572 rfl rfl (by omega) (by omega) (fun k572 => ?_) (fun k572 => ?_)
                                    · refine xv (x_iinc 580 d_L_drawn_577 rfl rfl) ?_
                                      show Xv E q_m_L_drawn 580 [Value.ref b, Value.ref x, Value.int (zi R), Value.int (zi C), Value.ref ta, Value.int (zi (i + 1)), Value.int (zi z409), b549_7, b392_2] [] h569 Q
                                      refine xv (x_goto 392 d_L_drawn_580 rfl) ?_
                                      exact ih392 _ (by omega) (i + 1) _ _ _ _ _ _ (by omega) (dr_mt (dr_mo (dr_rd (k' := 0) P569 T569 J569 B569 (by omega) (by omega)) (by omega) (by omega)) (by omega) (by omega)) trivial rfl
                                    · omega
                                refine xv (x_aload_n 489 d_L_drawn_488 rfl rfl) ?_
                                refine xv (x_iconst 490 d_L_drawn_489 rfl) ?_
                                obtain ⟨h490, e490, P490⟩ := A_account2 (E := E)  P_488 
                                refine xv (x_inv1 493 (as := [Value.int (zi 2)]) d_L_drawn_490 rfl c_9_109 rfl (Nat.le_of_ble_eq_true rfl) (Nat.le_of_ble_eq_true rfl) (px_o P_488) (Nat.le_of_ble_eq_true rfl) (Nat.le_of_ble_eq_true rfl) rfl e490) ?_
                                have q490 := rg_n2 hR
                                show Xv E q_m_L_drawn 493 [Value.ref b, Value.ref x, Value.int (zi R), Value.int (zi C), Value.ref ta, Value.int (zi i), Value.int (zi z409), b488_7, b392_2] [Value.int (zi (l 3))] h490 Q
                                refine v_if_le 549 496 d_L_drawn_493 rfl rfl (by omega) (by omega) (fun k493 => ?_) (fun k493 => ?_)
                                · exact J549 _ _ _ _ (dr_mo (dr_rd (k' := 0) P490 T488 J488 B488 (by omega) (by omega)) (by omega) (by omega))
                                · refine xv (x_aload_n 497 d_L_drawn_496 rfl rfl) ?_
                                  refine xv (x_iload 499 d_L_drawn_497 rfl rfl) ?_
                                  refine xv (x_bipush 501 d_L_drawn_499 rfl rfl) ?_
                                  refine xv (x_iushr 502 d_L_drawn_501 rfl) ?_
                                  obtain ⟨z501, z0501, z1501, ez501⟩ := shr_x (zi z409) (q := 8) (by omega) (by omega)
                                  rw [ez501]
                                  refine xv (x_aload_n 503 d_L_drawn_502 rfl rfl) ?_
                                  refine xv (x_iconst 504 d_L_drawn_503 rfl) ?_
                                  obtain ⟨h504, e504, P504⟩ := A_account2 (E := E)  P490 
                                  refine xv (x_inv1 507 (as := [Value.int (zi 2)]) d_L_drawn_504 rfl c_9_109 rfl (Nat.le_of_ble_eq_true rfl) (Nat.le_of_ble_eq_true rfl) (px_o P490) (Nat.le_of_ble_eq_true rfl) (Nat.le_of_ble_eq_true rfl) rfl e504) ?_
                                  have q504 := rg_n2 hR
                                  show Xv E q_m_L_drawn 507 [Value.ref b, Value.ref x, Value.int (zi R), Value.int (zi C), Value.ref ta, Value.int (zi i), Value.int (zi z409), b488_7, b392_2] [Value.int (zi (l 3)), Value.int (zi z501), Value.ref x] h504 Q
                                  refine xv (x_irem 508 d_L_drawn_507 rfl (by omega) (by omega) (by omega) (by omega)) ?_
                                  have m507 := emod_r (a := z501) (b := (l 3)) (by omega) (by omega)
                                  refine xv (x_iload 510 d_L_drawn_508 rfl rfl) ?_
                                  refine xv (x_bipush 512 d_L_drawn_510 rfl rfl) ?_
                                  refine xv (x_iushr 513 d_L_drawn_512 rfl) ?_
                                  obtain ⟨z512, z0512, z1512, ez512⟩ := shr_x (zi z409) (q := 11) (by omega) (by omega)
                                  rw [ez512]
                                  refine xv (x_aload_n 514 d_L_drawn_513 rfl rfl) ?_
                                  obtain ⟨h514, e514, P514⟩ := A_cells (E := E)  P504 
                                  refine xv (x_ins1 517 (as := [Value.ref x]) d_L_drawn_514 rfl c_9_145 rfl (Nat.le_of_ble_eq_true rfl) (Nat.le_of_ble_eq_true rfl) (Nat.le_of_ble_eq_true rfl) rfl e514) ?_
                                  show Xv E q_m_L_drawn 517 [Value.ref b, Value.ref x, Value.int (zi R), Value.int (zi C), Value.ref ta, Value.int (zi i), Value.int (zi z409), b488_7, b392_2] [Value.int (zi (cs l)), Value.int (zi z512), Value.int (zi (z501 % (l 3))), Value.ref x] h514 Q
                                  refine xv (x_irem 518 d_L_drawn_517 rfl (by omega) (by omega) (by omega) (by omega)) ?_
                                  have m517 := emod_r (a := z512) (b := (cs l)) (by omega) (by omega)
                                  obtain ⟨v518, h518, l518, kr518, e518, D518, K518, n3518, n4518⟩ := D_plan (E := E) (y := (z501 % (l 3))) (z := (z512 % (cs l))) P514 T488 J488 B488 (by omega) (by omega) ⟨by omega, by omega⟩ ⟨by omega, by omega⟩
                                  obtain ⟨nx518, ct518, kl518, c518, fa518, kd518, m518, P518, T518, J518, B518⟩ := id D518
                                  have R518 := P518.2.1
                                  refine xv (x_ins1 521 (as := [Value.ref x, Value.int (zi (z501 % (l 3))), Value.int (zi (z512 % (cs l)))]) d_L_drawn_518 rfl c_9_158 rfl (Nat.le_of_ble_eq_true rfl) (Nat.le_of_ble_eq_true rfl) (Nat.le_of_ble_eq_true rfl) rfl e518) ?_
                                  show Xv E q_m_L_drawn 521 [Value.ref b, Value.ref x, Value.int (zi R), Value.int (zi C), Value.ref ta, Value.int (zi i), Value.int (zi z409), b488_7, b392_2] [Value.int (zi v518)] h518 Q
                                  refine xv (x_istore 523 d_L_drawn_521 rfl (Nat.le_of_ble_eq_true rfl)) ?_
                                  show Xv E q_m_L_drawn 523 [Value.ref b, Value.ref x, Value.int (zi R), Value.int (zi C), Value.ref ta, Value.int (zi i), Value.int (zi z409), Value.int (zi v518), b392_2] [] h518 Q
                                  refine xv (x_iload 525 d_L_drawn_523 rfl rfl) ?_
                                  refine v_if_ge 549 528 d_L_drawn_525 rfl rfl (by omega) (by omega) (fun k525 => ?_) (fun k525 => ?_)
                                  · exact J549 _ _ _ _ (dr_mo (dr_rd (k' := 0) P518 T518 J518 B518 (by omega) (by omega)) (by omega) (by omega))
                                  · refine xv (x_aload_n 529 d_L_drawn_528 rfl rfl) ?_
                                    refine xv (x_iconst 530 d_L_drawn_529 rfl) ?_
                                    obtain ⟨h530, e530, P530⟩ := A_reason (E := E) P518
                                    rw [show reV kr518 = kr518 from if_neg (by omega)] at e530
                                    refine xv (x_ins1 533 (as := [Value.ref x, Value.int (zi 0)]) d_L_drawn_530 rfl c_9_150 rfl (Nat.le_of_ble_eq_true rfl) (Nat.le_of_ble_eq_true rfl) (Nat.le_of_ble_eq_true rfl) rfl e530) ?_
                                    show Xv E q_m_L_drawn 533 [Value.ref b, Value.ref x, Value.int (zi R), Value.int (zi C), Value.ref ta, Value.int (zi i), Value.int (zi z409), Value.int (zi v518), b392_2] [Value.int (zi kr518)] h530 Q
                                    refine xv (x_iconst 534 d_L_drawn_533 rfl) ?_
                                    refine v_icmp_eq 547 537 d_L_drawn_534 rfl rfl (by omega) (by omega) (by omega) (by omega) (fun k534 => ?_) (fun k534 => ?_)
                                    · omega
                                    · refine xv (x_aload_n 538 d_L_drawn_537 rfl rfl) ?_
                                      refine xv (x_iconst 539 d_L_drawn_538 rfl) ?_
                                      obtain ⟨h539, e539, P539⟩ := A_reason (E := E) P530
                                      rw [show reV kr518 = kr518 from if_neg (by omega)] at e539
                                      refine xv (x_ins1 542 (as := [Value.ref x, Value.int (zi 0)]) d_L_drawn_539 rfl c_9_150 rfl (Nat.le_of_ble_eq_true rfl) (Nat.le_of_ble_eq_true rfl) (Nat.le_of_ble_eq_true rfl) rfl e539) ?_
                                      show Xv E q_m_L_drawn 542 [Value.ref b, Value.ref x, Value.int (zi R), Value.int (zi C), Value.ref ta, Value.int (zi i), Value.int (zi z409), Value.int (zi v518), b392_2] [Value.int (zi kr518)] h539 Q
                                      refine xv (x_bipush 544 d_L_drawn_542 rfl rfl) ?_
                                      refine v_icmp_le 549 547 d_L_drawn_544 rfl rfl (by omega) (by omega) (by omega) (by omega) (fun k544 => ?_) (fun k544 => ?_)
                                      · exact J549 _ _ _ _ (dr_mo (dr_rd (k' := 2) P539 T518 J518 B518 (by omega) (by omega)) (by omega) (by omega))
                                      · omega
                              refine xv (x_aload_n 413 d_L_drawn_412 rfl rfl) ?_
                              refine xv (x_iconst 414 d_L_drawn_413 rfl) ?_
                              obtain ⟨h414, e414, P414⟩ := A_account2 (E := E)  P_392 
                              refine xv (x_inv1 417 (as := [Value.int (zi 2)]) d_L_drawn_414 rfl c_9_109 rfl (Nat.le_of_ble_eq_true rfl) (Nat.le_of_ble_eq_true rfl) (px_o P_392) (Nat.le_of_ble_eq_true rfl) (Nat.le_of_ble_eq_true rfl) rfl e414) ?_
                              have q414 := rg_n2 hR
                              show Xv E q_m_L_drawn 417 [Value.ref b, Value.ref x, Value.int (zi R), Value.int (zi C), Value.ref ta, Value.int (zi i), Value.int (zi z409), b392_1, b392_2] [Value.int (zi (l 3))] h414 Q
                              refine v_if_le 488 420 d_L_drawn_417 rfl rfl (by omega) (by omega) (fun k417 => ?_) (fun k417 => ?_)
                              · exact J488 _ _ _ _ (dr_mo (dr_rd (k' := 0) P414 T392 J392 B392 (by omega) (by omega)) (by omega) (by omega))
                              · refine xv (x_aload_n 421 d_L_drawn_420 rfl rfl) ?_
                                refine xv (x_iconst 422 d_L_drawn_421 rfl) ?_
                                obtain ⟨h422, e422, P422⟩ := A_account3 (E := E)  P414 
                                refine xv (x_inv1 425 (as := [Value.int (zi 3)]) d_L_drawn_422 rfl c_9_109 rfl (Nat.le_of_ble_eq_true rfl) (Nat.le_of_ble_eq_true rfl) (px_o P414) (Nat.le_of_ble_eq_true rfl) (Nat.le_of_ble_eq_true rfl) rfl e422) ?_
                                have q422 := rg_n3 hR
                                show Xv E q_m_L_drawn 425 [Value.ref b, Value.ref x, Value.int (zi R), Value.int (zi C), Value.ref ta, Value.int (zi i), Value.int (zi z409), b392_1, b392_2] [Value.int (zi (l 4))] h422 Q
                                refine v_if_le 488 428 d_L_drawn_425 rfl rfl (by omega) (by omega) (fun k425 => ?_) (fun k425 => ?_)
                                · exact J488 _ _ _ _ (dr_mo (dr_rd (k' := 0) P422 T392 J392 B392 (by omega) (by omega)) (by omega) (by omega))
                                · refine xv (x_iload 430 d_L_drawn_428 rfl rfl) ?_
                                  refine xv (x_iconst 431 d_L_drawn_430 rfl) ?_
                                  refine xv (x_irem 432 d_L_drawn_431 rfl (by omega) (by omega) (by omega) (by omega)) ?_
                                  refine v_if_ne 488 435 d_L_drawn_432 rfl rfl (by omega) (by omega) (fun k432 => ?_) (fun k432 => ?_)
                                  · exact J488 _ _ _ _ (dr_mo (dr_rd (k' := 0) P422 T392 J392 B392 (by omega) (by omega)) (by omega) (by omega))
                                  · refine xv (x_aload_n 436 d_L_drawn_435 rfl rfl) ?_
                                    refine xv (x_iload 438 d_L_drawn_436 rfl rfl) ?_
                                    refine xv (x_iconst 439 d_L_drawn_438 rfl) ?_
                                    refine xv (x_iushr 440 d_L_drawn_439 rfl) ?_
                                    obtain ⟨z439, z0439, z1439, ez439⟩ := shr_x (zi z409) (q := 2) (by omega) (by omega)
                                    rw [ez439]
                                    refine xv (x_aload_n 441 d_L_drawn_440 rfl rfl) ?_
                                    refine xv (x_iconst 442 d_L_drawn_441 rfl) ?_
                                    obtain ⟨h442, e442, P442⟩ := A_account2 (E := E)  P422 
                                    refine xv (x_inv1 445 (as := [Value.int (zi 2)]) d_L_drawn_442 rfl c_9_109 rfl (Nat.le_of_ble_eq_true rfl) (Nat.le_of_ble_eq_true rfl) (px_o P422) (Nat.le_of_ble_eq_true rfl) (Nat.le_of_ble_eq_true rfl) rfl e442) ?_
                                    have q442 := rg_n2 hR
                                    show Xv E q_m_L_drawn 445 [Value.ref b, Value.ref x, Value.int (zi R), Value.int (zi C), Value.ref ta, Value.int (zi i), Value.int (zi z409), b392_1, b392_2] [Value.int (zi (l 3)), Value.int (zi z439), Value.ref x] h442 Q
                                    refine xv (x_irem 446 d_L_drawn_445 rfl (by omega) (by omega) (by omega) (by omega)) ?_
                                    have m445 := emod_r (a := z439) (b := (l 3)) (by omega) (by omega)
                                    refine xv (x_iload 448 d_L_drawn_446 rfl rfl) ?_
                                    refine xv (x_iconst 449 d_L_drawn_448 rfl) ?_
                                    refine xv (x_iushr 450 d_L_drawn_449 rfl) ?_
                                    obtain ⟨z449, z0449, z1449, ez449⟩ := shr_x (zi z409) (q := 5) (by omega) (by omega)
                                    rw [ez449]
                                    refine xv (x_aload_n 451 d_L_drawn_450 rfl rfl) ?_
                                    refine xv (x_iconst 452 d_L_drawn_451 rfl) ?_
                                    obtain ⟨h452, e452, P452⟩ := A_account3 (E := E)  P442 
                                    refine xv (x_inv1 455 (as := [Value.int (zi 3)]) d_L_drawn_452 rfl c_9_109 rfl (Nat.le_of_ble_eq_true rfl) (Nat.le_of_ble_eq_true rfl) (px_o P442) (Nat.le_of_ble_eq_true rfl) (Nat.le_of_ble_eq_true rfl) rfl e452) ?_
                                    have q452 := rg_n3 hR
                                    show Xv E q_m_L_drawn 455 [Value.ref b, Value.ref x, Value.int (zi R), Value.int (zi C), Value.ref ta, Value.int (zi i), Value.int (zi z409), b392_1, b392_2] [Value.int (zi (l 4)), Value.int (zi z449), Value.int (zi (z439 % (l 3))), Value.ref x] h452 Q
                                    refine xv (x_irem 456 d_L_drawn_455 rfl (by omega) (by omega) (by omega) (by omega)) ?_
                                    have m455 := emod_r (a := z449) (b := (l 4)) (by omega) (by omega)
                                    obtain ⟨v456, h456, l456, kr456, e456, D456, K456, n3456, n4456⟩ := D_assign (E := E) (y := (z439 % (l 3))) (z := (z449 % (l 4))) P452 T392 J392 B392 (by omega) (by omega) ⟨by omega, by omega⟩ ⟨by omega, by omega⟩
                                    obtain ⟨nx456, ct456, kl456, c456, fa456, kd456, m456, P456, T456, J456, B456⟩ := id D456
                                    have R456 := P456.2.1
                                    refine xv (x_ins1 459 (as := [Value.ref x, Value.int (zi (z439 % (l 3))), Value.int (zi (z449 % (l 4)))]) d_L_drawn_456 rfl c_9_156 rfl (Nat.le_of_ble_eq_true rfl) (Nat.le_of_ble_eq_true rfl) (Nat.le_of_ble_eq_true rfl) rfl e456) ?_
                                    show Xv E q_m_L_drawn 459 [Value.ref b, Value.ref x, Value.int (zi R), Value.int (zi C), Value.ref ta, Value.int (zi i), Value.int (zi z409), b392_1, b392_2] [Value.int (zi v456)] h456 Q
                                    refine xv (x_istore 461 d_L_drawn_459 rfl (Nat.le_of_ble_eq_true rfl)) ?_
                                    show Xv E q_m_L_drawn 461 [Value.ref b, Value.ref x, Value.int (zi R), Value.int (zi C), Value.ref ta, Value.int (zi i), Value.int (zi z409), Value.int (zi v456), b392_2] [] h456 Q
                                    refine xv (x_iload 463 d_L_drawn_461 rfl rfl) ?_
                                    refine v_if_ge 488 466 d_L_drawn_463 rfl rfl (by omega) (by omega) (fun k463 => ?_) (fun k463 => ?_)
                                    · exact J488 _ _ _ _ (dr_mo (dr_rd (k' := 0) P456 T456 J456 B456 (by omega) (by omega)) (by omega) (by omega))
                                    · refine xv (x_aload_n 467 d_L_drawn_466 rfl rfl) ?_
                                      refine xv (x_iconst 468 d_L_drawn_467 rfl) ?_
                                      obtain ⟨h468, e468, P468⟩ := A_reason (E := E) P456
                                      rw [show reV kr456 = kr456 from if_neg (by omega)] at e468
                                      refine xv (x_ins1 471 (as := [Value.ref x, Value.int (zi 0)]) d_L_drawn_468 rfl c_9_150 rfl (Nat.le_of_ble_eq_true rfl) (Nat.le_of_ble_eq_true rfl) (Nat.le_of_ble_eq_true rfl) rfl e468) ?_
                                      show Xv E q_m_L_drawn 471 [Value.ref b, Value.ref x, Value.int (zi R), Value.int (zi C), Value.ref ta, Value.int (zi i), Value.int (zi z409), Value.int (zi v456), b392_2] [Value.int (zi kr456)] h468 Q
                                      refine xv (x_bipush 473 d_L_drawn_471 rfl rfl) ?_
                                      refine v_icmp_eq 488 476 d_L_drawn_473 rfl rfl (by omega) (by omega) (by omega) (by omega) (fun k473 => ?_) (fun k473 => ?_)
                                      · exact J488 _ _ _ _ (dr_mo (dr_rd (k' := 1) P468 T456 J456 B456 (by omega) (by omega)) (by omega) (by omega))
                                      · refine xv (x_aload_n 477 d_L_drawn_476 rfl rfl) ?_
                                        refine xv (x_iconst 478 d_L_drawn_477 rfl) ?_
                                        obtain ⟨h478, e478, P478⟩ := A_reason (E := E) P468
                                        rw [show reV kr456 = kr456 from if_neg (by omega)] at e478
                                        refine xv (x_ins1 481 (as := [Value.ref x, Value.int (zi 0)]) d_L_drawn_478 rfl c_9_150 rfl (Nat.le_of_ble_eq_true rfl) (Nat.le_of_ble_eq_true rfl) (Nat.le_of_ble_eq_true rfl) rfl e478) ?_
                                        show Xv E q_m_L_drawn 481 [Value.ref b, Value.ref x, Value.int (zi R), Value.int (zi C), Value.ref ta, Value.int (zi i), Value.int (zi z409), Value.int (zi v456), b392_2] [Value.int (zi kr456)] h478 Q
                                        refine xv (x_bipush 483 d_L_drawn_481 rfl rfl) ?_
                                        refine v_icmp_eq 488 486 d_L_drawn_483 rfl rfl (by omega) (by omega) (by omega) (by omega) (fun k483 => ?_) (fun k483 => ?_)
                                        · exact J488 _ _ _ _ (dr_mo (dr_rd (k' := 2) P478 T456 J456 B456 (by omega) (by omega)) (by omega) (by omega))
                                        · omega
                        exact L392 _ 0 _ _ _ _ _ _ (by omega) (dr_mo D_289 (by omega) (by omega)) trivial rfl
                      · refine xv (x_aload_n 296 d_L_drawn_295 rfl rfl) ?_
                        refine xv (x_bipush 298 d_L_drawn_296 rfl rfl) ?_
                        refine xv (x_iload 300 d_L_drawn_298 rfl rfl) ?_
                        refine xv (x_iadd 301 d_L_drawn_300 rfl) ?_
                        obtain ⟨v301, e301⟩ := A_cell (E := E) (k := (14 + i)) (px_lo P_289 _ hb) hS hL (by omega) (by omega)
                        refine xv (x_ins1 304 (as := [Value.ref b, Value.int (zi (14 + i))]) d_L_drawn_301 rfl c_9_113 rfl (Nat.le_of_ble_eq_true rfl) (Nat.le_of_ble_eq_true rfl) (Nat.le_of_ble_eq_true rfl) rfl e301) ?_
                        show Xv E q_m_L_drawn 304 [Value.ref b, Value.ref x, Value.int (zi R), Value.int (zi C), Value.ref ta, Value.int (zi i), b289_0, b289_1, b289_2] [Value.int v301] h_289 Q
                        refine xv (x_iconst 305 d_L_drawn_304 rfl) ?_
                        refine xv (x_iushr 306 d_L_drawn_305 rfl) ?_
                        obtain ⟨z305, z0305, z1305, ez305⟩ := shr_x v301 (q := 1) (by omega) (by omega)
                        rw [ez305]
                        refine xv (x_istore 308 d_L_drawn_306 rfl (Nat.le_of_ble_eq_true rfl)) ?_
                        show Xv E q_m_L_drawn 308 [Value.ref b, Value.ref x, Value.int (zi R), Value.int (zi C), Value.ref ta, Value.int (zi i), Value.int (zi z305), b289_1, b289_2] [] h_289 Q
                        refine xv (x_aload_n 309 d_L_drawn_308 rfl rfl) ?_
                        refine xv (x_iconst 310 d_L_drawn_309 rfl) ?_
                        obtain ⟨h310, e310, P310⟩ := A_account3 (E := E)  P_289 
                        refine xv (x_inv1 313 (as := [Value.int (zi 3)]) d_L_drawn_310 rfl c_9_109 rfl (Nat.le_of_ble_eq_true rfl) (Nat.le_of_ble_eq_true rfl) (px_o P_289) (Nat.le_of_ble_eq_true rfl) (Nat.le_of_ble_eq_true rfl) rfl e310) ?_
                        have q310 := rg_n3 hR
                        show Xv E q_m_L_drawn 313 [Value.ref b, Value.ref x, Value.int (zi R), Value.int (zi C), Value.ref ta, Value.int (zi i), Value.int (zi z305), b289_1, b289_2] [Value.int (zi (l 4))] h310 Q
                        refine xv (x_istore 315 d_L_drawn_313 rfl (Nat.le_of_ble_eq_true rfl)) ?_
                        show Xv E q_m_L_drawn 315 [Value.ref b, Value.ref x, Value.int (zi R), Value.int (zi C), Value.ref ta, Value.int (zi i), Value.int (zi z305), Value.int (zi (l 4)), b289_2] [] h310 Q
                        refine xv (x_aload_n 316 d_L_drawn_315 rfl rfl) ?_
                        refine xv (x_iload 318 d_L_drawn_316 rfl rfl) ?_
                        refine xv (x_iconst 319 d_L_drawn_318 rfl) ?_
                        refine xv (x_iushr 320 d_L_drawn_319 rfl) ?_
                        obtain ⟨z319, z0319, z1319, ez319⟩ := shr_x (zi z305) (q := 3) (by omega) (by omega)
                        rw [ez319]
                        refine xv (x_iconst 321 d_L_drawn_320 rfl) ?_
                        refine xv (x_irem 322 d_L_drawn_321 rfl (by omega) (by omega) (by omega) (by omega)) ?_
                        refine xv (x_iload 324 d_L_drawn_322 rfl rfl) ?_
                        refine xv (x_aload_n 325 d_L_drawn_324 rfl rfl) ?_
                        obtain ⟨h325, e325, P325⟩ := A_cells (E := E)  P310 
                        refine xv (x_ins1 328 (as := [Value.ref x]) d_L_drawn_325 rfl c_9_145 rfl (Nat.le_of_ble_eq_true rfl) (Nat.le_of_ble_eq_true rfl) (Nat.le_of_ble_eq_true rfl) rfl e325) ?_
                        show Xv E q_m_L_drawn 328 [Value.ref b, Value.ref x, Value.int (zi R), Value.int (zi C), Value.ref ta, Value.int (zi i), Value.int (zi z305), Value.int (zi (l 4)), b289_2] [Value.int (zi (cs l)), Value.int (zi z305), Value.int (zi (z319 % 4)), Value.ref x] h325 Q
                        refine xv (x_irem 329 d_L_drawn_328 rfl (by omega) (by omega) (by omega) (by omega)) ?_
                        have m328 := emod_r (a := z305) (b := (cs l)) (by omega) (by omega)
                        refine xv (x_iload 331 d_L_drawn_329 rfl rfl) ?_
                        refine xv (x_iconst 332 d_L_drawn_331 rfl) ?_
                        refine xv (x_iushr 333 d_L_drawn_332 rfl) ?_
                        obtain ⟨z332, z0332, z1332, ez332⟩ := shr_x (zi z305) (q := 5) (by omega) (by omega)
                        rw [ez332]
                        refine xv (x_iconst 334 d_L_drawn_333 rfl) ?_
                        refine xv (x_irem 335 d_L_drawn_334 rfl (by omega) (by omega) (by omega) (by omega)) ?_
                        refine v_if_ne 342 338 d_L_drawn_335 rfl rfl (by omega) (by omega) (fun k335 => ?_) (fun k335 => ?_)
                        · refine xv (x_iload 344 d_L_drawn_342 rfl rfl) ?_
                          refine xv (x_bipush 346 d_L_drawn_344 rfl rfl) ?_
                          refine xv (x_iushr 347 d_L_drawn_346 rfl) ?_
                          obtain ⟨z346, z0346, z1346, ez346⟩ := shr_x (zi z305) (q := 6) (by omega) (by omega)
                          rw [ez346]
                          refine xv (x_aload_n 348 d_L_drawn_347 rfl rfl) ?_
                          obtain ⟨h348, e348, P348⟩ := A_cells (E := E)  P325 
                          refine xv (x_ins1 351 (as := [Value.ref x]) d_L_drawn_348 rfl c_9_145 rfl (Nat.le_of_ble_eq_true rfl) (Nat.le_of_ble_eq_true rfl) (Nat.le_of_ble_eq_true rfl) rfl e348) ?_
                          show Xv E q_m_L_drawn 351 [Value.ref b, Value.ref x, Value.int (zi R), Value.int (zi C), Value.ref ta, Value.int (zi i), Value.int (zi z305), Value.int (zi (l 4)), b289_2] [Value.int (zi (cs l)), Value.int (zi z346), Value.int (zi (z305 % (cs l))), Value.int (zi (z319 % 4)), Value.ref x] h348 Q
                          refine xv (x_irem 352 d_L_drawn_351 rfl (by omega) (by omega) (by omega) (by omega)) ?_
                          have m351 := emod_r (a := z346) (b := (cs l)) (by omega) (by omega)
                          refine xv (x_iconst 353 d_L_drawn_352 rfl) ?_
                          obtain ⟨v353, h353, l353, kr353, e353, D353, K353, n3353, n4353⟩ := D_order (E := E) (d := (z319 % 4)) (a := (z305 % (cs l))) (w := (z346 % (cs l))) P348 T289 J289 B289 (by omega) (by omega) ⟨by omega, by omega⟩ (Or.inr ⟨by omega, by omega⟩) (by omega) (by omega)
                          obtain ⟨nx353, ct353, kl353, c353, fa353, kd353, m353, P353, T353, J353, B353⟩ := id D353
                          have R353 := P353.2.1
                          refine xv (x_ins1 356 (as := [Value.ref x, Value.int (zi (z319 % 4)), Value.int (zi (z305 % (cs l))), Value.int (zi (z346 % (cs l))), Value.int (zi (-1))]) d_L_drawn_353 rfl c_9_153 rfl (Nat.le_of_ble_eq_true rfl) (Nat.le_of_ble_eq_true rfl) (Nat.le_of_ble_eq_true rfl) rfl e353) ?_
                          show Xv E q_m_L_drawn 356 [Value.ref b, Value.ref x, Value.int (zi R), Value.int (zi C), Value.ref ta, Value.int (zi i), Value.int (zi z305), Value.int (zi (l 4)), b289_2] [Value.int (zi v353)] h353 Q
                          refine xv (x_istore 358 d_L_drawn_356 rfl (Nat.le_of_ble_eq_true rfl)) ?_
                          show Xv E q_m_L_drawn 358 [Value.ref b, Value.ref x, Value.int (zi R), Value.int (zi C), Value.ref ta, Value.int (zi i), Value.int (zi z305), Value.int (zi (l 4)), Value.int (zi v353)] [] h353 Q
                          refine xv (x_iload 360 d_L_drawn_358 rfl rfl) ?_
                          refine xv (x_iload 362 d_L_drawn_360 rfl rfl) ?_
                          refine v_icmp_eq 383 365 d_L_drawn_362 rfl rfl (by omega) (by omega) (by omega) (by omega) (fun k362 => ?_) (fun k362 => ?_)
                          · refine xv (x_iinc 386 d_L_drawn_383 rfl rfl) ?_
                            show Xv E q_m_L_drawn 386 [Value.ref b, Value.ref x, Value.int (zi R), Value.int (zi C), Value.ref ta, Value.int (zi (i + 1)), Value.int (zi z305), Value.int (zi (l 4)), Value.int (zi v353)] [] h353 Q
                            refine xv (x_goto 289 d_L_drawn_386 rfl) ?_
                            exact ih289 _ (by omega) (i + 1) _ _ _ _ _ _ (by omega) (dr_mo (dr_rd (k' := 0) P353 T353 J353 B353 (by omega) (by omega)) (by omega) (by omega)) (by omega) rfl
                          · refine xv (x_iload 367 d_L_drawn_365 rfl rfl) ?_
                            refine xv (x_iconst 368 d_L_drawn_367 rfl) ?_
                            refine v_icmp_ne 381 371 d_L_drawn_368 rfl rfl (by omega) (by omega) (by omega) (by omega) (fun k368 => ?_) (fun k368 => ?_)
                            · omega
                            · refine xv (x_aload_n 372 d_L_drawn_371 rfl rfl) ?_
                              refine xv (x_iconst 373 d_L_drawn_372 rfl) ?_
                              obtain ⟨h373, e373, P373⟩ := A_reason (E := E) P353
                              rw [show reV kr353 = kr353 from if_neg (by omega)] at e373
                              refine xv (x_ins1 376 (as := [Value.ref x, Value.int (zi 0)]) d_L_drawn_373 rfl c_9_150 rfl (Nat.le_of_ble_eq_true rfl) (Nat.le_of_ble_eq_true rfl) (Nat.le_of_ble_eq_true rfl) rfl e373) ?_
                              show Xv E q_m_L_drawn 376 [Value.ref b, Value.ref x, Value.int (zi R), Value.int (zi C), Value.ref ta, Value.int (zi i), Value.int (zi z305), Value.int (zi (l 4)), Value.int (zi v353)] [Value.int (zi kr353)] h373 Q
                              refine xv (x_bipush 378 d_L_drawn_376 rfl rfl) ?_
                              refine v_icmp_eq 383 381 d_L_drawn_378 rfl rfl (by omega) (by omega) (by omega) (by omega) (fun k378 => ?_) (fun k378 => ?_)
                              · refine xv (x_iinc 386 d_L_drawn_383 rfl rfl) ?_
                                show Xv E q_m_L_drawn 386 [Value.ref b, Value.ref x, Value.int (zi R), Value.int (zi C), Value.ref ta, Value.int (zi (i + 1)), Value.int (zi z305), Value.int (zi (l 4)), Value.int (zi v353)] [] h373 Q
                                refine xv (x_goto 289 d_L_drawn_386 rfl) ?_
                                exact ih289 _ (by omega) (i + 1) _ _ _ _ _ _ (by omega) (dr_mo (dr_rd (k' := 1) P373 T353 J353 B353 (by omega) (by omega)) (by omega) (by omega)) (by omega) rfl
                              · omega
                        · refine xv (x_iconst 339 d_L_drawn_338 rfl) ?_
                          refine xv (x_goto 352 d_L_drawn_339 rfl) ?_
                          refine xv (x_iconst 353 d_L_drawn_352 rfl) ?_
                          obtain ⟨v353, h353, l353, kr353, e353, D353, K353, n3353, n4353⟩ := D_order (E := E) (d := (z319 % 4)) (a := (z305 % (cs l))) (w := (-1)) P325 T289 J289 B289 (by omega) (by omega) ⟨by omega, by omega⟩ (Or.inl rfl) (by omega) (by omega)
                          obtain ⟨nx353, ct353, kl353, c353, fa353, kd353, m353, P353, T353, J353, B353⟩ := id D353
                          have R353 := P353.2.1
                          refine xv (x_ins1 356 (as := [Value.ref x, Value.int (zi (z319 % 4)), Value.int (zi (z305 % (cs l))), Value.int (zi (-1)), Value.int (zi (-1))]) d_L_drawn_353 rfl c_9_153 rfl (Nat.le_of_ble_eq_true rfl) (Nat.le_of_ble_eq_true rfl) (Nat.le_of_ble_eq_true rfl) rfl e353) ?_
                          show Xv E q_m_L_drawn 356 [Value.ref b, Value.ref x, Value.int (zi R), Value.int (zi C), Value.ref ta, Value.int (zi i), Value.int (zi z305), Value.int (zi (l 4)), b289_2] [Value.int (zi v353)] h353 Q
                          refine xv (x_istore 358 d_L_drawn_356 rfl (Nat.le_of_ble_eq_true rfl)) ?_
                          show Xv E q_m_L_drawn 358 [Value.ref b, Value.ref x, Value.int (zi R), Value.int (zi C), Value.ref ta, Value.int (zi i), Value.int (zi z305), Value.int (zi (l 4)), Value.int (zi v353)] [] h353 Q
                          refine xv (x_iload 360 d_L_drawn_358 rfl rfl) ?_
                          refine xv (x_iload 362 d_L_drawn_360 rfl rfl) ?_
                          refine v_icmp_eq 383 365 d_L_drawn_362 rfl rfl (by omega) (by omega) (by omega) (by omega) (fun k362 => ?_) (fun k362 => ?_)
                          · refine xv (x_iinc 386 d_L_drawn_383 rfl rfl) ?_
                            show Xv E q_m_L_drawn 386 [Value.ref b, Value.ref x, Value.int (zi R), Value.int (zi C), Value.ref ta, Value.int (zi (i + 1)), Value.int (zi z305), Value.int (zi (l 4)), Value.int (zi v353)] [] h353 Q
                            refine xv (x_goto 289 d_L_drawn_386 rfl) ?_
                            exact ih289 _ (by omega) (i + 1) _ _ _ _ _ _ (by omega) (dr_mo (dr_rd (k' := 0) P353 T353 J353 B353 (by omega) (by omega)) (by omega) (by omega)) (by omega) rfl
                          · refine xv (x_iload 367 d_L_drawn_365 rfl rfl) ?_
                            refine xv (x_iconst 368 d_L_drawn_367 rfl) ?_
                            refine v_icmp_ne 381 371 d_L_drawn_368 rfl rfl (by omega) (by omega) (by omega) (by omega) (fun k368 => ?_) (fun k368 => ?_)
                            · omega
                            · refine xv (x_aload_n 372 d_L_drawn_371 rfl rfl) ?_
                              refine xv (x_iconst 373 d_L_drawn_372 rfl) ?_
                              obtain ⟨h373, e373, P373⟩ := A_reason (E := E) P353
                              rw [show reV kr353 = kr353 from if_neg (by omega)] at e373
                              refine xv (x_ins1 376 (as := [Value.ref x, Value.int (zi 0)]) d_L_drawn_373 rfl c_9_150 rfl (Nat.le_of_ble_eq_true rfl) (Nat.le_of_ble_eq_true rfl) (Nat.le_of_ble_eq_true rfl) rfl e373) ?_
                              show Xv E q_m_L_drawn 376 [Value.ref b, Value.ref x, Value.int (zi R), Value.int (zi C), Value.ref ta, Value.int (zi i), Value.int (zi z305), Value.int (zi (l 4)), Value.int (zi v353)] [Value.int (zi kr353)] h373 Q
                              refine xv (x_bipush 378 d_L_drawn_376 rfl rfl) ?_
                              refine v_icmp_eq 383 381 d_L_drawn_378 rfl rfl (by omega) (by omega) (by omega) (by omega) (fun k378 => ?_) (fun k378 => ?_)
                              · refine xv (x_iinc 386 d_L_drawn_383 rfl rfl) ?_
                                show Xv E q_m_L_drawn 386 [Value.ref b, Value.ref x, Value.int (zi R), Value.int (zi C), Value.ref ta, Value.int (zi (i + 1)), Value.int (zi z305), Value.int (zi (l 4)), Value.int (zi v353)] [] h373 Q
                                refine xv (x_goto 289 d_L_drawn_386 rfl) ?_
                                exact ih289 _ (by omega) (i + 1) _ _ _ _ _ _ (by omega) (dr_mo (dr_rd (k' := 1) P373 T353 J353 B353 (by omega) (by omega)) (by omega) (by omega)) (by omega) rfl
                              · omega
                  exact L289 _ 0 _ _ _ _ _ _ (by omega) (dr_mo D_197 (by omega) (by omega)) (by omega) rfl
                · refine xv (x_aload_n 204 d_L_drawn_203 rfl rfl) ?_
                  refine xv (x_bipush 206 d_L_drawn_204 rfl rfl) ?_
                  refine xv (x_iload 208 d_L_drawn_206 rfl rfl) ?_
                  refine xv (x_iadd 209 d_L_drawn_208 rfl) ?_
                  obtain ⟨v209, e209⟩ := A_cell (E := E) (k := (10 + i)) (px_lo P_197 _ hb) hS hL (by omega) (by omega)
                  refine xv (x_ins1 212 (as := [Value.ref b, Value.int (zi (10 + i))]) d_L_drawn_209 rfl c_9_113 rfl (Nat.le_of_ble_eq_true rfl) (Nat.le_of_ble_eq_true rfl) (Nat.le_of_ble_eq_true rfl) rfl e209) ?_
                  show Xv E q_m_L_drawn 212 [Value.ref b, Value.ref x, Value.int (zi R), Value.int (zi C), Value.ref ta, Value.int (zi i), b197_0, b197_1, b197_2] [Value.int v209] h_197 Q
                  refine xv (x_iconst 213 d_L_drawn_212 rfl) ?_
                  refine xv (x_iushr 214 d_L_drawn_213 rfl) ?_
                  obtain ⟨z213, z0213, z1213, ez213⟩ := shr_x v209 (q := 1) (by omega) (by omega)
                  rw [ez213]
                  refine xv (x_istore 216 d_L_drawn_214 rfl (Nat.le_of_ble_eq_true rfl)) ?_
                  show Xv E q_m_L_drawn 216 [Value.ref b, Value.ref x, Value.int (zi R), Value.int (zi C), Value.ref ta, Value.int (zi i), Value.int (zi z213), b197_1, b197_2] [] h_197 Q
                  refine xv (x_aload_n 217 d_L_drawn_216 rfl rfl) ?_
                  refine xv (x_iconst 218 d_L_drawn_217 rfl) ?_
                  obtain ⟨h218, e218, P218⟩ := A_account2 (E := E)  P_197 
                  refine xv (x_inv1 221 (as := [Value.int (zi 2)]) d_L_drawn_218 rfl c_9_109 rfl (Nat.le_of_ble_eq_true rfl) (Nat.le_of_ble_eq_true rfl) (px_o P_197) (Nat.le_of_ble_eq_true rfl) (Nat.le_of_ble_eq_true rfl) rfl e218) ?_
                  have q218 := rg_n2 hR
                  show Xv E q_m_L_drawn 221 [Value.ref b, Value.ref x, Value.int (zi R), Value.int (zi C), Value.ref ta, Value.int (zi i), Value.int (zi z213), b197_1, b197_2] [Value.int (zi (l 3))] h218 Q
                  refine xv (x_istore 223 d_L_drawn_221 rfl (Nat.le_of_ble_eq_true rfl)) ?_
                  show Xv E q_m_L_drawn 223 [Value.ref b, Value.ref x, Value.int (zi R), Value.int (zi C), Value.ref ta, Value.int (zi i), Value.int (zi z213), Value.int (zi (l 3)), b197_2] [] h218 Q
                  refine xv (x_aload_n 224 d_L_drawn_223 rfl rfl) ?_
                  refine xv (x_iload 226 d_L_drawn_224 rfl rfl) ?_
                  refine xv (x_aload_n 227 d_L_drawn_226 rfl rfl) ?_
                  obtain ⟨h227, e227, P227⟩ := A_cells (E := E)  P218 
                  refine xv (x_ins1 230 (as := [Value.ref x]) d_L_drawn_227 rfl c_9_145 rfl (Nat.le_of_ble_eq_true rfl) (Nat.le_of_ble_eq_true rfl) (Nat.le_of_ble_eq_true rfl) rfl e227) ?_
                  show Xv E q_m_L_drawn 230 [Value.ref b, Value.ref x, Value.int (zi R), Value.int (zi C), Value.ref ta, Value.int (zi i), Value.int (zi z213), Value.int (zi (l 3)), b197_2] [Value.int (zi (cs l)), Value.int (zi z213), Value.ref x] h227 Q
                  refine xv (x_irem 231 d_L_drawn_230 rfl (by omega) (by omega) (by omega) (by omega)) ?_
                  have m230 := emod_r (a := z213) (b := (cs l)) (by omega) (by omega)
                  refine xv (x_bipush 233 d_L_drawn_231 rfl rfl) ?_
                  refine xv (x_iload 235 d_L_drawn_233 rfl rfl) ?_
                  refine xv (x_bipush 237 d_L_drawn_235 rfl rfl) ?_
                  refine xv (x_iushr 238 d_L_drawn_237 rfl) ?_
                  obtain ⟨z237, z0237, z1237, ez237⟩ := shr_x (zi z213) (q := 6) (by omega) (by omega)
                  rw [ez237]
                  refine xv (x_bipush 240 d_L_drawn_238 rfl rfl) ?_
                  refine xv (x_irem 241 d_L_drawn_240 rfl (by omega) (by omega) (by omega) (by omega)) ?_
                  refine xv (x_iadd 242 d_L_drawn_241 rfl) ?_
                  obtain ⟨v242, h242, l242, kr242, e242, D242, K242, n3242, n4242⟩ := D_add (E := E) (y := (z213 % (cs l))) (z := (12 + (z237 % 60))) P227 T197 J197 B197 (by omega) (by omega) ⟨by omega, by omega⟩ (by omega) (by omega)
                  obtain ⟨nx242, ct242, kl242, c242, fa242, kd242, m242, P242, T242, J242, B242⟩ := id D242
                  have R242 := P242.2.1
                  refine xv (x_ins1 245 (as := [Value.ref x, Value.int (zi (z213 % (cs l))), Value.int (zi (12 + (z237 % 60)))]) d_L_drawn_242 rfl c_9_148 rfl (Nat.le_of_ble_eq_true rfl) (Nat.le_of_ble_eq_true rfl) (Nat.le_of_ble_eq_true rfl) rfl e242) ?_
                  show Xv E q_m_L_drawn 245 [Value.ref b, Value.ref x, Value.int (zi R), Value.int (zi C), Value.ref ta, Value.int (zi i), Value.int (zi z213), Value.int (zi (l 3)), b197_2] [Value.int (zi v242)] h242 Q
                  refine xv (x_istore 247 d_L_drawn_245 rfl (Nat.le_of_ble_eq_true rfl)) ?_
                  show Xv E q_m_L_drawn 247 [Value.ref b, Value.ref x, Value.int (zi R), Value.int (zi C), Value.ref ta, Value.int (zi i), Value.int (zi z213), Value.int (zi (l 3)), Value.int (zi v242)] [] h242 Q
                  refine xv (x_iload 249 d_L_drawn_247 rfl rfl) ?_
                  refine xv (x_iload 251 d_L_drawn_249 rfl rfl) ?_
                  refine v_icmp_eq 280 254 d_L_drawn_251 rfl rfl (by omega) (by omega) (by omega) (by omega) (fun k251 => ?_) (fun k251 => ?_)
                  · refine xv (x_iinc 283 d_L_drawn_280 rfl rfl) ?_
                    show Xv E q_m_L_drawn 283 [Value.ref b, Value.ref x, Value.int (zi R), Value.int (zi C), Value.ref ta, Value.int (zi (i + 1)), Value.int (zi z213), Value.int (zi (l 3)), Value.int (zi v242)] [] h242 Q
                    refine xv (x_goto 197 d_L_drawn_283 rfl) ?_
                    exact ih197 _ (by omega) (i + 1) _ _ _ _ _ _ (by omega) (dr_mo (dr_rd (k' := 0) P242 T242 J242 B242 (by omega) (by omega)) (by omega) (by omega)) (by omega) rfl
                  · refine xv (x_iload 256 d_L_drawn_254 rfl rfl) ?_
                    refine xv (x_iconst 257 d_L_drawn_256 rfl) ?_
                    refine v_icmp_ne 278 260 d_L_drawn_257 rfl rfl (by omega) (by omega) (by omega) (by omega) (fun k257 => ?_) (fun k257 => ?_)
                    · omega
                    · refine xv (x_aload_n 261 d_L_drawn_260 rfl rfl) ?_
                      refine xv (x_iconst 262 d_L_drawn_261 rfl) ?_
                      obtain ⟨h262, e262, P262⟩ := A_reason (E := E) P242
                      rw [show reV kr242 = kr242 from if_neg (by omega)] at e262
                      refine xv (x_ins1 265 (as := [Value.ref x, Value.int (zi 0)]) d_L_drawn_262 rfl c_9_150 rfl (Nat.le_of_ble_eq_true rfl) (Nat.le_of_ble_eq_true rfl) (Nat.le_of_ble_eq_true rfl) rfl e262) ?_
                      show Xv E q_m_L_drawn 265 [Value.ref b, Value.ref x, Value.int (zi R), Value.int (zi C), Value.ref ta, Value.int (zi i), Value.int (zi z213), Value.int (zi (l 3)), Value.int (zi v242)] [Value.int (zi kr242)] h262 Q
                      refine xv (x_iconst 266 d_L_drawn_265 rfl) ?_
                      refine v_icmp_lt 278 269 d_L_drawn_266 rfl rfl (by omega) (by omega) (by omega) (by omega) (fun k266 => ?_) (fun k266 => ?_)
                      · omega
                      · refine xv (x_aload_n 270 d_L_drawn_269 rfl rfl) ?_
                        refine xv (x_iconst 271 d_L_drawn_270 rfl) ?_
                        obtain ⟨h271, e271, P271⟩ := A_reason (E := E) P262
                        rw [show reV kr242 = kr242 from if_neg (by omega)] at e271
                        refine xv (x_ins1 274 (as := [Value.ref x, Value.int (zi 0)]) d_L_drawn_271 rfl c_9_150 rfl (Nat.le_of_ble_eq_true rfl) (Nat.le_of_ble_eq_true rfl) (Nat.le_of_ble_eq_true rfl) rfl e271) ?_
                        show Xv E q_m_L_drawn 274 [Value.ref b, Value.ref x, Value.int (zi R), Value.int (zi C), Value.ref ta, Value.int (zi i), Value.int (zi z213), Value.int (zi (l 3)), Value.int (zi v242)] [Value.int (zi kr242)] h271 Q
                        refine xv (x_iconst 275 d_L_drawn_274 rfl) ?_
                        refine v_icmp_le 280 278 d_L_drawn_275 rfl rfl (by omega) (by omega) (by omega) (by omega) (fun k275 => ?_) (fun k275 => ?_)
                        · refine xv (x_iinc 283 d_L_drawn_280 rfl rfl) ?_
                          show Xv E q_m_L_drawn 283 [Value.ref b, Value.ref x, Value.int (zi R), Value.int (zi C), Value.ref ta, Value.int (zi (i + 1)), Value.int (zi z213), Value.int (zi (l 3)), Value.int (zi v242)] [] h271 Q
                          refine xv (x_goto 197 d_L_drawn_283 rfl) ?_
                          exact ih197 _ (by omega) (i + 1) _ _ _ _ _ _ (by omega) (dr_mo (dr_rd (k' := 2) P271 T242 J242 B242 (by omega) (by omega)) (by omega) (by omega)) (by omega) rfl
                        · omega
            exact L197 _ 0 _ _ _ _ _ _ (by omega) (dr_mo D184 (by omega) (by omega)) (by omega) rfl
          · omega
      · refine xv (x_aload_n 48 d_L_drawn_47 rfl rfl) ?_
        refine xv (x_iconst 49 d_L_drawn_48 rfl) ?_
        refine xv (x_iload 51 d_L_drawn_49 rfl rfl) ?_
        refine xv (x_bipush 53 d_L_drawn_51 rfl rfl) ?_
        refine xv (x_irem 54 d_L_drawn_53 rfl (by omega) (by omega) (by omega) (by omega)) ?_
        refine xv (x_iadd 55 d_L_drawn_54 rfl) ?_
        obtain ⟨v55, e55⟩ := A_cell (E := E) (k := (2 + (k % 7))) (px_lo P_39 _ hb) hS hL (by omega) (by omega)
        refine xv (x_ins1 58 (as := [Value.ref b, Value.int (zi (2 + (k % 7)))]) d_L_drawn_55 rfl c_9_113 rfl (Nat.le_of_ble_eq_true rfl) (Nat.le_of_ble_eq_true rfl) (Nat.le_of_ble_eq_true rfl) rfl e55) ?_
        show Xv E q_m_L_drawn 58 [Value.ref b, Value.ref x, Value.int (zi R), Value.int (zi C), Value.ref ta, Value.int (zi k), b6, b7, b8] [Value.int v55] h_39 Q
        refine xv (x_iconst 59 d_L_drawn_58 rfl) ?_
        refine xv (x_iconst 60 d_L_drawn_59 rfl) ?_
        refine xv (x_iload 62 d_L_drawn_60 rfl rfl) ?_
        refine xv (x_bipush 64 d_L_drawn_62 rfl rfl) ?_
        refine xv (x_idiv 65 d_L_drawn_64 rfl (by omega) (by omega) (by omega) (by omega)) ?_
        refine xv (x_imul 66 d_L_drawn_65 rfl) ?_
        refine xv (x_iadd 67 d_L_drawn_66 rfl) ?_
        refine xv (x_iushr 68 d_L_drawn_67 rfl) ?_
        obtain ⟨z67, z067, z167, ez67⟩ := shr_x v55 (q := (1 + (3 * (k / 7)))) (by omega) (by omega)
        rw [ez67]
        refine xv (x_bipush 70 d_L_drawn_68 rfl rfl) ?_
        refine xv (x_irem 71 d_L_drawn_70 rfl (by omega) (by omega) (by omega) (by omega)) ?_
        refine xv (x_istore 73 d_L_drawn_71 rfl (Nat.le_of_ble_eq_true rfl)) ?_
        show Xv E q_m_L_drawn 73 [Value.ref b, Value.ref x, Value.int (zi R), Value.int (zi C), Value.ref ta, Value.int (zi k), Value.int (zi (z67 % 16)), b7, b8] [] h_39 Q
        obtain ⟨h73, e73, a73, f73, z73⟩ := al_x (h := h_39) (e := .inr (8, q_df 8)) (n := q_N 8) Z39
        have T_73 : TXT E h73 ta tb nt f := txt_eq (f73.2 _ (by omega)) (f73.2 _ (by omega)) TT
        have F_73 : ∀ q, (q < s ∨ s + 10 ≤ q) → h73.1 q = h_39.1 q := fun q hq => (f73.2 q (by omega)).trans (F39 q hq)
        refine xv (xA_new 76 d_L_drawn_73 rfl rfl (Nat.le_of_ble_eq_true rfl) (sz_1 Z39) e73) ?_
        show Xv E q_m_L_drawn 76 [Value.ref b, Value.ref x, Value.int (zi R), Value.int (zi C), Value.ref ta, Value.int (zi k), Value.int (zi (z67 % 16)), b7, b8] [Value.ref s] h73 Q
        refine xv (x_dup 77 d_L_drawn_76 rfl rfl) ?_
        obtain ⟨r77, h77, e77, x77, B77, z77, f77⟩ := S_J4_init (E := E) hE a73 z73 (by omega)
        subst x77
        have F77 : ∀ q, (q < s ∨ s + 10 ≤ q) → h77.1 q = h_39.1 q := fun q hq => (f77 q (by omega)).trans (F_73 q hq)
        refine xv (x_ini 80 (as := []) d_L_drawn_77 rfl c_9_121 rfl (Nat.le_of_ble_eq_true rfl) (Nat.le_of_ble_eq_true rfl) (Nat.le_of_ble_eq_true rfl) rfl e77) ?_
        show Xv E q_m_L_drawn 80 [Value.ref b, Value.ref x, Value.int (zi R), Value.int (zi C), Value.ref ta, Value.int (zi k), Value.int (zi (z67 % 16)), b7, b8] [Value.ref s] h77 Q
        refine xv (x_aload 82 d_L_drawn_80 rfl rfl) ?_
        have T82 := txt_eq (F77 ta (by omega)) (F77 tb (by omega)) TT
        obtain ⟨r82, h82, e82, x82, v82, cp82, g82, s82, c82, w82, B82, G82, hf82, V82, CP82, z82, D82, f82⟩ := S_J4_append (E := E) hE B77 (by omega) (fun i _ _ => by show 0 ≤ (0 : Int) ∧ (0 : Int) ≤ 127; omega) z77 (by omega) (by omega) (by omega) T82 (by omega) (by omega) (by omega) (by omega) (by omega) (by omega)
        subst x82
        have F82 : ∀ q, (q < s ∨ s + 10 ≤ q) → h82.1 q = h_39.1 q := fun q hq => (f82 q (by omega)).trans (F77 q hq)
        refine xv (x_inv1 85 (as := [Value.ref ta]) d_L_drawn_82 rfl c_9_122 rfl (Nat.le_of_ble_eq_true rfl) (Nat.le_of_ble_eq_true rfl) B77.1 (Nat.le_of_ble_eq_true rfl) (Nat.le_of_ble_eq_true rfl) rfl e82) ?_
        show Xv E q_m_L_drawn 85 [Value.ref b, Value.ref x, Value.int (zi R), Value.int (zi C), Value.ref ta, Value.int (zi k), Value.int (zi (z67 % 16)), b7, b8] [Value.ref s] h82 Q
        refine xv (x_iload 87 d_L_drawn_85 rfl rfl) ?_
        refine v_if_le 102 90 d_L_drawn_87 rfl rfl (by omega) (by omega) (fun k87 => ?_) (fun k87 => ?_)
        · refine xv (x_ldcs 104 d_L_drawn_102 rfl rfl (Nat.le_of_ble_eq_true rfl) (show E.1 (6 + 2 * 0) = some (.ref ta0) from et0)) ?_
          show Xv E q_m_L_drawn 104 [Value.ref b, Value.ref x, Value.int (zi R), Value.int (zi C), Value.ref ta, Value.int (zi k), Value.int (zi (z67 % 16)), b7, b8] [Value.ref ta0, Value.ref s] h82 Q
          have T104 := txt_lo TT0 ta0_ tb0_ hLo (fun q hq => (F82 q (by omega)).trans (px_lo P_39 q hq))
          obtain ⟨r104, h104, e104, x104, v104, cp104, g104, s104, c104, w104, B104, G104, hf104, V104, CP104, z104, D104, f104⟩ := S_J4_append (E := E) hE B82 (by omega) hf82 z82 (by omega) (by omega) (by omega) T104 (by omega) (by omega) (by omega) (by omega) (by omega) (by omega)
          subst x104
          have F104 : ∀ q, (q < s ∨ s + 10 ≤ q) → h104.1 q = h_39.1 q := fun q hq => (f104 q (by omega)).trans (F82 q hq)
          refine xv (x_inv1 107 (as := [Value.ref ta0]) d_L_drawn_104 rfl c_9_122 rfl (Nat.le_of_ble_eq_true rfl) (Nat.le_of_ble_eq_true rfl) B82.1 (Nat.le_of_ble_eq_true rfl) (Nat.le_of_ble_eq_true rfl) rfl e104) ?_
          show Xv E q_m_L_drawn 107 [Value.ref b, Value.ref x, Value.int (zi R), Value.int (zi C), Value.ref ta, Value.int (zi k), Value.int (zi (z67 % 16)), b7, b8] [Value.ref s] h104 Q
          refine xv (x_iload 109 d_L_drawn_107 rfl rfl) ?_
          refine xv (x_iconst 110 d_L_drawn_109 rfl) ?_
          refine v_icmp_ge 118 113 d_L_drawn_110 rfl rfl (by omega) (by omega) (by omega) (by omega) (fun k110 => ?_) (fun k110 => ?_)
          · refine xv (x_iload 120 d_L_drawn_118 rfl rfl) ?_
            refine xv (x_iconst 121 d_L_drawn_120 rfl) ?_
            refine v_icmp_ne 129 124 d_L_drawn_121 rfl rfl (by omega) (by omega) (by omega) (by omega) (fun k121 => ?_) (fun k121 => ?_)
            · refine xv (x_iload 131 d_L_drawn_129 rfl rfl) ?_
              refine xv (x_iconst 132 d_L_drawn_131 rfl) ?_
              refine v_icmp_ne 140 135 d_L_drawn_132 rfl rfl (by omega) (by omega) (by omega) (by omega) (fun k132 => ?_) (fun k132 => ?_)
              · refine xv (x_ldcs 142 d_L_drawn_140 rfl rfl (Nat.le_of_ble_eq_true rfl) (show E.1 (6 + 2 * 5) = some (.ref ta5) from et5)) ?_
                show Xv E q_m_L_drawn 142 [Value.ref b, Value.ref x, Value.int (zi R), Value.int (zi C), Value.ref ta, Value.int (zi k), Value.int (zi (z67 % 16)), b7, b8] [Value.ref ta5, Value.ref s] h104 Q
                have T142 := txt_lo TT5 ta5_ tb5_ hLo (fun q hq => (F104 q (by omega)).trans (px_lo P_39 q hq))
                obtain ⟨r142, h142, e142, x142, v142, cp142, g142, s142, c142, w142, B142, G142, hf142, V142, CP142, z142, D142, f142⟩ := S_J4_append (E := E) hE B104 (by omega) hf104 z104 (by omega) (by omega) (by omega) T142 (by omega) (by omega) (by omega) (by omega) (by omega) (by omega)
                subst x142
                have F142 : ∀ q, (q < s ∨ s + 10 ≤ q) → h142.1 q = h_39.1 q := fun q hq => (f142 q (by omega)).trans (F104 q hq)
                refine xv (x_inv1 145 (as := [Value.ref ta5]) d_L_drawn_142 rfl c_9_122 rfl (Nat.le_of_ble_eq_true rfl) (Nat.le_of_ble_eq_true rfl) B104.1 (Nat.le_of_ble_eq_true rfl) (Nat.le_of_ble_eq_true rfl) rfl e142) ?_
                show Xv E q_m_L_drawn 145 [Value.ref b, Value.ref x, Value.int (zi R), Value.int (zi C), Value.ref ta, Value.int (zi k), Value.int (zi (z67 % 16)), b7, b8] [Value.ref s] h142 Q
                have BB145 : SBO h142 s v142 cp142 ((nt + 1 : Nat) : Int) g142 := by rw [show ((nt + 1 : Nat) : Int) = ((0 + (nt : Int)) + 0) + 1 by omega]; exact B142
                obtain ⟨r145, h145, e145, x145, y145, N145, z145, f145⟩ := S_J4_toString (E := E) hE BB145 (by omega) hf142 z142 (by omega) (by omega)
                subst x145
                have F145 : ∀ q, (q < s ∨ s + 10 ≤ q) → h145.1 q = h_39.1 q := fun q hq => (f145 q (by omega)).trans (F142 q hq)
                refine xv (x_inv1 148 (as := []) d_L_drawn_145 rfl c_9_135 rfl (Nat.le_of_ble_eq_true rfl) (Nat.le_of_ble_eq_true rfl) B142.1 (Nat.le_of_ble_eq_true rfl) (Nat.le_of_ble_eq_true rfl) rfl e145) ?_
                show Xv E q_m_L_drawn 148 [Value.ref b, Value.ref x, Value.int (zi R), Value.int (zi C), Value.ref ta, Value.int (zi k), Value.int (zi (z67 % 16)), b7, b8] [Value.ref s142] h145 Q
                refine xv (x_astore 150 d_L_drawn_148 rfl (Nat.le_of_ble_eq_true rfl)) ?_
                show Xv E q_m_L_drawn 150 [Value.ref b, Value.ref x, Value.int (zi R), Value.int (zi C), Value.ref s142, Value.int (zi k), Value.int (zi (z67 % 16)), b7, b8] [] h145 Q
                refine xv (x_iinc 153 d_L_drawn_150 rfl rfl) ?_
                show Xv E q_m_L_drawn 153 [Value.ref b, Value.ref x, Value.int (zi R), Value.int (zi C), Value.ref s142, Value.int (zi (k + 1)), Value.int (zi (z67 % 16)), b7, b8] [] h145 Q
                refine xv (x_goto 39 d_L_drawn_153 rfl) ?_
                have Q1 : Fr s 10 h_39 (h145.1, h_39.2) := ⟨rfl, fun q hq => F145 q (by omega)⟩
                have P9 := px_at P_39 Q1 zs
                have T9 : TXT E h145 s142 (s142 + 1) (nt + 1) g142 := txt_new y145 N145 (by omega) fun i a b => hf142 i a (by omega)
                have hg : ∀ i : Int, 0 ≤ i → i < nt → g142 i = f i := fun i a b => by rw [G142 i a (by omega), cpI_lo (by omega), G104 i a (by omega), cpI_lo (by omega), G82 i a (by omega), cpI_at (by omega) (by omega)]; congr 1; omega
                have hd : g142 (nt : Int) = 46 := by rw [G142 _ (by omega) (by omega), cpI_at (by omega) (by omega)]; exact (gd0 (by omega)).trans rfl
                have I9 := ti_c C_ R_ TI_39 (by omega) (by omega) (by first | exact Or.inl (by omega) | exact Or.inr k94) hg hd (by decide) (by decide)
                exact ih39 _ (by omega) (k + 1) _ _ _ _ _ _ _ _ (by omega) (by omega) P9 T9 I9 ⟨s142 + 2, c142 + 2, w142 + 4 + (nt + 1), z145, by omega, by omega, by omega, by omega, by omega⟩ rfl
              · refine xv (x_ldcs 137 d_L_drawn_135 rfl rfl (Nat.le_of_ble_eq_true rfl) (show E.1 (6 + 2 * 4) = some (.ref ta4) from et4)) ?_
                show Xv E q_m_L_drawn 137 [Value.ref b, Value.ref x, Value.int (zi R), Value.int (zi C), Value.ref ta, Value.int (zi k), Value.int (zi (z67 % 16)), b7, b8] [Value.ref ta4, Value.ref s] h104 Q
                refine xv (x_goto 142 d_L_drawn_137 rfl) ?_
                have T142 := txt_lo TT4 ta4_ tb4_ hLo (fun q hq => (F104 q (by omega)).trans (px_lo P_39 q hq))
                obtain ⟨r142, h142, e142, x142, v142, cp142, g142, s142, c142, w142, B142, G142, hf142, V142, CP142, z142, D142, f142⟩ := S_J4_append (E := E) hE B104 (by omega) hf104 z104 (by omega) (by omega) (by omega) T142 (by omega) (by omega) (by omega) (by omega) (by omega) (by omega)
                subst x142
                have F142 : ∀ q, (q < s ∨ s + 10 ≤ q) → h142.1 q = h_39.1 q := fun q hq => (f142 q (by omega)).trans (F104 q hq)
                refine xv (x_inv1 145 (as := [Value.ref ta4]) d_L_drawn_142 rfl c_9_122 rfl (Nat.le_of_ble_eq_true rfl) (Nat.le_of_ble_eq_true rfl) B104.1 (Nat.le_of_ble_eq_true rfl) (Nat.le_of_ble_eq_true rfl) rfl e142) ?_
                show Xv E q_m_L_drawn 145 [Value.ref b, Value.ref x, Value.int (zi R), Value.int (zi C), Value.ref ta, Value.int (zi k), Value.int (zi (z67 % 16)), b7, b8] [Value.ref s] h142 Q
                have BB145 : SBO h142 s v142 cp142 ((nt + 1 : Nat) : Int) g142 := by rw [show ((nt + 1 : Nat) : Int) = ((0 + (nt : Int)) + 0) + 1 by omega]; exact B142
                obtain ⟨r145, h145, e145, x145, y145, N145, z145, f145⟩ := S_J4_toString (E := E) hE BB145 (by omega) hf142 z142 (by omega) (by omega)
                subst x145
                have F145 : ∀ q, (q < s ∨ s + 10 ≤ q) → h145.1 q = h_39.1 q := fun q hq => (f145 q (by omega)).trans (F142 q hq)
                refine xv (x_inv1 148 (as := []) d_L_drawn_145 rfl c_9_135 rfl (Nat.le_of_ble_eq_true rfl) (Nat.le_of_ble_eq_true rfl) B142.1 (Nat.le_of_ble_eq_true rfl) (Nat.le_of_ble_eq_true rfl) rfl e145) ?_
                show Xv E q_m_L_drawn 148 [Value.ref b, Value.ref x, Value.int (zi R), Value.int (zi C), Value.ref ta, Value.int (zi k), Value.int (zi (z67 % 16)), b7, b8] [Value.ref s142] h145 Q
                refine xv (x_astore 150 d_L_drawn_148 rfl (Nat.le_of_ble_eq_true rfl)) ?_
                show Xv E q_m_L_drawn 150 [Value.ref b, Value.ref x, Value.int (zi R), Value.int (zi C), Value.ref s142, Value.int (zi k), Value.int (zi (z67 % 16)), b7, b8] [] h145 Q
                refine xv (x_iinc 153 d_L_drawn_150 rfl rfl) ?_
                show Xv E q_m_L_drawn 153 [Value.ref b, Value.ref x, Value.int (zi R), Value.int (zi C), Value.ref s142, Value.int (zi (k + 1)), Value.int (zi (z67 % 16)), b7, b8] [] h145 Q
                refine xv (x_goto 39 d_L_drawn_153 rfl) ?_
                have Q1 : Fr s 10 h_39 (h145.1, h_39.2) := ⟨rfl, fun q hq => F145 q (by omega)⟩
                have P9 := px_at P_39 Q1 zs
                have T9 : TXT E h145 s142 (s142 + 1) (nt + 1) g142 := txt_new y145 N145 (by omega) fun i a b => hf142 i a (by omega)
                have hg : ∀ i : Int, 0 ≤ i → i < nt → g142 i = f i := fun i a b => by rw [G142 i a (by omega), cpI_lo (by omega), G104 i a (by omega), cpI_lo (by omega), G82 i a (by omega), cpI_at (by omega) (by omega)]; congr 1; omega
                have hd : g142 (nt : Int) = 64 := by rw [G142 _ (by omega) (by omega), cpI_at (by omega) (by omega)]; exact (gd0 (by omega)).trans rfl
                have I9 := ti_c C_ R_ TI_39 (by omega) (by omega) (by first | exact Or.inl (by omega) | exact Or.inr k94) hg hd (by decide) (by decide)
                exact ih39 _ (by omega) (k + 1) _ _ _ _ _ _ _ _ (by omega) (by omega) P9 T9 I9 ⟨s142 + 2, c142 + 2, w142 + 4 + (nt + 1), z145, by omega, by omega, by omega, by omega, by omega⟩ rfl
            · refine xv (x_ldcs 126 d_L_drawn_124 rfl rfl (Nat.le_of_ble_eq_true rfl) (show E.1 (6 + 2 * 3) = some (.ref ta3) from et3)) ?_
              show Xv E q_m_L_drawn 126 [Value.ref b, Value.ref x, Value.int (zi R), Value.int (zi C), Value.ref ta, Value.int (zi k), Value.int (zi (z67 % 16)), b7, b8] [Value.ref ta3, Value.ref s] h104 Q
              refine xv (x_goto 142 d_L_drawn_126 rfl) ?_
              have T142 := txt_lo TT3 ta3_ tb3_ hLo (fun q hq => (F104 q (by omega)).trans (px_lo P_39 q hq))
              obtain ⟨r142, h142, e142, x142, v142, cp142, g142, s142, c142, w142, B142, G142, hf142, V142, CP142, z142, D142, f142⟩ := S_J4_append (E := E) hE B104 (by omega) hf104 z104 (by omega) (by omega) (by omega) T142 (by omega) (by omega) (by omega) (by omega) (by omega) (by omega)
              subst x142
              have F142 : ∀ q, (q < s ∨ s + 10 ≤ q) → h142.1 q = h_39.1 q := fun q hq => (f142 q (by omega)).trans (F104 q hq)
              refine xv (x_inv1 145 (as := [Value.ref ta3]) d_L_drawn_142 rfl c_9_122 rfl (Nat.le_of_ble_eq_true rfl) (Nat.le_of_ble_eq_true rfl) B104.1 (Nat.le_of_ble_eq_true rfl) (Nat.le_of_ble_eq_true rfl) rfl e142) ?_
              show Xv E q_m_L_drawn 145 [Value.ref b, Value.ref x, Value.int (zi R), Value.int (zi C), Value.ref ta, Value.int (zi k), Value.int (zi (z67 % 16)), b7, b8] [Value.ref s] h142 Q
              have BB145 : SBO h142 s v142 cp142 ((nt + 1 : Nat) : Int) g142 := by rw [show ((nt + 1 : Nat) : Int) = ((0 + (nt : Int)) + 0) + 1 by omega]; exact B142
              obtain ⟨r145, h145, e145, x145, y145, N145, z145, f145⟩ := S_J4_toString (E := E) hE BB145 (by omega) hf142 z142 (by omega) (by omega)
              subst x145
              have F145 : ∀ q, (q < s ∨ s + 10 ≤ q) → h145.1 q = h_39.1 q := fun q hq => (f145 q (by omega)).trans (F142 q hq)
              refine xv (x_inv1 148 (as := []) d_L_drawn_145 rfl c_9_135 rfl (Nat.le_of_ble_eq_true rfl) (Nat.le_of_ble_eq_true rfl) B142.1 (Nat.le_of_ble_eq_true rfl) (Nat.le_of_ble_eq_true rfl) rfl e145) ?_
              show Xv E q_m_L_drawn 148 [Value.ref b, Value.ref x, Value.int (zi R), Value.int (zi C), Value.ref ta, Value.int (zi k), Value.int (zi (z67 % 16)), b7, b8] [Value.ref s142] h145 Q
              refine xv (x_astore 150 d_L_drawn_148 rfl (Nat.le_of_ble_eq_true rfl)) ?_
              show Xv E q_m_L_drawn 150 [Value.ref b, Value.ref x, Value.int (zi R), Value.int (zi C), Value.ref s142, Value.int (zi k), Value.int (zi (z67 % 16)), b7, b8] [] h145 Q
              refine xv (x_iinc 153 d_L_drawn_150 rfl rfl) ?_
              show Xv E q_m_L_drawn 153 [Value.ref b, Value.ref x, Value.int (zi R), Value.int (zi C), Value.ref s142, Value.int (zi (k + 1)), Value.int (zi (z67 % 16)), b7, b8] [] h145 Q
              refine xv (x_goto 39 d_L_drawn_153 rfl) ?_
              have Q1 : Fr s 10 h_39 (h145.1, h_39.2) := ⟨rfl, fun q hq => F145 q (by omega)⟩
              have P9 := px_at P_39 Q1 zs
              have T9 : TXT E h145 s142 (s142 + 1) (nt + 1) g142 := txt_new y145 N145 (by omega) fun i a b => hf142 i a (by omega)
              have hg : ∀ i : Int, 0 ≤ i → i < nt → g142 i = f i := fun i a b => by rw [G142 i a (by omega), cpI_lo (by omega), G104 i a (by omega), cpI_lo (by omega), G82 i a (by omega), cpI_at (by omega) (by omega)]; congr 1; omega
              have hd : g142 (nt : Int) = 43 := by rw [G142 _ (by omega) (by omega), cpI_at (by omega) (by omega)]; exact (gd0 (by omega)).trans rfl
              have I9 := ti_c C_ R_ TI_39 (by omega) (by omega) (by first | exact Or.inl (by omega) | exact Or.inr k94) hg hd (by decide) (by decide)
              exact ih39 _ (by omega) (k + 1) _ _ _ _ _ _ _ _ (by omega) (by omega) P9 T9 I9 ⟨s142 + 2, c142 + 2, w142 + 4 + (nt + 1), z145, by omega, by omega, by omega, by omega, by omega⟩ rfl
          · refine xv (x_ldcs 115 d_L_drawn_113 rfl rfl (Nat.le_of_ble_eq_true rfl) (show E.1 (6 + 2 * 2) = some (.ref ta2) from et2)) ?_
            show Xv E q_m_L_drawn 115 [Value.ref b, Value.ref x, Value.int (zi R), Value.int (zi C), Value.ref ta, Value.int (zi k), Value.int (zi (z67 % 16)), b7, b8] [Value.ref ta2, Value.ref s] h104 Q
            refine xv (x_goto 142 d_L_drawn_115 rfl) ?_
            have T142 := txt_lo TT2 ta2_ tb2_ hLo (fun q hq => (F104 q (by omega)).trans (px_lo P_39 q hq))
            obtain ⟨r142, h142, e142, x142, v142, cp142, g142, s142, c142, w142, B142, G142, hf142, V142, CP142, z142, D142, f142⟩ := S_J4_append (E := E) hE B104 (by omega) hf104 z104 (by omega) (by omega) (by omega) T142 (by omega) (by omega) (by omega) (by omega) (by omega) (by omega)
            subst x142
            have F142 : ∀ q, (q < s ∨ s + 10 ≤ q) → h142.1 q = h_39.1 q := fun q hq => (f142 q (by omega)).trans (F104 q hq)
            refine xv (x_inv1 145 (as := [Value.ref ta2]) d_L_drawn_142 rfl c_9_122 rfl (Nat.le_of_ble_eq_true rfl) (Nat.le_of_ble_eq_true rfl) B104.1 (Nat.le_of_ble_eq_true rfl) (Nat.le_of_ble_eq_true rfl) rfl e142) ?_
            show Xv E q_m_L_drawn 145 [Value.ref b, Value.ref x, Value.int (zi R), Value.int (zi C), Value.ref ta, Value.int (zi k), Value.int (zi (z67 % 16)), b7, b8] [Value.ref s] h142 Q
            have BB145 : SBO h142 s v142 cp142 ((nt + 1 : Nat) : Int) g142 := by rw [show ((nt + 1 : Nat) : Int) = ((0 + (nt : Int)) + 0) + 1 by omega]; exact B142
            obtain ⟨r145, h145, e145, x145, y145, N145, z145, f145⟩ := S_J4_toString (E := E) hE BB145 (by omega) hf142 z142 (by omega) (by omega)
            subst x145
            have F145 : ∀ q, (q < s ∨ s + 10 ≤ q) → h145.1 q = h_39.1 q := fun q hq => (f145 q (by omega)).trans (F142 q hq)
            refine xv (x_inv1 148 (as := []) d_L_drawn_145 rfl c_9_135 rfl (Nat.le_of_ble_eq_true rfl) (Nat.le_of_ble_eq_true rfl) B142.1 (Nat.le_of_ble_eq_true rfl) (Nat.le_of_ble_eq_true rfl) rfl e145) ?_
            show Xv E q_m_L_drawn 148 [Value.ref b, Value.ref x, Value.int (zi R), Value.int (zi C), Value.ref ta, Value.int (zi k), Value.int (zi (z67 % 16)), b7, b8] [Value.ref s142] h145 Q
            refine xv (x_astore 150 d_L_drawn_148 rfl (Nat.le_of_ble_eq_true rfl)) ?_
            show Xv E q_m_L_drawn 150 [Value.ref b, Value.ref x, Value.int (zi R), Value.int (zi C), Value.ref s142, Value.int (zi k), Value.int (zi (z67 % 16)), b7, b8] [] h145 Q
            refine xv (x_iinc 153 d_L_drawn_150 rfl rfl) ?_
            show Xv E q_m_L_drawn 153 [Value.ref b, Value.ref x, Value.int (zi R), Value.int (zi C), Value.ref s142, Value.int (zi (k + 1)), Value.int (zi (z67 % 16)), b7, b8] [] h145 Q
            refine xv (x_goto 39 d_L_drawn_153 rfl) ?_
            have Q1 : Fr s 10 h_39 (h145.1, h_39.2) := ⟨rfl, fun q hq => F145 q (by omega)⟩
            have P9 := px_at P_39 Q1 zs
            have T9 : TXT E h145 s142 (s142 + 1) (nt + 1) g142 := txt_new y145 N145 (by omega) fun i a b => hf142 i a (by omega)
            have hg : ∀ i : Int, 0 ≤ i → i < nt → g142 i = f i := fun i a b => by rw [G142 i a (by omega), cpI_lo (by omega), G104 i a (by omega), cpI_lo (by omega), G82 i a (by omega), cpI_at (by omega) (by omega)]; congr 1; omega
            have hd : g142 (nt : Int) = 35 := by rw [G142 _ (by omega) (by omega), cpI_at (by omega) (by omega)]; exact (gd0 (by omega)).trans rfl
            have I9 := ti_c C_ R_ TI_39 (by omega) (by omega) (by first | exact Or.inl (by omega) | exact Or.inr k94) hg hd (by decide) (by decide)
            exact ih39 _ (by omega) (k + 1) _ _ _ _ _ _ _ _ (by omega) (by omega) P9 T9 I9 ⟨s142 + 2, c142 + 2, w142 + 4 + (nt + 1), z145, by omega, by omega, by omega, by omega, by omega⟩ rfl
        · refine xv (x_iload 92 d_L_drawn_90 rfl rfl) ?_
          refine xv (x_iload_n 93 d_L_drawn_92 rfl rfl) ?_
          refine xv (x_irem 94 d_L_drawn_93 rfl (by omega) (by omega) (by omega) (by omega)) ?_
          have m93 := emod_r (a := k) (b := C) (by omega) (by omega)
          refine v_if_ne 102 97 d_L_drawn_94 rfl rfl (by omega) (by omega) (fun k94 => ?_) (fun k94 => ?_)
          · refine xv (x_ldcs 104 d_L_drawn_102 rfl rfl (Nat.le_of_ble_eq_true rfl) (show E.1 (6 + 2 * 0) = some (.ref ta0) from et0)) ?_
            show Xv E q_m_L_drawn 104 [Value.ref b, Value.ref x, Value.int (zi R), Value.int (zi C), Value.ref ta, Value.int (zi k), Value.int (zi (z67 % 16)), b7, b8] [Value.ref ta0, Value.ref s] h82 Q
            have T104 := txt_lo TT0 ta0_ tb0_ hLo (fun q hq => (F82 q (by omega)).trans (px_lo P_39 q hq))
            obtain ⟨r104, h104, e104, x104, v104, cp104, g104, s104, c104, w104, B104, G104, hf104, V104, CP104, z104, D104, f104⟩ := S_J4_append (E := E) hE B82 (by omega) hf82 z82 (by omega) (by omega) (by omega) T104 (by omega) (by omega) (by omega) (by omega) (by omega) (by omega)
            subst x104
            have F104 : ∀ q, (q < s ∨ s + 10 ≤ q) → h104.1 q = h_39.1 q := fun q hq => (f104 q (by omega)).trans (F82 q hq)
            refine xv (x_inv1 107 (as := [Value.ref ta0]) d_L_drawn_104 rfl c_9_122 rfl (Nat.le_of_ble_eq_true rfl) (Nat.le_of_ble_eq_true rfl) B82.1 (Nat.le_of_ble_eq_true rfl) (Nat.le_of_ble_eq_true rfl) rfl e104) ?_
            show Xv E q_m_L_drawn 107 [Value.ref b, Value.ref x, Value.int (zi R), Value.int (zi C), Value.ref ta, Value.int (zi k), Value.int (zi (z67 % 16)), b7, b8] [Value.ref s] h104 Q
            refine xv (x_iload 109 d_L_drawn_107 rfl rfl) ?_
            refine xv (x_iconst 110 d_L_drawn_109 rfl) ?_
            refine v_icmp_ge 118 113 d_L_drawn_110 rfl rfl (by omega) (by omega) (by omega) (by omega) (fun k110 => ?_) (fun k110 => ?_)
            · refine xv (x_iload 120 d_L_drawn_118 rfl rfl) ?_
              refine xv (x_iconst 121 d_L_drawn_120 rfl) ?_
              refine v_icmp_ne 129 124 d_L_drawn_121 rfl rfl (by omega) (by omega) (by omega) (by omega) (fun k121 => ?_) (fun k121 => ?_)
              · refine xv (x_iload 131 d_L_drawn_129 rfl rfl) ?_
                refine xv (x_iconst 132 d_L_drawn_131 rfl) ?_
                refine v_icmp_ne 140 135 d_L_drawn_132 rfl rfl (by omega) (by omega) (by omega) (by omega) (fun k132 => ?_) (fun k132 => ?_)
                · refine xv (x_ldcs 142 d_L_drawn_140 rfl rfl (Nat.le_of_ble_eq_true rfl) (show E.1 (6 + 2 * 5) = some (.ref ta5) from et5)) ?_
                  show Xv E q_m_L_drawn 142 [Value.ref b, Value.ref x, Value.int (zi R), Value.int (zi C), Value.ref ta, Value.int (zi k), Value.int (zi (z67 % 16)), b7, b8] [Value.ref ta5, Value.ref s] h104 Q
                  have T142 := txt_lo TT5 ta5_ tb5_ hLo (fun q hq => (F104 q (by omega)).trans (px_lo P_39 q hq))
                  obtain ⟨r142, h142, e142, x142, v142, cp142, g142, s142, c142, w142, B142, G142, hf142, V142, CP142, z142, D142, f142⟩ := S_J4_append (E := E) hE B104 (by omega) hf104 z104 (by omega) (by omega) (by omega) T142 (by omega) (by omega) (by omega) (by omega) (by omega) (by omega)
                  subst x142
                  have F142 : ∀ q, (q < s ∨ s + 10 ≤ q) → h142.1 q = h_39.1 q := fun q hq => (f142 q (by omega)).trans (F104 q hq)
                  refine xv (x_inv1 145 (as := [Value.ref ta5]) d_L_drawn_142 rfl c_9_122 rfl (Nat.le_of_ble_eq_true rfl) (Nat.le_of_ble_eq_true rfl) B104.1 (Nat.le_of_ble_eq_true rfl) (Nat.le_of_ble_eq_true rfl) rfl e142) ?_
                  show Xv E q_m_L_drawn 145 [Value.ref b, Value.ref x, Value.int (zi R), Value.int (zi C), Value.ref ta, Value.int (zi k), Value.int (zi (z67 % 16)), b7, b8] [Value.ref s] h142 Q
                  have BB145 : SBO h142 s v142 cp142 ((nt + 1 : Nat) : Int) g142 := by rw [show ((nt + 1 : Nat) : Int) = ((0 + (nt : Int)) + 0) + 1 by omega]; exact B142
                  obtain ⟨r145, h145, e145, x145, y145, N145, z145, f145⟩ := S_J4_toString (E := E) hE BB145 (by omega) hf142 z142 (by omega) (by omega)
                  subst x145
                  have F145 : ∀ q, (q < s ∨ s + 10 ≤ q) → h145.1 q = h_39.1 q := fun q hq => (f145 q (by omega)).trans (F142 q hq)
                  refine xv (x_inv1 148 (as := []) d_L_drawn_145 rfl c_9_135 rfl (Nat.le_of_ble_eq_true rfl) (Nat.le_of_ble_eq_true rfl) B142.1 (Nat.le_of_ble_eq_true rfl) (Nat.le_of_ble_eq_true rfl) rfl e145) ?_
                  show Xv E q_m_L_drawn 148 [Value.ref b, Value.ref x, Value.int (zi R), Value.int (zi C), Value.ref ta, Value.int (zi k), Value.int (zi (z67 % 16)), b7, b8] [Value.ref s142] h145 Q
                  refine xv (x_astore 150 d_L_drawn_148 rfl (Nat.le_of_ble_eq_true rfl)) ?_
                  show Xv E q_m_L_drawn 150 [Value.ref b, Value.ref x, Value.int (zi R), Value.int (zi C), Value.ref s142, Value.int (zi k), Value.int (zi (z67 % 16)), b7, b8] [] h145 Q
                  refine xv (x_iinc 153 d_L_drawn_150 rfl rfl) ?_
                  show Xv E q_m_L_drawn 153 [Value.ref b, Value.ref x, Value.int (zi R), Value.int (zi C), Value.ref s142, Value.int (zi (k + 1)), Value.int (zi (z67 % 16)), b7, b8] [] h145 Q
                  refine xv (x_goto 39 d_L_drawn_153 rfl) ?_
                  have Q1 : Fr s 10 h_39 (h145.1, h_39.2) := ⟨rfl, fun q hq => F145 q (by omega)⟩
                  have P9 := px_at P_39 Q1 zs
                  have T9 : TXT E h145 s142 (s142 + 1) (nt + 1) g142 := txt_new y145 N145 (by omega) fun i a b => hf142 i a (by omega)
                  have hg : ∀ i : Int, 0 ≤ i → i < nt → g142 i = f i := fun i a b => by rw [G142 i a (by omega), cpI_lo (by omega), G104 i a (by omega), cpI_lo (by omega), G82 i a (by omega), cpI_at (by omega) (by omega)]; congr 1; omega
                  have hd : g142 (nt : Int) = 46 := by rw [G142 _ (by omega) (by omega), cpI_at (by omega) (by omega)]; exact (gd0 (by omega)).trans rfl
                  have I9 := ti_c C_ R_ TI_39 (by omega) (by omega) (by first | exact Or.inl (by omega) | exact Or.inr k94) hg hd (by decide) (by decide)
                  exact ih39 _ (by omega) (k + 1) _ _ _ _ _ _ _ _ (by omega) (by omega) P9 T9 I9 ⟨s142 + 2, c142 + 2, w142 + 4 + (nt + 1), z145, by omega, by omega, by omega, by omega, by omega⟩ rfl
                · refine xv (x_ldcs 137 d_L_drawn_135 rfl rfl (Nat.le_of_ble_eq_true rfl) (show E.1 (6 + 2 * 4) = some (.ref ta4) from et4)) ?_
                  show Xv E q_m_L_drawn 137 [Value.ref b, Value.ref x, Value.int (zi R), Value.int (zi C), Value.ref ta, Value.int (zi k), Value.int (zi (z67 % 16)), b7, b8] [Value.ref ta4, Value.ref s] h104 Q
                  refine xv (x_goto 142 d_L_drawn_137 rfl) ?_
                  have T142 := txt_lo TT4 ta4_ tb4_ hLo (fun q hq => (F104 q (by omega)).trans (px_lo P_39 q hq))
                  obtain ⟨r142, h142, e142, x142, v142, cp142, g142, s142, c142, w142, B142, G142, hf142, V142, CP142, z142, D142, f142⟩ := S_J4_append (E := E) hE B104 (by omega) hf104 z104 (by omega) (by omega) (by omega) T142 (by omega) (by omega) (by omega) (by omega) (by omega) (by omega)
                  subst x142
                  have F142 : ∀ q, (q < s ∨ s + 10 ≤ q) → h142.1 q = h_39.1 q := fun q hq => (f142 q (by omega)).trans (F104 q hq)
                  refine xv (x_inv1 145 (as := [Value.ref ta4]) d_L_drawn_142 rfl c_9_122 rfl (Nat.le_of_ble_eq_true rfl) (Nat.le_of_ble_eq_true rfl) B104.1 (Nat.le_of_ble_eq_true rfl) (Nat.le_of_ble_eq_true rfl) rfl e142) ?_
                  show Xv E q_m_L_drawn 145 [Value.ref b, Value.ref x, Value.int (zi R), Value.int (zi C), Value.ref ta, Value.int (zi k), Value.int (zi (z67 % 16)), b7, b8] [Value.ref s] h142 Q
                  have BB145 : SBO h142 s v142 cp142 ((nt + 1 : Nat) : Int) g142 := by rw [show ((nt + 1 : Nat) : Int) = ((0 + (nt : Int)) + 0) + 1 by omega]; exact B142
                  obtain ⟨r145, h145, e145, x145, y145, N145, z145, f145⟩ := S_J4_toString (E := E) hE BB145 (by omega) hf142 z142 (by omega) (by omega)
                  subst x145
                  have F145 : ∀ q, (q < s ∨ s + 10 ≤ q) → h145.1 q = h_39.1 q := fun q hq => (f145 q (by omega)).trans (F142 q hq)
                  refine xv (x_inv1 148 (as := []) d_L_drawn_145 rfl c_9_135 rfl (Nat.le_of_ble_eq_true rfl) (Nat.le_of_ble_eq_true rfl) B142.1 (Nat.le_of_ble_eq_true rfl) (Nat.le_of_ble_eq_true rfl) rfl e145) ?_
                  show Xv E q_m_L_drawn 148 [Value.ref b, Value.ref x, Value.int (zi R), Value.int (zi C), Value.ref ta, Value.int (zi k), Value.int (zi (z67 % 16)), b7, b8] [Value.ref s142] h145 Q
                  refine xv (x_astore 150 d_L_drawn_148 rfl (Nat.le_of_ble_eq_true rfl)) ?_
                  show Xv E q_m_L_drawn 150 [Value.ref b, Value.ref x, Value.int (zi R), Value.int (zi C), Value.ref s142, Value.int (zi k), Value.int (zi (z67 % 16)), b7, b8] [] h145 Q
                  refine xv (x_iinc 153 d_L_drawn_150 rfl rfl) ?_
                  show Xv E q_m_L_drawn 153 [Value.ref b, Value.ref x, Value.int (zi R), Value.int (zi C), Value.ref s142, Value.int (zi (k + 1)), Value.int (zi (z67 % 16)), b7, b8] [] h145 Q
                  refine xv (x_goto 39 d_L_drawn_153 rfl) ?_
                  have Q1 : Fr s 10 h_39 (h145.1, h_39.2) := ⟨rfl, fun q hq => F145 q (by omega)⟩
                  have P9 := px_at P_39 Q1 zs
                  have T9 : TXT E h145 s142 (s142 + 1) (nt + 1) g142 := txt_new y145 N145 (by omega) fun i a b => hf142 i a (by omega)
                  have hg : ∀ i : Int, 0 ≤ i → i < nt → g142 i = f i := fun i a b => by rw [G142 i a (by omega), cpI_lo (by omega), G104 i a (by omega), cpI_lo (by omega), G82 i a (by omega), cpI_at (by omega) (by omega)]; congr 1; omega
                  have hd : g142 (nt : Int) = 64 := by rw [G142 _ (by omega) (by omega), cpI_at (by omega) (by omega)]; exact (gd0 (by omega)).trans rfl
                  have I9 := ti_c C_ R_ TI_39 (by omega) (by omega) (by first | exact Or.inl (by omega) | exact Or.inr k94) hg hd (by decide) (by decide)
                  exact ih39 _ (by omega) (k + 1) _ _ _ _ _ _ _ _ (by omega) (by omega) P9 T9 I9 ⟨s142 + 2, c142 + 2, w142 + 4 + (nt + 1), z145, by omega, by omega, by omega, by omega, by omega⟩ rfl
              · refine xv (x_ldcs 126 d_L_drawn_124 rfl rfl (Nat.le_of_ble_eq_true rfl) (show E.1 (6 + 2 * 3) = some (.ref ta3) from et3)) ?_
                show Xv E q_m_L_drawn 126 [Value.ref b, Value.ref x, Value.int (zi R), Value.int (zi C), Value.ref ta, Value.int (zi k), Value.int (zi (z67 % 16)), b7, b8] [Value.ref ta3, Value.ref s] h104 Q
                refine xv (x_goto 142 d_L_drawn_126 rfl) ?_
                have T142 := txt_lo TT3 ta3_ tb3_ hLo (fun q hq => (F104 q (by omega)).trans (px_lo P_39 q hq))
                obtain ⟨r142, h142, e142, x142, v142, cp142, g142, s142, c142, w142, B142, G142, hf142, V142, CP142, z142, D142, f142⟩ := S_J4_append (E := E) hE B104 (by omega) hf104 z104 (by omega) (by omega) (by omega) T142 (by omega) (by omega) (by omega) (by omega) (by omega) (by omega)
                subst x142
                have F142 : ∀ q, (q < s ∨ s + 10 ≤ q) → h142.1 q = h_39.1 q := fun q hq => (f142 q (by omega)).trans (F104 q hq)
                refine xv (x_inv1 145 (as := [Value.ref ta3]) d_L_drawn_142 rfl c_9_122 rfl (Nat.le_of_ble_eq_true rfl) (Nat.le_of_ble_eq_true rfl) B104.1 (Nat.le_of_ble_eq_true rfl) (Nat.le_of_ble_eq_true rfl) rfl e142) ?_
                show Xv E q_m_L_drawn 145 [Value.ref b, Value.ref x, Value.int (zi R), Value.int (zi C), Value.ref ta, Value.int (zi k), Value.int (zi (z67 % 16)), b7, b8] [Value.ref s] h142 Q
                have BB145 : SBO h142 s v142 cp142 ((nt + 1 : Nat) : Int) g142 := by rw [show ((nt + 1 : Nat) : Int) = ((0 + (nt : Int)) + 0) + 1 by omega]; exact B142
                obtain ⟨r145, h145, e145, x145, y145, N145, z145, f145⟩ := S_J4_toString (E := E) hE BB145 (by omega) hf142 z142 (by omega) (by omega)
                subst x145
                have F145 : ∀ q, (q < s ∨ s + 10 ≤ q) → h145.1 q = h_39.1 q := fun q hq => (f145 q (by omega)).trans (F142 q hq)
                refine xv (x_inv1 148 (as := []) d_L_drawn_145 rfl c_9_135 rfl (Nat.le_of_ble_eq_true rfl) (Nat.le_of_ble_eq_true rfl) B142.1 (Nat.le_of_ble_eq_true rfl) (Nat.le_of_ble_eq_true rfl) rfl e145) ?_
                show Xv E q_m_L_drawn 148 [Value.ref b, Value.ref x, Value.int (zi R), Value.int (zi C), Value.ref ta, Value.int (zi k), Value.int (zi (z67 % 16)), b7, b8] [Value.ref s142] h145 Q
                refine xv (x_astore 150 d_L_drawn_148 rfl (Nat.le_of_ble_eq_true rfl)) ?_
                show Xv E q_m_L_drawn 150 [Value.ref b, Value.ref x, Value.int (zi R), Value.int (zi C), Value.ref s142, Value.int (zi k), Value.int (zi (z67 % 16)), b7, b8] [] h145 Q
                refine xv (x_iinc 153 d_L_drawn_150 rfl rfl) ?_
                show Xv E q_m_L_drawn 153 [Value.ref b, Value.ref x, Value.int (zi R), Value.int (zi C), Value.ref s142, Value.int (zi (k + 1)), Value.int (zi (z67 % 16)), b7, b8] [] h145 Q
                refine xv (x_goto 39 d_L_drawn_153 rfl) ?_
                have Q1 : Fr s 10 h_39 (h145.1, h_39.2) := ⟨rfl, fun q hq => F145 q (by omega)⟩
                have P9 := px_at P_39 Q1 zs
                have T9 : TXT E h145 s142 (s142 + 1) (nt + 1) g142 := txt_new y145 N145 (by omega) fun i a b => hf142 i a (by omega)
                have hg : ∀ i : Int, 0 ≤ i → i < nt → g142 i = f i := fun i a b => by rw [G142 i a (by omega), cpI_lo (by omega), G104 i a (by omega), cpI_lo (by omega), G82 i a (by omega), cpI_at (by omega) (by omega)]; congr 1; omega
                have hd : g142 (nt : Int) = 43 := by rw [G142 _ (by omega) (by omega), cpI_at (by omega) (by omega)]; exact (gd0 (by omega)).trans rfl
                have I9 := ti_c C_ R_ TI_39 (by omega) (by omega) (by first | exact Or.inl (by omega) | exact Or.inr k94) hg hd (by decide) (by decide)
                exact ih39 _ (by omega) (k + 1) _ _ _ _ _ _ _ _ (by omega) (by omega) P9 T9 I9 ⟨s142 + 2, c142 + 2, w142 + 4 + (nt + 1), z145, by omega, by omega, by omega, by omega, by omega⟩ rfl
            · refine xv (x_ldcs 115 d_L_drawn_113 rfl rfl (Nat.le_of_ble_eq_true rfl) (show E.1 (6 + 2 * 2) = some (.ref ta2) from et2)) ?_
              show Xv E q_m_L_drawn 115 [Value.ref b, Value.ref x, Value.int (zi R), Value.int (zi C), Value.ref ta, Value.int (zi k), Value.int (zi (z67 % 16)), b7, b8] [Value.ref ta2, Value.ref s] h104 Q
              refine xv (x_goto 142 d_L_drawn_115 rfl) ?_
              have T142 := txt_lo TT2 ta2_ tb2_ hLo (fun q hq => (F104 q (by omega)).trans (px_lo P_39 q hq))
              obtain ⟨r142, h142, e142, x142, v142, cp142, g142, s142, c142, w142, B142, G142, hf142, V142, CP142, z142, D142, f142⟩ := S_J4_append (E := E) hE B104 (by omega) hf104 z104 (by omega) (by omega) (by omega) T142 (by omega) (by omega) (by omega) (by omega) (by omega) (by omega)
              subst x142
              have F142 : ∀ q, (q < s ∨ s + 10 ≤ q) → h142.1 q = h_39.1 q := fun q hq => (f142 q (by omega)).trans (F104 q hq)
              refine xv (x_inv1 145 (as := [Value.ref ta2]) d_L_drawn_142 rfl c_9_122 rfl (Nat.le_of_ble_eq_true rfl) (Nat.le_of_ble_eq_true rfl) B104.1 (Nat.le_of_ble_eq_true rfl) (Nat.le_of_ble_eq_true rfl) rfl e142) ?_
              show Xv E q_m_L_drawn 145 [Value.ref b, Value.ref x, Value.int (zi R), Value.int (zi C), Value.ref ta, Value.int (zi k), Value.int (zi (z67 % 16)), b7, b8] [Value.ref s] h142 Q
              have BB145 : SBO h142 s v142 cp142 ((nt + 1 : Nat) : Int) g142 := by rw [show ((nt + 1 : Nat) : Int) = ((0 + (nt : Int)) + 0) + 1 by omega]; exact B142
              obtain ⟨r145, h145, e145, x145, y145, N145, z145, f145⟩ := S_J4_toString (E := E) hE BB145 (by omega) hf142 z142 (by omega) (by omega)
              subst x145
              have F145 : ∀ q, (q < s ∨ s + 10 ≤ q) → h145.1 q = h_39.1 q := fun q hq => (f145 q (by omega)).trans (F142 q hq)
              refine xv (x_inv1 148 (as := []) d_L_drawn_145 rfl c_9_135 rfl (Nat.le_of_ble_eq_true rfl) (Nat.le_of_ble_eq_true rfl) B142.1 (Nat.le_of_ble_eq_true rfl) (Nat.le_of_ble_eq_true rfl) rfl e145) ?_
              show Xv E q_m_L_drawn 148 [Value.ref b, Value.ref x, Value.int (zi R), Value.int (zi C), Value.ref ta, Value.int (zi k), Value.int (zi (z67 % 16)), b7, b8] [Value.ref s142] h145 Q
              refine xv (x_astore 150 d_L_drawn_148 rfl (Nat.le_of_ble_eq_true rfl)) ?_
              show Xv E q_m_L_drawn 150 [Value.ref b, Value.ref x, Value.int (zi R), Value.int (zi C), Value.ref s142, Value.int (zi k), Value.int (zi (z67 % 16)), b7, b8] [] h145 Q
              refine xv (x_iinc 153 d_L_drawn_150 rfl rfl) ?_
              show Xv E q_m_L_drawn 153 [Value.ref b, Value.ref x, Value.int (zi R), Value.int (zi C), Value.ref s142, Value.int (zi (k + 1)), Value.int (zi (z67 % 16)), b7, b8] [] h145 Q
              refine xv (x_goto 39 d_L_drawn_153 rfl) ?_
              have Q1 : Fr s 10 h_39 (h145.1, h_39.2) := ⟨rfl, fun q hq => F145 q (by omega)⟩
              have P9 := px_at P_39 Q1 zs
              have T9 : TXT E h145 s142 (s142 + 1) (nt + 1) g142 := txt_new y145 N145 (by omega) fun i a b => hf142 i a (by omega)
              have hg : ∀ i : Int, 0 ≤ i → i < nt → g142 i = f i := fun i a b => by rw [G142 i a (by omega), cpI_lo (by omega), G104 i a (by omega), cpI_lo (by omega), G82 i a (by omega), cpI_at (by omega) (by omega)]; congr 1; omega
              have hd : g142 (nt : Int) = 35 := by rw [G142 _ (by omega) (by omega), cpI_at (by omega) (by omega)]; exact (gd0 (by omega)).trans rfl
              have I9 := ti_c C_ R_ TI_39 (by omega) (by omega) (by first | exact Or.inl (by omega) | exact Or.inr k94) hg hd (by decide) (by decide)
              exact ih39 _ (by omega) (k + 1) _ _ _ _ _ _ _ _ (by omega) (by omega) P9 T9 I9 ⟨s142 + 2, c142 + 2, w142 + 4 + (nt + 1), z145, by omega, by omega, by omega, by omega, by omega⟩ rfl
          · refine xv (x_ldcs 99 d_L_drawn_97 rfl rfl (Nat.le_of_ble_eq_true rfl) (show E.1 (6 + 2 * 1) = some (.ref ta1) from et1)) ?_
            show Xv E q_m_L_drawn 99 [Value.ref b, Value.ref x, Value.int (zi R), Value.int (zi C), Value.ref ta, Value.int (zi k), Value.int (zi (z67 % 16)), b7, b8] [Value.ref ta1, Value.ref s] h82 Q
            refine xv (x_goto 104 d_L_drawn_99 rfl) ?_
            have T104 := txt_lo TT1 ta1_ tb1_ hLo (fun q hq => (F82 q (by omega)).trans (px_lo P_39 q hq))
            obtain ⟨r104, h104, e104, x104, v104, cp104, g104, s104, c104, w104, B104, G104, hf104, V104, CP104, z104, D104, f104⟩ := S_J4_append (E := E) hE B82 (by omega) hf82 z82 (by omega) (by omega) (by omega) T104 (by omega) (by omega) (by omega) (by omega) (by omega) (by omega)
            subst x104
            have F104 : ∀ q, (q < s ∨ s + 10 ≤ q) → h104.1 q = h_39.1 q := fun q hq => (f104 q (by omega)).trans (F82 q hq)
            refine xv (x_inv1 107 (as := [Value.ref ta1]) d_L_drawn_104 rfl c_9_122 rfl (Nat.le_of_ble_eq_true rfl) (Nat.le_of_ble_eq_true rfl) B82.1 (Nat.le_of_ble_eq_true rfl) (Nat.le_of_ble_eq_true rfl) rfl e104) ?_
            show Xv E q_m_L_drawn 107 [Value.ref b, Value.ref x, Value.int (zi R), Value.int (zi C), Value.ref ta, Value.int (zi k), Value.int (zi (z67 % 16)), b7, b8] [Value.ref s] h104 Q
            refine xv (x_iload 109 d_L_drawn_107 rfl rfl) ?_
            refine xv (x_iconst 110 d_L_drawn_109 rfl) ?_
            refine v_icmp_ge 118 113 d_L_drawn_110 rfl rfl (by omega) (by omega) (by omega) (by omega) (fun k110 => ?_) (fun k110 => ?_)
            · refine xv (x_iload 120 d_L_drawn_118 rfl rfl) ?_
              refine xv (x_iconst 121 d_L_drawn_120 rfl) ?_
              refine v_icmp_ne 129 124 d_L_drawn_121 rfl rfl (by omega) (by omega) (by omega) (by omega) (fun k121 => ?_) (fun k121 => ?_)
              · refine xv (x_iload 131 d_L_drawn_129 rfl rfl) ?_
                refine xv (x_iconst 132 d_L_drawn_131 rfl) ?_
                refine v_icmp_ne 140 135 d_L_drawn_132 rfl rfl (by omega) (by omega) (by omega) (by omega) (fun k132 => ?_) (fun k132 => ?_)
                · refine xv (x_ldcs 142 d_L_drawn_140 rfl rfl (Nat.le_of_ble_eq_true rfl) (show E.1 (6 + 2 * 5) = some (.ref ta5) from et5)) ?_
                  show Xv E q_m_L_drawn 142 [Value.ref b, Value.ref x, Value.int (zi R), Value.int (zi C), Value.ref ta, Value.int (zi k), Value.int (zi (z67 % 16)), b7, b8] [Value.ref ta5, Value.ref s] h104 Q
                  have T142 := txt_lo TT5 ta5_ tb5_ hLo (fun q hq => (F104 q (by omega)).trans (px_lo P_39 q hq))
                  obtain ⟨r142, h142, e142, x142, v142, cp142, g142, s142, c142, w142, B142, G142, hf142, V142, CP142, z142, D142, f142⟩ := S_J4_append (E := E) hE B104 (by omega) hf104 z104 (by omega) (by omega) (by omega) T142 (by omega) (by omega) (by omega) (by omega) (by omega) (by omega)
                  subst x142
                  have F142 : ∀ q, (q < s ∨ s + 10 ≤ q) → h142.1 q = h_39.1 q := fun q hq => (f142 q (by omega)).trans (F104 q hq)
                  refine xv (x_inv1 145 (as := [Value.ref ta5]) d_L_drawn_142 rfl c_9_122 rfl (Nat.le_of_ble_eq_true rfl) (Nat.le_of_ble_eq_true rfl) B104.1 (Nat.le_of_ble_eq_true rfl) (Nat.le_of_ble_eq_true rfl) rfl e142) ?_
                  show Xv E q_m_L_drawn 145 [Value.ref b, Value.ref x, Value.int (zi R), Value.int (zi C), Value.ref ta, Value.int (zi k), Value.int (zi (z67 % 16)), b7, b8] [Value.ref s] h142 Q
                  have BB145 : SBO h142 s v142 cp142 ((nt + 2 : Nat) : Int) g142 := by rw [show ((nt + 2 : Nat) : Int) = ((0 + (nt : Int)) + 1) + 1 by omega]; exact B142
                  obtain ⟨r145, h145, e145, x145, y145, N145, z145, f145⟩ := S_J4_toString (E := E) hE BB145 (by omega) hf142 z142 (by omega) (by omega)
                  subst x145
                  have F145 : ∀ q, (q < s ∨ s + 10 ≤ q) → h145.1 q = h_39.1 q := fun q hq => (f145 q (by omega)).trans (F142 q hq)
                  refine xv (x_inv1 148 (as := []) d_L_drawn_145 rfl c_9_135 rfl (Nat.le_of_ble_eq_true rfl) (Nat.le_of_ble_eq_true rfl) B142.1 (Nat.le_of_ble_eq_true rfl) (Nat.le_of_ble_eq_true rfl) rfl e145) ?_
                  show Xv E q_m_L_drawn 148 [Value.ref b, Value.ref x, Value.int (zi R), Value.int (zi C), Value.ref ta, Value.int (zi k), Value.int (zi (z67 % 16)), b7, b8] [Value.ref s142] h145 Q
                  refine xv (x_astore 150 d_L_drawn_148 rfl (Nat.le_of_ble_eq_true rfl)) ?_
                  show Xv E q_m_L_drawn 150 [Value.ref b, Value.ref x, Value.int (zi R), Value.int (zi C), Value.ref s142, Value.int (zi k), Value.int (zi (z67 % 16)), b7, b8] [] h145 Q
                  refine xv (x_iinc 153 d_L_drawn_150 rfl rfl) ?_
                  show Xv E q_m_L_drawn 153 [Value.ref b, Value.ref x, Value.int (zi R), Value.int (zi C), Value.ref s142, Value.int (zi (k + 1)), Value.int (zi (z67 % 16)), b7, b8] [] h145 Q
                  refine xv (x_goto 39 d_L_drawn_153 rfl) ?_
                  have Q1 : Fr s 10 h_39 (h145.1, h_39.2) := ⟨rfl, fun q hq => F145 q (by omega)⟩
                  have P9 := px_at P_39 Q1 zs
                  have T9 : TXT E h145 s142 (s142 + 1) (nt + 2) g142 := txt_new y145 N145 (by omega) fun i a b => hf142 i a (by omega)
                  have hg : ∀ i : Int, 0 ≤ i → i < nt → g142 i = f i := fun i a b => by rw [G142 i a (by omega), cpI_lo (by omega), G104 i a (by omega), cpI_lo (by omega), G82 i a (by omega), cpI_at (by omega) (by omega)]; congr 1; omega
                  have h47 : g142 (nt : Int) = 47 := by rw [G142 _ (by omega) (by omega), cpI_lo (by omega), G104 _ (by omega) (by omega), cpI_at (by omega) (by omega)]; exact (gd0 (by omega)).trans rfl
                  have hd : g142 ((nt : Int) + 1) = 46 := by rw [G142 _ (by omega) (by omega), cpI_at (by omega) (by omega)]; exact (gd0 (by omega)).trans rfl
                  have I9 := ti_r C_ R_ TI_39 (by omega) (by omega) k94 hg h47 hd (by decide) (by decide)
                  exact ih39 _ (by omega) (k + 1) _ _ _ _ _ _ _ _ (by omega) (by omega) P9 T9 I9 ⟨s142 + 2, c142 + 2, w142 + 4 + (nt + 2), z145, by omega, by omega, by omega, by omega, by omega⟩ rfl
                · refine xv (x_ldcs 137 d_L_drawn_135 rfl rfl (Nat.le_of_ble_eq_true rfl) (show E.1 (6 + 2 * 4) = some (.ref ta4) from et4)) ?_
                  show Xv E q_m_L_drawn 137 [Value.ref b, Value.ref x, Value.int (zi R), Value.int (zi C), Value.ref ta, Value.int (zi k), Value.int (zi (z67 % 16)), b7, b8] [Value.ref ta4, Value.ref s] h104 Q
                  refine xv (x_goto 142 d_L_drawn_137 rfl) ?_
                  have T142 := txt_lo TT4 ta4_ tb4_ hLo (fun q hq => (F104 q (by omega)).trans (px_lo P_39 q hq))
                  obtain ⟨r142, h142, e142, x142, v142, cp142, g142, s142, c142, w142, B142, G142, hf142, V142, CP142, z142, D142, f142⟩ := S_J4_append (E := E) hE B104 (by omega) hf104 z104 (by omega) (by omega) (by omega) T142 (by omega) (by omega) (by omega) (by omega) (by omega) (by omega)
                  subst x142
                  have F142 : ∀ q, (q < s ∨ s + 10 ≤ q) → h142.1 q = h_39.1 q := fun q hq => (f142 q (by omega)).trans (F104 q hq)
                  refine xv (x_inv1 145 (as := [Value.ref ta4]) d_L_drawn_142 rfl c_9_122 rfl (Nat.le_of_ble_eq_true rfl) (Nat.le_of_ble_eq_true rfl) B104.1 (Nat.le_of_ble_eq_true rfl) (Nat.le_of_ble_eq_true rfl) rfl e142) ?_
                  show Xv E q_m_L_drawn 145 [Value.ref b, Value.ref x, Value.int (zi R), Value.int (zi C), Value.ref ta, Value.int (zi k), Value.int (zi (z67 % 16)), b7, b8] [Value.ref s] h142 Q
                  have BB145 : SBO h142 s v142 cp142 ((nt + 2 : Nat) : Int) g142 := by rw [show ((nt + 2 : Nat) : Int) = ((0 + (nt : Int)) + 1) + 1 by omega]; exact B142
                  obtain ⟨r145, h145, e145, x145, y145, N145, z145, f145⟩ := S_J4_toString (E := E) hE BB145 (by omega) hf142 z142 (by omega) (by omega)
                  subst x145
                  have F145 : ∀ q, (q < s ∨ s + 10 ≤ q) → h145.1 q = h_39.1 q := fun q hq => (f145 q (by omega)).trans (F142 q hq)
                  refine xv (x_inv1 148 (as := []) d_L_drawn_145 rfl c_9_135 rfl (Nat.le_of_ble_eq_true rfl) (Nat.le_of_ble_eq_true rfl) B142.1 (Nat.le_of_ble_eq_true rfl) (Nat.le_of_ble_eq_true rfl) rfl e145) ?_
                  show Xv E q_m_L_drawn 148 [Value.ref b, Value.ref x, Value.int (zi R), Value.int (zi C), Value.ref ta, Value.int (zi k), Value.int (zi (z67 % 16)), b7, b8] [Value.ref s142] h145 Q
                  refine xv (x_astore 150 d_L_drawn_148 rfl (Nat.le_of_ble_eq_true rfl)) ?_
                  show Xv E q_m_L_drawn 150 [Value.ref b, Value.ref x, Value.int (zi R), Value.int (zi C), Value.ref s142, Value.int (zi k), Value.int (zi (z67 % 16)), b7, b8] [] h145 Q
                  refine xv (x_iinc 153 d_L_drawn_150 rfl rfl) ?_
                  show Xv E q_m_L_drawn 153 [Value.ref b, Value.ref x, Value.int (zi R), Value.int (zi C), Value.ref s142, Value.int (zi (k + 1)), Value.int (zi (z67 % 16)), b7, b8] [] h145 Q
                  refine xv (x_goto 39 d_L_drawn_153 rfl) ?_
                  have Q1 : Fr s 10 h_39 (h145.1, h_39.2) := ⟨rfl, fun q hq => F145 q (by omega)⟩
                  have P9 := px_at P_39 Q1 zs
                  have T9 : TXT E h145 s142 (s142 + 1) (nt + 2) g142 := txt_new y145 N145 (by omega) fun i a b => hf142 i a (by omega)
                  have hg : ∀ i : Int, 0 ≤ i → i < nt → g142 i = f i := fun i a b => by rw [G142 i a (by omega), cpI_lo (by omega), G104 i a (by omega), cpI_lo (by omega), G82 i a (by omega), cpI_at (by omega) (by omega)]; congr 1; omega
                  have h47 : g142 (nt : Int) = 47 := by rw [G142 _ (by omega) (by omega), cpI_lo (by omega), G104 _ (by omega) (by omega), cpI_at (by omega) (by omega)]; exact (gd0 (by omega)).trans rfl
                  have hd : g142 ((nt : Int) + 1) = 64 := by rw [G142 _ (by omega) (by omega), cpI_at (by omega) (by omega)]; exact (gd0 (by omega)).trans rfl
                  have I9 := ti_r C_ R_ TI_39 (by omega) (by omega) k94 hg h47 hd (by decide) (by decide)
                  exact ih39 _ (by omega) (k + 1) _ _ _ _ _ _ _ _ (by omega) (by omega) P9 T9 I9 ⟨s142 + 2, c142 + 2, w142 + 4 + (nt + 2), z145, by omega, by omega, by omega, by omega, by omega⟩ rfl
              · refine xv (x_ldcs 126 d_L_drawn_124 rfl rfl (Nat.le_of_ble_eq_true rfl) (show E.1 (6 + 2 * 3) = some (.ref ta3) from et3)) ?_
                show Xv E q_m_L_drawn 126 [Value.ref b, Value.ref x, Value.int (zi R), Value.int (zi C), Value.ref ta, Value.int (zi k), Value.int (zi (z67 % 16)), b7, b8] [Value.ref ta3, Value.ref s] h104 Q
                refine xv (x_goto 142 d_L_drawn_126 rfl) ?_
                have T142 := txt_lo TT3 ta3_ tb3_ hLo (fun q hq => (F104 q (by omega)).trans (px_lo P_39 q hq))
                obtain ⟨r142, h142, e142, x142, v142, cp142, g142, s142, c142, w142, B142, G142, hf142, V142, CP142, z142, D142, f142⟩ := S_J4_append (E := E) hE B104 (by omega) hf104 z104 (by omega) (by omega) (by omega) T142 (by omega) (by omega) (by omega) (by omega) (by omega) (by omega)
                subst x142
                have F142 : ∀ q, (q < s ∨ s + 10 ≤ q) → h142.1 q = h_39.1 q := fun q hq => (f142 q (by omega)).trans (F104 q hq)
                refine xv (x_inv1 145 (as := [Value.ref ta3]) d_L_drawn_142 rfl c_9_122 rfl (Nat.le_of_ble_eq_true rfl) (Nat.le_of_ble_eq_true rfl) B104.1 (Nat.le_of_ble_eq_true rfl) (Nat.le_of_ble_eq_true rfl) rfl e142) ?_
                show Xv E q_m_L_drawn 145 [Value.ref b, Value.ref x, Value.int (zi R), Value.int (zi C), Value.ref ta, Value.int (zi k), Value.int (zi (z67 % 16)), b7, b8] [Value.ref s] h142 Q
                have BB145 : SBO h142 s v142 cp142 ((nt + 2 : Nat) : Int) g142 := by rw [show ((nt + 2 : Nat) : Int) = ((0 + (nt : Int)) + 1) + 1 by omega]; exact B142
                obtain ⟨r145, h145, e145, x145, y145, N145, z145, f145⟩ := S_J4_toString (E := E) hE BB145 (by omega) hf142 z142 (by omega) (by omega)
                subst x145
                have F145 : ∀ q, (q < s ∨ s + 10 ≤ q) → h145.1 q = h_39.1 q := fun q hq => (f145 q (by omega)).trans (F142 q hq)
                refine xv (x_inv1 148 (as := []) d_L_drawn_145 rfl c_9_135 rfl (Nat.le_of_ble_eq_true rfl) (Nat.le_of_ble_eq_true rfl) B142.1 (Nat.le_of_ble_eq_true rfl) (Nat.le_of_ble_eq_true rfl) rfl e145) ?_
                show Xv E q_m_L_drawn 148 [Value.ref b, Value.ref x, Value.int (zi R), Value.int (zi C), Value.ref ta, Value.int (zi k), Value.int (zi (z67 % 16)), b7, b8] [Value.ref s142] h145 Q
                refine xv (x_astore 150 d_L_drawn_148 rfl (Nat.le_of_ble_eq_true rfl)) ?_
                show Xv E q_m_L_drawn 150 [Value.ref b, Value.ref x, Value.int (zi R), Value.int (zi C), Value.ref s142, Value.int (zi k), Value.int (zi (z67 % 16)), b7, b8] [] h145 Q
                refine xv (x_iinc 153 d_L_drawn_150 rfl rfl) ?_
                show Xv E q_m_L_drawn 153 [Value.ref b, Value.ref x, Value.int (zi R), Value.int (zi C), Value.ref s142, Value.int (zi (k + 1)), Value.int (zi (z67 % 16)), b7, b8] [] h145 Q
                refine xv (x_goto 39 d_L_drawn_153 rfl) ?_
                have Q1 : Fr s 10 h_39 (h145.1, h_39.2) := ⟨rfl, fun q hq => F145 q (by omega)⟩
                have P9 := px_at P_39 Q1 zs
                have T9 : TXT E h145 s142 (s142 + 1) (nt + 2) g142 := txt_new y145 N145 (by omega) fun i a b => hf142 i a (by omega)
                have hg : ∀ i : Int, 0 ≤ i → i < nt → g142 i = f i := fun i a b => by rw [G142 i a (by omega), cpI_lo (by omega), G104 i a (by omega), cpI_lo (by omega), G82 i a (by omega), cpI_at (by omega) (by omega)]; congr 1; omega
                have h47 : g142 (nt : Int) = 47 := by rw [G142 _ (by omega) (by omega), cpI_lo (by omega), G104 _ (by omega) (by omega), cpI_at (by omega) (by omega)]; exact (gd0 (by omega)).trans rfl
                have hd : g142 ((nt : Int) + 1) = 43 := by rw [G142 _ (by omega) (by omega), cpI_at (by omega) (by omega)]; exact (gd0 (by omega)).trans rfl
                have I9 := ti_r C_ R_ TI_39 (by omega) (by omega) k94 hg h47 hd (by decide) (by decide)
                exact ih39 _ (by omega) (k + 1) _ _ _ _ _ _ _ _ (by omega) (by omega) P9 T9 I9 ⟨s142 + 2, c142 + 2, w142 + 4 + (nt + 2), z145, by omega, by omega, by omega, by omega, by omega⟩ rfl
            · refine xv (x_ldcs 115 d_L_drawn_113 rfl rfl (Nat.le_of_ble_eq_true rfl) (show E.1 (6 + 2 * 2) = some (.ref ta2) from et2)) ?_
              show Xv E q_m_L_drawn 115 [Value.ref b, Value.ref x, Value.int (zi R), Value.int (zi C), Value.ref ta, Value.int (zi k), Value.int (zi (z67 % 16)), b7, b8] [Value.ref ta2, Value.ref s] h104 Q
              refine xv (x_goto 142 d_L_drawn_115 rfl) ?_
              have T142 := txt_lo TT2 ta2_ tb2_ hLo (fun q hq => (F104 q (by omega)).trans (px_lo P_39 q hq))
              obtain ⟨r142, h142, e142, x142, v142, cp142, g142, s142, c142, w142, B142, G142, hf142, V142, CP142, z142, D142, f142⟩ := S_J4_append (E := E) hE B104 (by omega) hf104 z104 (by omega) (by omega) (by omega) T142 (by omega) (by omega) (by omega) (by omega) (by omega) (by omega)
              subst x142
              have F142 : ∀ q, (q < s ∨ s + 10 ≤ q) → h142.1 q = h_39.1 q := fun q hq => (f142 q (by omega)).trans (F104 q hq)
              refine xv (x_inv1 145 (as := [Value.ref ta2]) d_L_drawn_142 rfl c_9_122 rfl (Nat.le_of_ble_eq_true rfl) (Nat.le_of_ble_eq_true rfl) B104.1 (Nat.le_of_ble_eq_true rfl) (Nat.le_of_ble_eq_true rfl) rfl e142) ?_
              show Xv E q_m_L_drawn 145 [Value.ref b, Value.ref x, Value.int (zi R), Value.int (zi C), Value.ref ta, Value.int (zi k), Value.int (zi (z67 % 16)), b7, b8] [Value.ref s] h142 Q
              have BB145 : SBO h142 s v142 cp142 ((nt + 2 : Nat) : Int) g142 := by rw [show ((nt + 2 : Nat) : Int) = ((0 + (nt : Int)) + 1) + 1 by omega]; exact B142
              obtain ⟨r145, h145, e145, x145, y145, N145, z145, f145⟩ := S_J4_toString (E := E) hE BB145 (by omega) hf142 z142 (by omega) (by omega)
              subst x145
              have F145 : ∀ q, (q < s ∨ s + 10 ≤ q) → h145.1 q = h_39.1 q := fun q hq => (f145 q (by omega)).trans (F142 q hq)
              refine xv (x_inv1 148 (as := []) d_L_drawn_145 rfl c_9_135 rfl (Nat.le_of_ble_eq_true rfl) (Nat.le_of_ble_eq_true rfl) B142.1 (Nat.le_of_ble_eq_true rfl) (Nat.le_of_ble_eq_true rfl) rfl e145) ?_
              show Xv E q_m_L_drawn 148 [Value.ref b, Value.ref x, Value.int (zi R), Value.int (zi C), Value.ref ta, Value.int (zi k), Value.int (zi (z67 % 16)), b7, b8] [Value.ref s142] h145 Q
              refine xv (x_astore 150 d_L_drawn_148 rfl (Nat.le_of_ble_eq_true rfl)) ?_
              show Xv E q_m_L_drawn 150 [Value.ref b, Value.ref x, Value.int (zi R), Value.int (zi C), Value.ref s142, Value.int (zi k), Value.int (zi (z67 % 16)), b7, b8] [] h145 Q
              refine xv (x_iinc 153 d_L_drawn_150 rfl rfl) ?_
              show Xv E q_m_L_drawn 153 [Value.ref b, Value.ref x, Value.int (zi R), Value.int (zi C), Value.ref s142, Value.int (zi (k + 1)), Value.int (zi (z67 % 16)), b7, b8] [] h145 Q
              refine xv (x_goto 39 d_L_drawn_153 rfl) ?_
              have Q1 : Fr s 10 h_39 (h145.1, h_39.2) := ⟨rfl, fun q hq => F145 q (by omega)⟩
              have P9 := px_at P_39 Q1 zs
              have T9 : TXT E h145 s142 (s142 + 1) (nt + 2) g142 := txt_new y145 N145 (by omega) fun i a b => hf142 i a (by omega)
              have hg : ∀ i : Int, 0 ≤ i → i < nt → g142 i = f i := fun i a b => by rw [G142 i a (by omega), cpI_lo (by omega), G104 i a (by omega), cpI_lo (by omega), G82 i a (by omega), cpI_at (by omega) (by omega)]; congr 1; omega
              have h47 : g142 (nt : Int) = 47 := by rw [G142 _ (by omega) (by omega), cpI_lo (by omega), G104 _ (by omega) (by omega), cpI_at (by omega) (by omega)]; exact (gd0 (by omega)).trans rfl
              have hd : g142 ((nt : Int) + 1) = 35 := by rw [G142 _ (by omega) (by omega), cpI_at (by omega) (by omega)]; exact (gd0 (by omega)).trans rfl
              have I9 := ti_r C_ R_ TI_39 (by omega) (by omega) k94 hg h47 hd (by decide) (by decide)
              exact ih39 _ (by omega) (k + 1) _ _ _ _ _ _ _ _ (by omega) (by omega) P9 T9 I9 ⟨s142 + 2, c142 + 2, w142 + 4 + (nt + 2), z145, by omega, by omega, by omega, by omega, by omega⟩ rfl
  exact L39 _ 0 _ _ _ _ _ _ _ _ (by omega) (by have := ti_b C_ R_ (ti_0 (C := C) (f := fun _ => 0)) (Int.le_refl 0) (rc_nn C_ R_); omega) P4 (txt_lo TT0 ta0_ tb0_ hLo (px_lo P4)) ti_0 ⟨_, _, _, z4, by omega, by omega, by omega, by omega, by show ((0 + 10 + 9943 : Nat) : Int) ≤ _; omega⟩ rfl
end F8
