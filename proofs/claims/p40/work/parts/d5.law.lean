/-! the law's checks of distances and arrivals (printed by program) -/
section DDI
variable {E : q_E} {M : q_M} {h h' h0 : q_H} {x N b L : Nat} {ys : Nat → Int32} {l ls c : Int → Int} {kl : Int → Int → Int} {nx ct n hs fa kr kd_ kb k k' v y z r t i g w : Int}
variable {f p q : Int}
theorem P_distances (hb : b < x) (hS : E.2 b = some (.int, L, fun j => .int (ys j))) (hL : L ≤ 260) (P : PX x l ls nx ct kl n c hs fa kr kd_ h0 (kb) h) : ∃ r_ h', q_cl E q_m_L_distances [Value.ref b, Value.ref x] h = some (r_, h') ∧ (r_ = .inl (some (.int (zi 1))) ∧ PX x l ls nx ct kl n c hs fa kr kd_ h0 (kb + 750) h') := by
  suffices K : ∀ Q : q_R → q_H → Prop, (∀ r_ h', (r_ = .inl (some (.int (zi 1))) ∧ PX x l ls nx ct kl n c hs fa kr kd_ h0 (kb + 750) h') → Q r_ h') → Xv E q_m_L_distances 0 [Value.ref b, Value.ref x, Value.null, Value.null, Value.null, Value.null, Value.null, Value.null, Value.null, Value.null] [] h Q from K _ fun _ _ p => p
  intro Q hQ
  have hR := P.2.1
  have gc := rg_c hR
  have gr := rg_r hR
  have go := rg_o hR
  refine xv (x_iconst 1 d_L_distances_0 rfl) ?_
  refine xv (x_istore_n 2 d_L_distances_1 rfl (Nat.le_of_ble_eq_true rfl)) ?_
  show Xv E q_m_L_distances 2 [Value.ref b, Value.ref x, Value.int (zi 0), Value.null, Value.null, Value.null, Value.null, Value.null, Value.null, Value.null] [] h Q
  have L2 : ∀ (n_ : Nat) (i : Int) (a3 : Value) (a4 : Value) (a5 : Value) (a6 : Value) (a7 : Value) (a8 : Value) (a9 : Value) (h_2 : q_H), (0 ≤ i) → (i ≤ 5) → (PX x l ls nx ct kl n c hs fa kr kd_ h0 (kb + 150 * i) h_2) → (5 - i).toNat = n_ → Xv E q_m_L_distances 2 [Value.ref b, Value.ref x, Value.int (zi i), a3, a4, a5, a6, a7, a8, a9] [] h_2 Q := by
    intro n_
    induction n_ using Nat.strongRecOn with
    | _ n_ ih2 =>
      intro i a3 a4 a5 a6 a7 a8 a9 h_2 y2_0 y2_1 P_2 em
      refine xv (x_iload_n 3 d_L_distances_2 rfl rfl) ?_
      refine xv (x_iconst 4 d_L_distances_3 rfl) ?_
      refine v_icmp_ge 235 7 d_L_distances_4 rfl rfl (by omega) (by omega) (by omega) (by omega) (fun k4 => ?_) (fun k4 => ?_)
      · refine xv (x_iconst 236 d_L_distances_235 rfl) ?_
        refine xv_r (x_ireturn d_L_distances_236 rfl rfl) ?_
        exact hQ _ _ ⟨rfl, px_mo P_2 (by omega)⟩
      · refine xv (x_aload_n 8 d_L_distances_7 rfl rfl) ?_
        refine xv (x_bipush 10 d_L_distances_8 rfl rfl) ?_
        refine xv (x_iload_n 11 d_L_distances_10 rfl rfl) ?_
        refine xv (x_iadd 12 d_L_distances_11 rfl) ?_
        obtain ⟨v12, e12⟩ := A_cell (E := E) (k := (24 + i)) (px_lo P_2 _ hb) hS hL (by omega) (by omega)
        refine xv (x_ins1 15 (as := [Value.ref b, Value.int (zi (24 + i))]) d_L_distances_12 rfl c_9_113 rfl (Nat.le_of_ble_eq_true rfl) (Nat.le_of_ble_eq_true rfl) (Nat.le_of_ble_eq_true rfl) rfl e12) ?_
        show Xv E q_m_L_distances 15 [Value.ref b, Value.ref x, Value.int (zi i), a3, a4, a5, a6, a7, a8, a9] [Value.int v12] h_2 Q
        refine xv (x_iconst 16 d_L_distances_15 rfl) ?_
        refine xv (x_iushr 17 d_L_distances_16 rfl) ?_
        obtain ⟨z16, z016, z116, ez16⟩ := shr_x v12 (q := 1) (by omega) (by omega)
        rw [ez16]
        refine xv (x_istore_n 18 d_L_distances_17 rfl (Nat.le_of_ble_eq_true rfl)) ?_
        show Xv E q_m_L_distances 18 [Value.ref b, Value.ref x, Value.int (zi i), Value.int (zi z16), a4, a5, a6, a7, a8, a9] [] h_2 Q
        refine xv (x_iload_n 19 d_L_distances_18 rfl rfl) ?_
        refine xv (x_aload_n 20 d_L_distances_19 rfl rfl) ?_
        obtain ⟨h20, e20, P20⟩ := A_cells (E := E)  P_2 
        refine xv (x_ins1 23 (as := [Value.ref x]) d_L_distances_20 rfl c_9_145 rfl (Nat.le_of_ble_eq_true rfl) (Nat.le_of_ble_eq_true rfl) (Nat.le_of_ble_eq_true rfl) rfl e20) ?_
        show Xv E q_m_L_distances 23 [Value.ref b, Value.ref x, Value.int (zi i), Value.int (zi z16), a4, a5, a6, a7, a8, a9] [Value.int (zi (cs l)), Value.int (zi z16)] h20 Q
        refine xv (x_irem 24 d_L_distances_23 rfl (by omega) (by omega) (by omega) (by omega)) ?_
        have m23 := emod_r (a := z16) (b := (cs l)) (by omega) (by omega)
        refine xv (x_istore 26 d_L_distances_24 rfl (Nat.le_of_ble_eq_true rfl)) ?_
        show Xv E q_m_L_distances 26 [Value.ref b, Value.ref x, Value.int (zi i), Value.int (zi z16), Value.int (zi (z16 % (cs l))), a5, a6, a7, a8, a9] [] h20 Q
        refine xv (x_iconst 27 d_L_distances_26 rfl) ?_
        refine xv (x_istore 29 d_L_distances_27 rfl (Nat.le_of_ble_eq_true rfl)) ?_
        show Xv E q_m_L_distances 29 [Value.ref b, Value.ref x, Value.int (zi i), Value.int (zi z16), Value.int (zi (z16 % (cs l))), Value.int (zi 0), a6, a7, a8, a9] [] h20 Q
        refine xv (x_iconst 30 d_L_distances_29 rfl) ?_
        refine xv (x_istore 32 d_L_distances_30 rfl (Nat.le_of_ble_eq_true rfl)) ?_
        show Xv E q_m_L_distances 32 [Value.ref b, Value.ref x, Value.int (zi i), Value.int (zi z16), Value.int (zi (z16 % (cs l))), Value.int (zi 0), Value.int (zi 0), a7, a8, a9] [] h20 Q
        refine xv (x_iload 34 d_L_distances_32 rfl rfl) ?_
        refine xv (x_istore 36 d_L_distances_34 rfl (Nat.le_of_ble_eq_true rfl)) ?_
        show Xv E q_m_L_distances 36 [Value.ref b, Value.ref x, Value.int (zi i), Value.int (zi z16), Value.int (zi (z16 % (cs l))), Value.int (zi 0), Value.int (zi 0), Value.int (zi (z16 % (cs l))), a8, a9] [] h20 Q
        refine xv (x_iconst 37 d_L_distances_36 rfl) ?_
        refine xv (x_istore 39 d_L_distances_37 rfl (Nat.le_of_ble_eq_true rfl)) ?_
        show Xv E q_m_L_distances 39 [Value.ref b, Value.ref x, Value.int (zi i), Value.int (zi z16), Value.int (zi (z16 % (cs l))), Value.int (zi 0), Value.int (zi 0), Value.int (zi (z16 % (cs l))), Value.int (zi 0), a9] [] h20 Q
        have L39 : ∀ (n_ : Nat) (y : Int) (z : Int) (p : Int) (f : Int) (q : Int) (b9 : Value) (h_39 : q_H), (0 ≤ y ∧ y < cs l) → (0 ≤ z ∧ z ≤ cs l) → (DI l y z p f q) → (PX x l ls nx ct kl n c hs fa kr kd_ h0 (kb + 150 * i + 3 * z) h_39) → (cs l - z).toNat = n_ → Xv E q_m_L_distances 39 [Value.ref b, Value.ref x, Value.int (zi i), Value.int (zi z16), Value.int (zi y), Value.int (zi p), Value.int (zi f), Value.int (zi q), Value.int (zi z), b9] [] h_39 Q := by
          intro n_
          induction n_ using Nat.strongRecOn with
          | _ n_ ih39 =>
            intro y z p f q b9 h_39 y39_0 y39_1 y39_2 P_39 em
            have D0 := y39_2.1
            have D1 := y39_2.2.1.1
            have D2 := y39_2.2.1.2.1
            have D3 := y39_2.2.2.1
            refine xv (x_iload 41 d_L_distances_39 rfl rfl) ?_
            refine xv (x_aload_n 42 d_L_distances_41 rfl rfl) ?_
            obtain ⟨h42, e42, P42⟩ := A_cells (E := E)  P_39 
            refine xv (x_ins1 45 (as := [Value.ref x]) d_L_distances_42 rfl c_9_145 rfl (Nat.le_of_ble_eq_true rfl) (Nat.le_of_ble_eq_true rfl) (Nat.le_of_ble_eq_true rfl) rfl e42) ?_
            show Xv E q_m_L_distances 45 [Value.ref b, Value.ref x, Value.int (zi i), Value.int (zi z16), Value.int (zi y), Value.int (zi p), Value.int (zi f), Value.int (zi q), Value.int (zi z), b9] [Value.int (zi (cs l)), Value.int (zi z)] h42 Q
            refine v_icmp_ge 195 48 d_L_distances_45 rfl rfl (by omega) (by omega) (by omega) (by omega) (fun k45 => ?_) (fun k45 => ?_)
            · refine xv (x_aload_n 196 d_L_distances_195 rfl rfl) ?_
              refine xv (x_iload 198 d_L_distances_196 rfl rfl) ?_
              obtain ⟨h198, e198, P198⟩ := A_reach (E := E) (y := y) P42 ⟨by omega, by omega⟩
              rw [show rch l y = p from di_r hR (show isC l y from ⟨by omega, by omega⟩) (show z = cs l by omega) y39_2] at e198
              refine xv (x_inv1 201 (as := [Value.int (zi y)]) d_L_distances_198 rfl c_9_213 rfl (Nat.le_of_ble_eq_true rfl) (Nat.le_of_ble_eq_true rfl) (px_o P42) (Nat.le_of_ble_eq_true rfl) (Nat.le_of_ble_eq_true rfl) rfl e198) ?_
              show Xv E q_m_L_distances 201 [Value.ref b, Value.ref x, Value.int (zi i), Value.int (zi z16), Value.int (zi y), Value.int (zi p), Value.int (zi f), Value.int (zi q), Value.int (zi z), b9] [Value.int (zi p)] h198 Q
              refine xv (x_iload 203 d_L_distances_201 rfl rfl) ?_
              refine v_icmp_ne 227 206 d_L_distances_203 rfl rfl (by omega) (by omega) (by omega) (by omega) (fun k203 => ?_) (fun k203 => ?_)
              · omega
              · refine xv (x_aload_n 207 d_L_distances_206 rfl rfl) ?_
                refine xv (x_iload 209 d_L_distances_207 rfl rfl) ?_
                obtain ⟨h209, e209, P209⟩ := A_farthest (E := E) (y := y) P198 ⟨by omega, by omega⟩
                rw [show frt l y = if f = 0 then y else q from di_f hR (show isC l y from ⟨by omega, by omega⟩) (show z = cs l by omega) y39_2] at e209
                refine xv (x_inv1 212 (as := [Value.int (zi y)]) d_L_distances_209 rfl c_9_216 rfl (Nat.le_of_ble_eq_true rfl) (Nat.le_of_ble_eq_true rfl) (px_o P198) (Nat.le_of_ble_eq_true rfl) (Nat.le_of_ble_eq_true rfl) rfl e209) ?_
                have q209 : 0 ≤ (if f = 0 then y else q) ∧ (if f = 0 then y else q) < cs l := by split <;> omega
                show Xv E q_m_L_distances 212 [Value.ref b, Value.ref x, Value.int (zi i), Value.int (zi z16), Value.int (zi y), Value.int (zi p), Value.int (zi f), Value.int (zi q), Value.int (zi z), b9] [Value.int (zi (if f = 0 then y else q))] h209 Q
                refine xv (x_iload 214 d_L_distances_212 rfl rfl) ?_
                refine v_if_ne 222 217 d_L_distances_214 rfl rfl (by omega) (by omega) (fun k214 => ?_) (fun k214 => ?_)
                · refine xv (x_iload 224 d_L_distances_222 rfl rfl) ?_
                  refine v_icmp_eq 229 227 d_L_distances_224 rfl rfl (by omega) (by omega) (by omega) (by omega) (fun k224 => ?_) (fun k224 => ?_)
                  · refine xv (x_iinc 232 d_L_distances_229 rfl rfl) ?_
                    show Xv E q_m_L_distances 232 [Value.ref b, Value.ref x, Value.int (zi (i + 1)), Value.int (zi z16), Value.int (zi y), Value.int (zi p), Value.int (zi f), Value.int (zi q), Value.int (zi z), b9] [] h209 Q
                    refine xv (x_goto 2 d_L_distances_232 rfl) ?_
                    exact ih2 _ (by omega) (i + 1) _ _ _ _ _ _ _ _ (by omega) (by omega) (px_mo P209 (by omega)) rfl
                  · first | (rw [if_pos k214] at k224; exact absurd rfl k224) | (rw [if_neg k214] at k224; exact absurd rfl k224)
                · refine xv (x_iload 219 d_L_distances_217 rfl rfl) ?_
                  refine xv (x_goto 224 d_L_distances_219 rfl) ?_
                  refine v_icmp_eq 229 227 d_L_distances_224 rfl rfl (by omega) (by omega) (by omega) (by omega) (fun k224 => ?_) (fun k224 => ?_)
                  · refine xv (x_iinc 232 d_L_distances_229 rfl rfl) ?_
                    show Xv E q_m_L_distances 232 [Value.ref b, Value.ref x, Value.int (zi (i + 1)), Value.int (zi z16), Value.int (zi y), Value.int (zi p), Value.int (zi f), Value.int (zi q), Value.int (zi z), b9] [] h209 Q
                    refine xv (x_goto 2 d_L_distances_232 rfl) ?_
                    exact ih2 _ (by omega) (i + 1) _ _ _ _ _ _ _ _ (by omega) (by omega) (px_mo P209 (by omega)) rfl
                  · first | (rw [if_pos k214] at k224; exact absurd rfl k224) | (rw [if_neg k214] at k224; exact absurd rfl k224)
            · refine xv (x_aload_n 49 d_L_distances_48 rfl rfl) ?_
              refine xv (x_iload 51 d_L_distances_49 rfl rfl) ?_
              refine xv (x_iload 53 d_L_distances_51 rfl rfl) ?_
              obtain ⟨h53, e53, P53⟩ := A_distance (E := E) (y := y) (z := z) P42 ⟨by omega, by omega⟩ ⟨by omega, by omega⟩
              refine xv (x_ins1 56 (as := [Value.ref x, Value.int (zi y), Value.int (zi z)]) d_L_distances_53 rfl c_9_201 rfl (Nat.le_of_ble_eq_true rfl) (Nat.le_of_ble_eq_true rfl) (Nat.le_of_ble_eq_true rfl) rfl e53) ?_
              have q53 := rg_far hR (y := y) (z := z) ⟨by omega, by omega⟩
              have u53 := dV_c (v := far l y z) (far_r hR (a := y) ⟨by omega, by omega⟩ z).1.1
              have w53 := far_zi (y := y) (z := z) hR ⟨by omega, by omega⟩
              show Xv E q_m_L_distances 56 [Value.ref b, Value.ref x, Value.int (zi i), Value.int (zi z16), Value.int (zi y), Value.int (zi p), Value.int (zi f), Value.int (zi q), Value.int (zi z), b9] [Value.int (zi (dV (far l y z)))] h53 Q
              refine xv (x_istore 58 d_L_distances_56 rfl (Nat.le_of_ble_eq_true rfl)) ?_
              show Xv E q_m_L_distances 58 [Value.ref b, Value.ref x, Value.int (zi i), Value.int (zi z16), Value.int (zi y), Value.int (zi p), Value.int (zi f), Value.int (zi q), Value.int (zi z), Value.int (zi (dV (far l y z)))] [] h53 Q
              have J149 : ∀ (h_149 : q_H), (PX x l ls nx ct kl n c hs fa kr kd_ h0 (kb + 150 * i + 3 * z + 3) h_149) → Xv E q_m_L_distances 149 [Value.ref b, Value.ref x, Value.int (zi i), Value.int (zi z16), Value.int (zi y), Value.int (zi p), Value.int (zi f), Value.int (zi q), Value.int (zi z), Value.int (zi (dV (far l y z)))] [] h_149 Q := by
                intro h_149 P_149
                refine xv (x_iload 151 d_L_distances_149 rfl rfl) ?_
                refine xv (x_iload 153 d_L_distances_151 rfl rfl) ?_
                refine v_if_lt 160 156 d_L_distances_153 rfl rfl (by omega) (by omega) (fun k153 => ?_) (fun k153 => ?_)
                · refine xv (x_iconst 161 d_L_distances_160 rfl) ?_
                  refine xv (x_iadd 162 d_L_distances_161 rfl) ?_
                  refine xv (x_istore 164 d_L_distances_162 rfl (Nat.le_of_ble_eq_true rfl)) ?_
                  show Xv E q_m_L_distances 164 [Value.ref b, Value.ref x, Value.int (zi i), Value.int (zi z16), Value.int (zi y), Value.int (zi (p + 0)), Value.int (zi f), Value.int (zi q), Value.int (zi z), Value.int (zi (dV (far l y z)))] [] h_149 Q
                  refine xv (x_iload 166 d_L_distances_164 rfl rfl) ?_
                  refine xv (x_iload 168 d_L_distances_166 rfl rfl) ?_
                  refine v_icmp_le 176 171 d_L_distances_168 rfl rfl (by omega) (by omega) (by omega) (by omega) (fun k168 => ?_) (fun k168 => ?_)
                  · refine xv (x_iload 178 d_L_distances_176 rfl rfl) ?_
                    refine xv (x_istore 180 d_L_distances_178 rfl (Nat.le_of_ble_eq_true rfl)) ?_
                    show Xv E q_m_L_distances 180 [Value.ref b, Value.ref x, Value.int (zi i), Value.int (zi z16), Value.int (zi y), Value.int (zi (p + 0)), Value.int (zi f), Value.int (zi q), Value.int (zi z), Value.int (zi (dV (far l y z)))] [] h_149 Q
                    refine xv (x_iload 182 d_L_distances_180 rfl rfl) ?_
                    refine xv (x_iload 184 d_L_distances_182 rfl rfl) ?_
                    refine xv (x_mmax 187 d_L_distances_184 rfl rfl rfl rfl (Nat.le_of_ble_eq_true rfl) (Nat.le_of_ble_eq_true rfl) (Nat.le_of_ble_eq_true rfl) (by omega) (by omega) (by omega) (by omega)) ?_
                    refine xv (x_istore 189 d_L_distances_187 rfl (Nat.le_of_ble_eq_true rfl)) ?_
                    show Xv E q_m_L_distances 189 [Value.ref b, Value.ref x, Value.int (zi i), Value.int (zi z16), Value.int (zi y), Value.int (zi (p + 0)), Value.int (zi (max f (dV (far l y z)))), Value.int (zi q), Value.int (zi z), Value.int (zi (dV (far l y z)))] [] h_149 Q
                    refine xv (x_iinc 192 d_L_distances_189 rfl rfl) ?_
                    show Xv E q_m_L_distances 192 [Value.ref b, Value.ref x, Value.int (zi i), Value.int (zi z16), Value.int (zi y), Value.int (zi (p + 0)), Value.int (zi (max f (dV (far l y z)))), Value.int (zi q), Value.int (zi (z + 1)), Value.int (zi (dV (far l y z)))] [] h_149 Q
                    refine xv (x_goto 39 d_L_distances_192 rfl) ?_
                    have D := di_s hR (y := y) (z := z) ⟨by omega, by omega⟩ ⟨by omega, by omega⟩ y39_2
                    first | rw [if_pos k153, if_pos k168] at D | rw [if_pos k153, if_neg k168] at D | rw [if_neg k153, if_pos k168] at D | rw [if_neg k153, if_neg k168] at D
                    exact ih39 _ (by omega) y (z + 1) (p + 0) (max f (dV (far l y z))) q _ _ (by omega) (by omega) D (px_mo P_149 (by omega)) rfl
                  · refine xv (x_iload 173 d_L_distances_171 rfl rfl) ?_
                    refine xv (x_goto 178 d_L_distances_173 rfl) ?_
                    refine xv (x_istore 180 d_L_distances_178 rfl (Nat.le_of_ble_eq_true rfl)) ?_
                    show Xv E q_m_L_distances 180 [Value.ref b, Value.ref x, Value.int (zi i), Value.int (zi z16), Value.int (zi y), Value.int (zi (p + 0)), Value.int (zi f), Value.int (zi z), Value.int (zi z), Value.int (zi (dV (far l y z)))] [] h_149 Q
                    refine xv (x_iload 182 d_L_distances_180 rfl rfl) ?_
                    refine xv (x_iload 184 d_L_distances_182 rfl rfl) ?_
                    refine xv (x_mmax 187 d_L_distances_184 rfl rfl rfl rfl (Nat.le_of_ble_eq_true rfl) (Nat.le_of_ble_eq_true rfl) (Nat.le_of_ble_eq_true rfl) (by omega) (by omega) (by omega) (by omega)) ?_
                    refine xv (x_istore 189 d_L_distances_187 rfl (Nat.le_of_ble_eq_true rfl)) ?_
                    show Xv E q_m_L_distances 189 [Value.ref b, Value.ref x, Value.int (zi i), Value.int (zi z16), Value.int (zi y), Value.int (zi (p + 0)), Value.int (zi (max f (dV (far l y z)))), Value.int (zi z), Value.int (zi z), Value.int (zi (dV (far l y z)))] [] h_149 Q
                    refine xv (x_iinc 192 d_L_distances_189 rfl rfl) ?_
                    show Xv E q_m_L_distances 192 [Value.ref b, Value.ref x, Value.int (zi i), Value.int (zi z16), Value.int (zi y), Value.int (zi (p + 0)), Value.int (zi (max f (dV (far l y z)))), Value.int (zi z), Value.int (zi (z + 1)), Value.int (zi (dV (far l y z)))] [] h_149 Q
                    refine xv (x_goto 39 d_L_distances_192 rfl) ?_
                    have D := di_s hR (y := y) (z := z) ⟨by omega, by omega⟩ ⟨by omega, by omega⟩ y39_2
                    first | rw [if_pos k153, if_pos k168] at D | rw [if_pos k153, if_neg k168] at D | rw [if_neg k153, if_pos k168] at D | rw [if_neg k153, if_neg k168] at D
                    exact ih39 _ (by omega) y (z + 1) (p + 0) (max f (dV (far l y z))) z _ _ (by omega) (by omega) D (px_mo P_149 (by omega)) rfl
                · refine xv (x_iconst 157 d_L_distances_156 rfl) ?_
                  refine xv (x_goto 161 d_L_distances_157 rfl) ?_
                  refine xv (x_iadd 162 d_L_distances_161 rfl) ?_
                  refine xv (x_istore 164 d_L_distances_162 rfl (Nat.le_of_ble_eq_true rfl)) ?_
                  show Xv E q_m_L_distances 164 [Value.ref b, Value.ref x, Value.int (zi i), Value.int (zi z16), Value.int (zi y), Value.int (zi (p + 1)), Value.int (zi f), Value.int (zi q), Value.int (zi z), Value.int (zi (dV (far l y z)))] [] h_149 Q
                  refine xv (x_iload 166 d_L_distances_164 rfl rfl) ?_
                  refine xv (x_iload 168 d_L_distances_166 rfl rfl) ?_
                  refine v_icmp_le 176 171 d_L_distances_168 rfl rfl (by omega) (by omega) (by omega) (by omega) (fun k168 => ?_) (fun k168 => ?_)
                  · refine xv (x_iload 178 d_L_distances_176 rfl rfl) ?_
                    refine xv (x_istore 180 d_L_distances_178 rfl (Nat.le_of_ble_eq_true rfl)) ?_
                    show Xv E q_m_L_distances 180 [Value.ref b, Value.ref x, Value.int (zi i), Value.int (zi z16), Value.int (zi y), Value.int (zi (p + 1)), Value.int (zi f), Value.int (zi q), Value.int (zi z), Value.int (zi (dV (far l y z)))] [] h_149 Q
                    refine xv (x_iload 182 d_L_distances_180 rfl rfl) ?_
                    refine xv (x_iload 184 d_L_distances_182 rfl rfl) ?_
                    refine xv (x_mmax 187 d_L_distances_184 rfl rfl rfl rfl (Nat.le_of_ble_eq_true rfl) (Nat.le_of_ble_eq_true rfl) (Nat.le_of_ble_eq_true rfl) (by omega) (by omega) (by omega) (by omega)) ?_
                    refine xv (x_istore 189 d_L_distances_187 rfl (Nat.le_of_ble_eq_true rfl)) ?_
                    show Xv E q_m_L_distances 189 [Value.ref b, Value.ref x, Value.int (zi i), Value.int (zi z16), Value.int (zi y), Value.int (zi (p + 1)), Value.int (zi (max f (dV (far l y z)))), Value.int (zi q), Value.int (zi z), Value.int (zi (dV (far l y z)))] [] h_149 Q
                    refine xv (x_iinc 192 d_L_distances_189 rfl rfl) ?_
                    show Xv E q_m_L_distances 192 [Value.ref b, Value.ref x, Value.int (zi i), Value.int (zi z16), Value.int (zi y), Value.int (zi (p + 1)), Value.int (zi (max f (dV (far l y z)))), Value.int (zi q), Value.int (zi (z + 1)), Value.int (zi (dV (far l y z)))] [] h_149 Q
                    refine xv (x_goto 39 d_L_distances_192 rfl) ?_
                    have D := di_s hR (y := y) (z := z) ⟨by omega, by omega⟩ ⟨by omega, by omega⟩ y39_2
                    first | rw [if_pos k153, if_pos k168] at D | rw [if_pos k153, if_neg k168] at D | rw [if_neg k153, if_pos k168] at D | rw [if_neg k153, if_neg k168] at D
                    exact ih39 _ (by omega) y (z + 1) (p + 1) (max f (dV (far l y z))) q _ _ (by omega) (by omega) D (px_mo P_149 (by omega)) rfl
                  · refine xv (x_iload 173 d_L_distances_171 rfl rfl) ?_
                    refine xv (x_goto 178 d_L_distances_173 rfl) ?_
                    refine xv (x_istore 180 d_L_distances_178 rfl (Nat.le_of_ble_eq_true rfl)) ?_
                    show Xv E q_m_L_distances 180 [Value.ref b, Value.ref x, Value.int (zi i), Value.int (zi z16), Value.int (zi y), Value.int (zi (p + 1)), Value.int (zi f), Value.int (zi z), Value.int (zi z), Value.int (zi (dV (far l y z)))] [] h_149 Q
                    refine xv (x_iload 182 d_L_distances_180 rfl rfl) ?_
                    refine xv (x_iload 184 d_L_distances_182 rfl rfl) ?_
                    refine xv (x_mmax 187 d_L_distances_184 rfl rfl rfl rfl (Nat.le_of_ble_eq_true rfl) (Nat.le_of_ble_eq_true rfl) (Nat.le_of_ble_eq_true rfl) (by omega) (by omega) (by omega) (by omega)) ?_
                    refine xv (x_istore 189 d_L_distances_187 rfl (Nat.le_of_ble_eq_true rfl)) ?_
                    show Xv E q_m_L_distances 189 [Value.ref b, Value.ref x, Value.int (zi i), Value.int (zi z16), Value.int (zi y), Value.int (zi (p + 1)), Value.int (zi (max f (dV (far l y z)))), Value.int (zi z), Value.int (zi z), Value.int (zi (dV (far l y z)))] [] h_149 Q
                    refine xv (x_iinc 192 d_L_distances_189 rfl rfl) ?_
                    show Xv E q_m_L_distances 192 [Value.ref b, Value.ref x, Value.int (zi i), Value.int (zi z16), Value.int (zi y), Value.int (zi (p + 1)), Value.int (zi (max f (dV (far l y z)))), Value.int (zi z), Value.int (zi (z + 1)), Value.int (zi (dV (far l y z)))] [] h_149 Q
                    refine xv (x_goto 39 d_L_distances_192 rfl) ?_
                    have D := di_s hR (y := y) (z := z) ⟨by omega, by omega⟩ ⟨by omega, by omega⟩ y39_2
                    first | rw [if_pos k153, if_pos k168] at D | rw [if_pos k153, if_neg k168] at D | rw [if_neg k153, if_pos k168] at D | rw [if_neg k153, if_neg k168] at D
                    exact ih39 _ (by omega) y (z + 1) (p + 1) (max f (dV (far l y z))) z _ _ (by omega) (by omega) D (px_mo P_149 (by omega)) rfl
              refine xv (x_iload 60 d_L_distances_58 rfl rfl) ?_
              refine xv (x_aload_n 61 d_L_distances_60 rfl rfl) ?_
              refine xv (x_iload 63 d_L_distances_61 rfl rfl) ?_
              refine xv (x_iload 65 d_L_distances_63 rfl rfl) ?_
              obtain ⟨h65, e65, P65⟩ := A_distanceAgain (E := E) (y := y) (z := z) P53 ⟨by omega, by omega⟩ ⟨by omega, by omega⟩
              rw [show dV (dst l y z) = dV (far l y z) from by rw [far_dst hR (show isC l y from ⟨by omega, by omega⟩)]] at e65
              refine xv (x_ins1 68 (as := [Value.ref x, Value.int (zi y), Value.int (zi z)]) d_L_distances_65 rfl c_9_206 rfl (Nat.le_of_ble_eq_true rfl) (Nat.le_of_ble_eq_true rfl) (Nat.le_of_ble_eq_true rfl) rfl e65) ?_
              have q65 := rg_dst (l := l) (y := y) (z := z)
              show Xv E q_m_L_distances 68 [Value.ref b, Value.ref x, Value.int (zi i), Value.int (zi z16), Value.int (zi y), Value.int (zi p), Value.int (zi f), Value.int (zi q), Value.int (zi z), Value.int (zi (dV (far l y z)))] [Value.int (zi (dV (far l y z))), Value.int (zi (dV (far l y z)))] h65 Q
              refine v_icmp_ne 147 71 d_L_distances_68 rfl rfl (by omega) (by omega) (by omega) (by omega) (fun k68 => ?_) (fun k68 => ?_)
              · omega
              · refine xv (x_iload 73 d_L_distances_71 rfl rfl) ?_
                refine xv (x_iload 75 d_L_distances_73 rfl rfl) ?_
                refine v_icmp_ne 82 78 d_L_distances_75 rfl rfl (by omega) (by omega) (by omega) (by omega) (fun k75 => ?_) (fun k75 => ?_)
                · refine xv (x_iconst 83 d_L_distances_82 rfl) ?_
                  refine xv (x_iload 85 d_L_distances_83 rfl rfl) ?_
                  refine v_if_ne 92 88 d_L_distances_85 rfl rfl (by omega) (by omega) (fun k85 => ?_) (fun k85 => ?_)
                  · refine xv (x_iconst 93 d_L_distances_92 rfl) ?_
                    refine v_icmp_ne 147 96 d_L_distances_93 rfl rfl (by omega) (by omega) (by omega) (by omega) (fun k93 => ?_) (fun k93 => ?_)
                    · omega
                    · refine xv (x_iload 98 d_L_distances_96 rfl rfl) ?_
                      refine v_if_le 112 101 d_L_distances_98 rfl rfl (by omega) (by omega) (fun k98 => ?_) (fun k98 => ?_)
                      · refine xv (x_aload_n 113 d_L_distances_112 rfl rfl) ?_
                        refine xv (x_iload 115 d_L_distances_113 rfl rfl) ?_
                        refine xv (x_iconst 116 d_L_distances_115 rfl) ?_
                        obtain ⟨h116, e116, P116⟩ := A_cell1 (E := E) (y := y) P65 ⟨by omega, by omega⟩
                        refine xv (x_inv1 119 (as := [Value.int (zi y), Value.int (zi 1)]) d_L_distances_116 rfl c_9_196 rfl (Nat.le_of_ble_eq_true rfl) (Nat.le_of_ble_eq_true rfl) (px_o P65) (Nat.le_of_ble_eq_true rfl) (Nat.le_of_ble_eq_true rfl) rfl e116) ?_
                        have q116 := bI_r (ent l y)
                        show Xv E q_m_L_distances 119 [Value.ref b, Value.ref x, Value.int (zi i), Value.int (zi z16), Value.int (zi y), Value.int (zi p), Value.int (zi f), Value.int (zi q), Value.int (zi z), Value.int (zi (dV (far l y z)))] [Value.int (zi (bI (ent l y)))] h116 Q
                        refine xv (x_iconst 120 d_L_distances_119 rfl) ?_
                        refine v_icmp_ne 149 123 d_L_distances_120 rfl rfl (by have := bI_r (ent l y); omega) (by have := bI_r (ent l y); omega) (by omega) (by omega) (fun k120 => ?_) (fun k120 => ?_)
                        · exact J149 _ (px_mo P116 (by omega))
                        · refine xv (x_aload_n 124 d_L_distances_123 rfl rfl) ?_
                          refine xv (x_iload 126 d_L_distances_124 rfl rfl) ?_
                          refine xv (x_iconst 127 d_L_distances_126 rfl) ?_
                          obtain ⟨h127, e127, P127⟩ := A_cell1 (E := E) (y := z) P116 ⟨by omega, by omega⟩
                          refine xv (x_inv1 130 (as := [Value.int (zi z), Value.int (zi 1)]) d_L_distances_127 rfl c_9_196 rfl (Nat.le_of_ble_eq_true rfl) (Nat.le_of_ble_eq_true rfl) (px_o P116) (Nat.le_of_ble_eq_true rfl) (Nat.le_of_ble_eq_true rfl) rfl e127) ?_
                          have q127 := bI_r (ent l z)
                          show Xv E q_m_L_distances 130 [Value.ref b, Value.ref x, Value.int (zi i), Value.int (zi z16), Value.int (zi y), Value.int (zi p), Value.int (zi f), Value.int (zi q), Value.int (zi z), Value.int (zi (dV (far l y z)))] [Value.int (zi (bI (ent l z)))] h127 Q
                          refine xv (x_iconst 131 d_L_distances_130 rfl) ?_
                          refine v_icmp_ne 149 134 d_L_distances_131 rfl rfl (by have := bI_r (ent l z); omega) (by have := bI_r (ent l z); omega) (by omega) (by omega) (fun k131 => ?_) (fun k131 => ?_)
                          · exact J149 _ (px_mo P127 (by omega))
                          · refine xv (x_iload 136 d_L_distances_134 rfl rfl) ?_
                            refine xv (x_aload_n 137 d_L_distances_136 rfl rfl) ?_
                            refine xv (x_iload 139 d_L_distances_137 rfl rfl) ?_
                            refine xv (x_iload 141 d_L_distances_139 rfl rfl) ?_
                            obtain ⟨h141, e141, P141⟩ := A_distance (E := E) (y := z) (z := y) P127 ⟨by omega, by omega⟩ ⟨by omega, by omega⟩
                            refine xv (x_ins1 144 (as := [Value.ref x, Value.int (zi z), Value.int (zi y)]) d_L_distances_141 rfl c_9_201 rfl (Nat.le_of_ble_eq_true rfl) (Nat.le_of_ble_eq_true rfl) (Nat.le_of_ble_eq_true rfl) rfl e141) ?_
                            have q141 := rg_far hR (y := z) (z := y) ⟨by omega, by omega⟩
                            have u141 := dV_c (v := far l z y) (far_r hR (a := z) ⟨by omega, by omega⟩ y).1.1
                            have w141 := far_zi (y := z) (z := y) hR ⟨by omega, by omega⟩
                            show Xv E q_m_L_distances 144 [Value.ref b, Value.ref x, Value.int (zi i), Value.int (zi z16), Value.int (zi y), Value.int (zi p), Value.int (zi f), Value.int (zi q), Value.int (zi z), Value.int (zi (dV (far l y z)))] [Value.int (zi (dV (far l z y))), Value.int (zi (dV (far l y z)))] h141 Q
                            refine v_icmp_eq 149 147 d_L_distances_144 rfl rfl (by omega) (by omega) (by omega) (by omega) (fun k144 => ?_) (fun k144 => ?_)
                            · exact J149 _ (px_mo P141 (by omega))
                            · exact absurd (by rw [far_sym hR (show isC l y from ⟨by omega, by omega⟩) (show isC l z from ⟨by omega, by omega⟩) (bI_1.mp k120) (bI_1.mp k131)]) k144
                      · refine xv (x_aload_n 102 d_L_distances_101 rfl rfl) ?_
                        refine xv (x_iload 104 d_L_distances_102 rfl rfl) ?_
                        refine xv (x_iconst 105 d_L_distances_104 rfl) ?_
                        obtain ⟨h105, e105, P105⟩ := A_cell1 (E := E) (y := z) P65 ⟨by omega, by omega⟩
                        refine xv (x_inv1 108 (as := [Value.int (zi z), Value.int (zi 1)]) d_L_distances_105 rfl c_9_196 rfl (Nat.le_of_ble_eq_true rfl) (Nat.le_of_ble_eq_true rfl) (px_o P65) (Nat.le_of_ble_eq_true rfl) (Nat.le_of_ble_eq_true rfl) rfl e105) ?_
                        have q105 := bI_r (ent l z)
                        show Xv E q_m_L_distances 108 [Value.ref b, Value.ref x, Value.int (zi i), Value.int (zi z16), Value.int (zi y), Value.int (zi p), Value.int (zi f), Value.int (zi q), Value.int (zi z), Value.int (zi (dV (far l y z)))] [Value.int (zi (bI (ent l z)))] h105 Q
                        refine xv (x_iconst 109 d_L_distances_108 rfl) ?_
                        refine v_icmp_ne 147 112 d_L_distances_109 rfl rfl (by have := bI_r (ent l z); omega) (by have := bI_r (ent l z); omega) (by omega) (by omega) (fun k109 => ?_) (fun k109 => ?_)
                        · exact absurd (bI_t (far_ent hR (a := y) (b := z) ⟨by omega, by omega⟩ (by omega)).2) k109
                        · refine xv (x_aload_n 113 d_L_distances_112 rfl rfl) ?_
                          refine xv (x_iload 115 d_L_distances_113 rfl rfl) ?_
                          refine xv (x_iconst 116 d_L_distances_115 rfl) ?_
                          obtain ⟨h116, e116, P116⟩ := A_cell1 (E := E) (y := y) P105 ⟨by omega, by omega⟩
                          refine xv (x_inv1 119 (as := [Value.int (zi y), Value.int (zi 1)]) d_L_distances_116 rfl c_9_196 rfl (Nat.le_of_ble_eq_true rfl) (Nat.le_of_ble_eq_true rfl) (px_o P105) (Nat.le_of_ble_eq_true rfl) (Nat.le_of_ble_eq_true rfl) rfl e116) ?_
                          have q116 := bI_r (ent l y)
                          show Xv E q_m_L_distances 119 [Value.ref b, Value.ref x, Value.int (zi i), Value.int (zi z16), Value.int (zi y), Value.int (zi p), Value.int (zi f), Value.int (zi q), Value.int (zi z), Value.int (zi (dV (far l y z)))] [Value.int (zi (bI (ent l y)))] h116 Q
                          refine xv (x_iconst 120 d_L_distances_119 rfl) ?_
                          refine v_icmp_ne 149 123 d_L_distances_120 rfl rfl (by have := bI_r (ent l y); omega) (by have := bI_r (ent l y); omega) (by omega) (by omega) (fun k120 => ?_) (fun k120 => ?_)
                          · exact J149 _ (px_mo P116 (by omega))
                          · refine xv (x_aload_n 124 d_L_distances_123 rfl rfl) ?_
                            refine xv (x_iload 126 d_L_distances_124 rfl rfl) ?_
                            refine xv (x_iconst 127 d_L_distances_126 rfl) ?_
                            obtain ⟨h127, e127, P127⟩ := A_cell1 (E := E) (y := z) P116 ⟨by omega, by omega⟩
                            refine xv (x_inv1 130 (as := [Value.int (zi z), Value.int (zi 1)]) d_L_distances_127 rfl c_9_196 rfl (Nat.le_of_ble_eq_true rfl) (Nat.le_of_ble_eq_true rfl) (px_o P116) (Nat.le_of_ble_eq_true rfl) (Nat.le_of_ble_eq_true rfl) rfl e127) ?_
                            have q127 := bI_r (ent l z)
                            show Xv E q_m_L_distances 130 [Value.ref b, Value.ref x, Value.int (zi i), Value.int (zi z16), Value.int (zi y), Value.int (zi p), Value.int (zi f), Value.int (zi q), Value.int (zi z), Value.int (zi (dV (far l y z)))] [Value.int (zi (bI (ent l z)))] h127 Q
                            refine xv (x_iconst 131 d_L_distances_130 rfl) ?_
                            refine v_icmp_ne 149 134 d_L_distances_131 rfl rfl (by have := bI_r (ent l z); omega) (by have := bI_r (ent l z); omega) (by omega) (by omega) (fun k131 => ?_) (fun k131 => ?_)
                            · exact J149 _ (px_mo P127 (by omega))
                            · refine xv (x_iload 136 d_L_distances_134 rfl rfl) ?_
                              refine xv (x_aload_n 137 d_L_distances_136 rfl rfl) ?_
                              refine xv (x_iload 139 d_L_distances_137 rfl rfl) ?_
                              refine xv (x_iload 141 d_L_distances_139 rfl rfl) ?_
                              obtain ⟨h141, e141, P141⟩ := A_distance (E := E) (y := z) (z := y) P127 ⟨by omega, by omega⟩ ⟨by omega, by omega⟩
                              refine xv (x_ins1 144 (as := [Value.ref x, Value.int (zi z), Value.int (zi y)]) d_L_distances_141 rfl c_9_201 rfl (Nat.le_of_ble_eq_true rfl) (Nat.le_of_ble_eq_true rfl) (Nat.le_of_ble_eq_true rfl) rfl e141) ?_
                              have q141 := rg_far hR (y := z) (z := y) ⟨by omega, by omega⟩
                              have u141 := dV_c (v := far l z y) (far_r hR (a := z) ⟨by omega, by omega⟩ y).1.1
                              have w141 := far_zi (y := z) (z := y) hR ⟨by omega, by omega⟩
                              show Xv E q_m_L_distances 144 [Value.ref b, Value.ref x, Value.int (zi i), Value.int (zi z16), Value.int (zi y), Value.int (zi p), Value.int (zi f), Value.int (zi q), Value.int (zi z), Value.int (zi (dV (far l y z)))] [Value.int (zi (dV (far l z y))), Value.int (zi (dV (far l y z)))] h141 Q
                              refine v_icmp_eq 149 147 d_L_distances_144 rfl rfl (by omega) (by omega) (by omega) (by omega) (fun k144 => ?_) (fun k144 => ?_)
                              · exact J149 _ (px_mo P141 (by omega))
                              · exact absurd (by rw [far_sym hR (show isC l y from ⟨by omega, by omega⟩) (show isC l z from ⟨by omega, by omega⟩) (bI_1.mp k120) (bI_1.mp k131)]) k144
                  · omega
                · refine xv (x_iconst 79 d_L_distances_78 rfl) ?_
                  refine xv (x_goto 83 d_L_distances_79 rfl) ?_
                  refine xv (x_iload 85 d_L_distances_83 rfl rfl) ?_
                  refine v_if_ne 92 88 d_L_distances_85 rfl rfl (by omega) (by omega) (fun k85 => ?_) (fun k85 => ?_)
                  · omega
                  · refine xv (x_iconst 89 d_L_distances_88 rfl) ?_
                    refine xv (x_goto 93 d_L_distances_89 rfl) ?_
                    refine v_icmp_ne 147 96 d_L_distances_93 rfl rfl (by omega) (by omega) (by omega) (by omega) (fun k93 => ?_) (fun k93 => ?_)
                    · omega
                    · refine xv (x_iload 98 d_L_distances_96 rfl rfl) ?_
                      refine v_if_le 112 101 d_L_distances_98 rfl rfl (by omega) (by omega) (fun k98 => ?_) (fun k98 => ?_)
                      · refine xv (x_aload_n 113 d_L_distances_112 rfl rfl) ?_
                        refine xv (x_iload 115 d_L_distances_113 rfl rfl) ?_
                        refine xv (x_iconst 116 d_L_distances_115 rfl) ?_
                        obtain ⟨h116, e116, P116⟩ := A_cell1 (E := E) (y := y) P65 ⟨by omega, by omega⟩
                        refine xv (x_inv1 119 (as := [Value.int (zi y), Value.int (zi 1)]) d_L_distances_116 rfl c_9_196 rfl (Nat.le_of_ble_eq_true rfl) (Nat.le_of_ble_eq_true rfl) (px_o P65) (Nat.le_of_ble_eq_true rfl) (Nat.le_of_ble_eq_true rfl) rfl e116) ?_
                        have q116 := bI_r (ent l y)
                        show Xv E q_m_L_distances 119 [Value.ref b, Value.ref x, Value.int (zi i), Value.int (zi z16), Value.int (zi y), Value.int (zi p), Value.int (zi f), Value.int (zi q), Value.int (zi z), Value.int (zi (dV (far l y z)))] [Value.int (zi (bI (ent l y)))] h116 Q
                        refine xv (x_iconst 120 d_L_distances_119 rfl) ?_
                        refine v_icmp_ne 149 123 d_L_distances_120 rfl rfl (by have := bI_r (ent l y); omega) (by have := bI_r (ent l y); omega) (by omega) (by omega) (fun k120 => ?_) (fun k120 => ?_)
                        · exact J149 _ (px_mo P116 (by omega))
                        · refine xv (x_aload_n 124 d_L_distances_123 rfl rfl) ?_
                          refine xv (x_iload 126 d_L_distances_124 rfl rfl) ?_
                          refine xv (x_iconst 127 d_L_distances_126 rfl) ?_
                          obtain ⟨h127, e127, P127⟩ := A_cell1 (E := E) (y := z) P116 ⟨by omega, by omega⟩
                          refine xv (x_inv1 130 (as := [Value.int (zi z), Value.int (zi 1)]) d_L_distances_127 rfl c_9_196 rfl (Nat.le_of_ble_eq_true rfl) (Nat.le_of_ble_eq_true rfl) (px_o P116) (Nat.le_of_ble_eq_true rfl) (Nat.le_of_ble_eq_true rfl) rfl e127) ?_
                          have q127 := bI_r (ent l z)
                          show Xv E q_m_L_distances 130 [Value.ref b, Value.ref x, Value.int (zi i), Value.int (zi z16), Value.int (zi y), Value.int (zi p), Value.int (zi f), Value.int (zi q), Value.int (zi z), Value.int (zi (dV (far l y z)))] [Value.int (zi (bI (ent l z)))] h127 Q
                          refine xv (x_iconst 131 d_L_distances_130 rfl) ?_
                          refine v_icmp_ne 149 134 d_L_distances_131 rfl rfl (by have := bI_r (ent l z); omega) (by have := bI_r (ent l z); omega) (by omega) (by omega) (fun k131 => ?_) (fun k131 => ?_)
                          · exact J149 _ (px_mo P127 (by omega))
                          · refine xv (x_iload 136 d_L_distances_134 rfl rfl) ?_
                            refine xv (x_aload_n 137 d_L_distances_136 rfl rfl) ?_
                            refine xv (x_iload 139 d_L_distances_137 rfl rfl) ?_
                            refine xv (x_iload 141 d_L_distances_139 rfl rfl) ?_
                            obtain ⟨h141, e141, P141⟩ := A_distance (E := E) (y := z) (z := y) P127 ⟨by omega, by omega⟩ ⟨by omega, by omega⟩
                            refine xv (x_ins1 144 (as := [Value.ref x, Value.int (zi z), Value.int (zi y)]) d_L_distances_141 rfl c_9_201 rfl (Nat.le_of_ble_eq_true rfl) (Nat.le_of_ble_eq_true rfl) (Nat.le_of_ble_eq_true rfl) rfl e141) ?_
                            have q141 := rg_far hR (y := z) (z := y) ⟨by omega, by omega⟩
                            have u141 := dV_c (v := far l z y) (far_r hR (a := z) ⟨by omega, by omega⟩ y).1.1
                            have w141 := far_zi (y := z) (z := y) hR ⟨by omega, by omega⟩
                            show Xv E q_m_L_distances 144 [Value.ref b, Value.ref x, Value.int (zi i), Value.int (zi z16), Value.int (zi y), Value.int (zi p), Value.int (zi f), Value.int (zi q), Value.int (zi z), Value.int (zi (dV (far l y z)))] [Value.int (zi (dV (far l z y))), Value.int (zi (dV (far l y z)))] h141 Q
                            refine v_icmp_eq 149 147 d_L_distances_144 rfl rfl (by omega) (by omega) (by omega) (by omega) (fun k144 => ?_) (fun k144 => ?_)
                            · exact J149 _ (px_mo P141 (by omega))
                            · exact absurd (by rw [far_sym hR (show isC l y from ⟨by omega, by omega⟩) (show isC l z from ⟨by omega, by omega⟩) (bI_1.mp k120) (bI_1.mp k131)]) k144
                      · refine xv (x_aload_n 102 d_L_distances_101 rfl rfl) ?_
                        refine xv (x_iload 104 d_L_distances_102 rfl rfl) ?_
                        refine xv (x_iconst 105 d_L_distances_104 rfl) ?_
                        obtain ⟨h105, e105, P105⟩ := A_cell1 (E := E) (y := z) P65 ⟨by omega, by omega⟩
                        refine xv (x_inv1 108 (as := [Value.int (zi z), Value.int (zi 1)]) d_L_distances_105 rfl c_9_196 rfl (Nat.le_of_ble_eq_true rfl) (Nat.le_of_ble_eq_true rfl) (px_o P65) (Nat.le_of_ble_eq_true rfl) (Nat.le_of_ble_eq_true rfl) rfl e105) ?_
                        have q105 := bI_r (ent l z)
                        show Xv E q_m_L_distances 108 [Value.ref b, Value.ref x, Value.int (zi i), Value.int (zi z16), Value.int (zi y), Value.int (zi p), Value.int (zi f), Value.int (zi q), Value.int (zi z), Value.int (zi (dV (far l y z)))] [Value.int (zi (bI (ent l z)))] h105 Q
                        refine xv (x_iconst 109 d_L_distances_108 rfl) ?_
                        refine v_icmp_ne 147 112 d_L_distances_109 rfl rfl (by have := bI_r (ent l z); omega) (by have := bI_r (ent l z); omega) (by omega) (by omega) (fun k109 => ?_) (fun k109 => ?_)
                        · exact absurd (bI_t (far_ent hR (a := y) (b := z) ⟨by omega, by omega⟩ (by omega)).2) k109
                        · refine xv (x_aload_n 113 d_L_distances_112 rfl rfl) ?_
                          refine xv (x_iload 115 d_L_distances_113 rfl rfl) ?_
                          refine xv (x_iconst 116 d_L_distances_115 rfl) ?_
                          obtain ⟨h116, e116, P116⟩ := A_cell1 (E := E) (y := y) P105 ⟨by omega, by omega⟩
                          refine xv (x_inv1 119 (as := [Value.int (zi y), Value.int (zi 1)]) d_L_distances_116 rfl c_9_196 rfl (Nat.le_of_ble_eq_true rfl) (Nat.le_of_ble_eq_true rfl) (px_o P105) (Nat.le_of_ble_eq_true rfl) (Nat.le_of_ble_eq_true rfl) rfl e116) ?_
                          have q116 := bI_r (ent l y)
                          show Xv E q_m_L_distances 119 [Value.ref b, Value.ref x, Value.int (zi i), Value.int (zi z16), Value.int (zi y), Value.int (zi p), Value.int (zi f), Value.int (zi q), Value.int (zi z), Value.int (zi (dV (far l y z)))] [Value.int (zi (bI (ent l y)))] h116 Q
                          refine xv (x_iconst 120 d_L_distances_119 rfl) ?_
                          refine v_icmp_ne 149 123 d_L_distances_120 rfl rfl (by have := bI_r (ent l y); omega) (by have := bI_r (ent l y); omega) (by omega) (by omega) (fun k120 => ?_) (fun k120 => ?_)
                          · exact J149 _ (px_mo P116 (by omega))
                          · refine xv (x_aload_n 124 d_L_distances_123 rfl rfl) ?_
                            refine xv (x_iload 126 d_L_distances_124 rfl rfl) ?_
                            refine xv (x_iconst 127 d_L_distances_126 rfl) ?_
                            obtain ⟨h127, e127, P127⟩ := A_cell1 (E := E) (y := z) P116 ⟨by omega, by omega⟩
                            refine xv (x_inv1 130 (as := [Value.int (zi z), Value.int (zi 1)]) d_L_distances_127 rfl c_9_196 rfl (Nat.le_of_ble_eq_true rfl) (Nat.le_of_ble_eq_true rfl) (px_o P116) (Nat.le_of_ble_eq_true rfl) (Nat.le_of_ble_eq_true rfl) rfl e127) ?_
                            have q127 := bI_r (ent l z)
                            show Xv E q_m_L_distances 130 [Value.ref b, Value.ref x, Value.int (zi i), Value.int (zi z16), Value.int (zi y), Value.int (zi p), Value.int (zi f), Value.int (zi q), Value.int (zi z), Value.int (zi (dV (far l y z)))] [Value.int (zi (bI (ent l z)))] h127 Q
                            refine xv (x_iconst 131 d_L_distances_130 rfl) ?_
                            refine v_icmp_ne 149 134 d_L_distances_131 rfl rfl (by have := bI_r (ent l z); omega) (by have := bI_r (ent l z); omega) (by omega) (by omega) (fun k131 => ?_) (fun k131 => ?_)
                            · exact J149 _ (px_mo P127 (by omega))
                            · refine xv (x_iload 136 d_L_distances_134 rfl rfl) ?_
                              refine xv (x_aload_n 137 d_L_distances_136 rfl rfl) ?_
                              refine xv (x_iload 139 d_L_distances_137 rfl rfl) ?_
                              refine xv (x_iload 141 d_L_distances_139 rfl rfl) ?_
                              obtain ⟨h141, e141, P141⟩ := A_distance (E := E) (y := z) (z := y) P127 ⟨by omega, by omega⟩ ⟨by omega, by omega⟩
                              refine xv (x_ins1 144 (as := [Value.ref x, Value.int (zi z), Value.int (zi y)]) d_L_distances_141 rfl c_9_201 rfl (Nat.le_of_ble_eq_true rfl) (Nat.le_of_ble_eq_true rfl) (Nat.le_of_ble_eq_true rfl) rfl e141) ?_
                              have q141 := rg_far hR (y := z) (z := y) ⟨by omega, by omega⟩
                              have u141 := dV_c (v := far l z y) (far_r hR (a := z) ⟨by omega, by omega⟩ y).1.1
                              have w141 := far_zi (y := z) (z := y) hR ⟨by omega, by omega⟩
                              show Xv E q_m_L_distances 144 [Value.ref b, Value.ref x, Value.int (zi i), Value.int (zi z16), Value.int (zi y), Value.int (zi p), Value.int (zi f), Value.int (zi q), Value.int (zi z), Value.int (zi (dV (far l y z)))] [Value.int (zi (dV (far l z y))), Value.int (zi (dV (far l y z)))] h141 Q
                              refine v_icmp_eq 149 147 d_L_distances_144 rfl rfl (by omega) (by omega) (by omega) (by omega) (fun k144 => ?_) (fun k144 => ?_)
                              · exact J149 _ (px_mo P141 (by omega))
                              · exact absurd (by rw [far_sym hR (show isC l y from ⟨by omega, by omega⟩) (show isC l z from ⟨by omega, by omega⟩) (bI_1.mp k120) (bI_1.mp k131)]) k144
        exact L39 _ (z16 % (cs l)) 0 0 0 (z16 % (cs l)) _ _ (by omega) (by omega) (di_0 ⟨by omega, by omega⟩) (px_mo P20 (by omega)) rfl
  exact L2 _ 0 _ _ _ _ _ _ _ _ (by omega) (by omega) (px_mo P (by omega)) rfl
theorem P_arrivals (hb : b < x) (hS : E.2 b = some (.int, L, fun j => .int (ys j))) (hL : L ≤ 260) (hE_ : ENl l) (P : PX x l ls nx ct kl n c hs fa kr kd_ h0 (kb) h) : ∃ r_ h', q_cl E q_m_L_arrivals [Value.ref b, Value.ref x] h = some (r_, h') ∧ (r_ = .inl (some (.int (zi 1))) ∧ PX x l ls nx ct kl n c hs fa kr kd_ h0 (kb + 108) h') := by
  suffices K : ∀ Q : q_R → q_H → Prop, (∀ r_ h', (r_ = .inl (some (.int (zi 1))) ∧ PX x l ls nx ct kl n c hs fa kr kd_ h0 (kb + 108) h') → Q r_ h') → Xv E q_m_L_arrivals 0 [Value.ref b, Value.ref x, Value.null, Value.null, Value.null, Value.null, Value.null] [] h Q from K _ fun _ _ p => p
  intro Q hQ
  have hR := P.2.1
  have gc := rg_c hR
  have gr := rg_r hR
  have go := rg_o hR
  refine xv (x_iconst 1 d_L_arrivals_0 rfl) ?_
  refine xv (x_istore_n 2 d_L_arrivals_1 rfl (Nat.le_of_ble_eq_true rfl)) ?_
  show Xv E q_m_L_arrivals 2 [Value.ref b, Value.ref x, Value.int (zi 0), Value.null, Value.null, Value.null, Value.null] [] h Q
  have L2 : ∀ (n_ : Nat) (r : Int) (a3 : Value) (a4 : Value) (a5 : Value) (a6 : Value) (h_2 : q_H), (0 ≤ r) → (r ≤ l 3) → (PX x l ls nx ct kl n c hs fa kr kd_ h0 (kb + 18 * r) h_2) → (l 3 - r).toNat = n_ → Xv E q_m_L_arrivals 2 [Value.ref b, Value.ref x, Value.int (zi r), a3, a4, a5, a6] [] h_2 Q := by
    intro n_
    induction n_ using Nat.strongRecOn with
    | _ n_ ih2 =>
      intro r a3 a4 a5 a6 h_2 y2_0 y2_1 P_2 em
      refine xv (x_iload_n 3 d_L_arrivals_2 rfl rfl) ?_
      refine xv (x_aload_n 4 d_L_arrivals_3 rfl rfl) ?_
      refine xv (x_iconst 5 d_L_arrivals_4 rfl) ?_
      obtain ⟨h5, e5, P5⟩ := A_account2 (E := E)  P_2 
      refine xv (x_inv1 8 (as := [Value.int (zi 2)]) d_L_arrivals_5 rfl c_9_109 rfl (Nat.le_of_ble_eq_true rfl) (Nat.le_of_ble_eq_true rfl) (px_o P_2) (Nat.le_of_ble_eq_true rfl) (Nat.le_of_ble_eq_true rfl) rfl e5) ?_
      have q5 := rg_n2 hR
      show Xv E q_m_L_arrivals 8 [Value.ref b, Value.ref x, Value.int (zi r), a3, a4, a5, a6] [Value.int (zi (l 3)), Value.int (zi r)] h5 Q
      refine v_icmp_ge 148 11 d_L_arrivals_8 rfl rfl (by omega) (by omega) (by omega) (by omega) (fun k8 => ?_) (fun k8 => ?_)
      · refine xv (x_iconst 149 d_L_arrivals_148 rfl) ?_
        refine xv_r (x_ireturn d_L_arrivals_149 rfl rfl) ?_
        exact hQ _ _ ⟨rfl, px_mo P5 (by omega)⟩
      · refine xv (x_iconst 12 d_L_arrivals_11 rfl) ?_
        refine xv (x_istore_n 13 d_L_arrivals_12 rfl (Nat.le_of_ble_eq_true rfl)) ?_
        show Xv E q_m_L_arrivals 13 [Value.ref b, Value.ref x, Value.int (zi r), Value.int (zi 0), a4, a5, a6] [] h5 Q
        have L13 : ∀ (n_ : Nat) (i : Int) (b4 : Value) (b5 : Value) (b6 : Value) (h_13 : q_H), (0 ≤ i) → (i ≤ 6) → (PX x l ls nx ct kl n c hs fa kr kd_ h0 (kb + 18 * r + 3 * i) h_13) → (6 - i).toNat = n_ → Xv E q_m_L_arrivals 13 [Value.ref b, Value.ref x, Value.int (zi r), Value.int (zi i), b4, b5, b6] [] h_13 Q := by
          intro n_
          induction n_ using Nat.strongRecOn with
          | _ n_ ih13 =>
            intro i b4 b5 b6 h_13 y13_0 y13_1 P_13 em
            refine xv (x_iload_n 14 d_L_arrivals_13 rfl rfl) ?_
            refine xv (x_bipush 16 d_L_arrivals_14 rfl rfl) ?_
            refine v_icmp_ge 142 19 d_L_arrivals_16 rfl rfl (by omega) (by omega) (by omega) (by omega) (fun k16 => ?_) (fun k16 => ?_)
            · refine xv (x_iinc 145 d_L_arrivals_142 rfl rfl) ?_
              show Xv E q_m_L_arrivals 145 [Value.ref b, Value.ref x, Value.int (zi (r + 1)), Value.int (zi i), b4, b5, b6] [] h_13 Q
              refine xv (x_goto 2 d_L_arrivals_145 rfl) ?_
              exact ih2 _ (by omega) (r + 1) _ _ _ _ _ (by omega) (by omega) (px_mo P_13 (by omega)) rfl
            · refine xv (x_aload_n 20 d_L_arrivals_19 rfl rfl) ?_
              refine xv (x_bipush 22 d_L_arrivals_20 rfl rfl) ?_
              refine xv (x_iload_n 23 d_L_arrivals_22 rfl rfl) ?_
              refine xv (x_iadd 24 d_L_arrivals_23 rfl) ?_
              obtain ⟨v24, e24⟩ := A_cell (E := E) (k := (29 + i)) (px_lo P_13 _ hb) hS hL (by omega) (by omega)
              refine xv (x_ins1 27 (as := [Value.ref b, Value.int (zi (29 + i))]) d_L_arrivals_24 rfl c_9_113 rfl (Nat.le_of_ble_eq_true rfl) (Nat.le_of_ble_eq_true rfl) (Nat.le_of_ble_eq_true rfl) rfl e24) ?_
              show Xv E q_m_L_arrivals 27 [Value.ref b, Value.ref x, Value.int (zi r), Value.int (zi i), b4, b5, b6] [Value.int v24] h_13 Q
              refine xv (x_iconst 28 d_L_arrivals_27 rfl) ?_
              refine xv (x_iushr 29 d_L_arrivals_28 rfl) ?_
              obtain ⟨z28, z028, z128, ez28⟩ := shr_x v24 (q := 1) (by omega) (by omega)
              rw [ez28]
              refine xv (x_aload_n 30 d_L_arrivals_29 rfl rfl) ?_
              obtain ⟨h30, e30, P30⟩ := A_cells (E := E)  P_13 
              refine xv (x_ins1 33 (as := [Value.ref x]) d_L_arrivals_30 rfl c_9_145 rfl (Nat.le_of_ble_eq_true rfl) (Nat.le_of_ble_eq_true rfl) (Nat.le_of_ble_eq_true rfl) rfl e30) ?_
              show Xv E q_m_L_arrivals 33 [Value.ref b, Value.ref x, Value.int (zi r), Value.int (zi i), b4, b5, b6] [Value.int (zi (cs l)), Value.int (zi z28)] h30 Q
              refine xv (x_irem 34 d_L_arrivals_33 rfl (by omega) (by omega) (by omega) (by omega)) ?_
              have m33 := emod_r (a := z28) (b := (cs l)) (by omega) (by omega)
              refine xv (x_istore 36 d_L_arrivals_34 rfl (Nat.le_of_ble_eq_true rfl)) ?_
              show Xv E q_m_L_arrivals 36 [Value.ref b, Value.ref x, Value.int (zi r), Value.int (zi i), Value.int (zi (z28 % (cs l))), b5, b6] [] h30 Q
              generalize eg34 : z28 % (cs l) = g at *
              refine xv (x_aload_n 37 d_L_arrivals_36 rfl rfl) ?_
              refine xv (x_iload_n 38 d_L_arrivals_37 rfl rfl) ?_
              refine xv (x_iload 40 d_L_arrivals_38 rfl rfl) ?_
              obtain ⟨h40, e40, P40⟩ := A_arrival (E := E) (r := r) (z := g) P30 ⟨by omega, by omega⟩ ⟨by omega, by omega⟩
              refine xv (x_ins1 43 (as := [Value.ref x, Value.int (zi r), Value.int (zi g)]) d_L_arrivals_40 rfl c_9_219 rfl (Nat.le_of_ble_eq_true rfl) (Nat.le_of_ble_eq_true rfl) (Nat.le_of_ble_eq_true rfl) rfl e40) ?_
              have q40 := rg_ar hR (r := r) (g := g)
              show Xv E q_m_L_arrivals 43 [Value.ref b, Value.ref x, Value.int (zi r), Value.int (zi i), Value.int (zi g), b5, b6] [Value.int (zi (arV l r g))] h40 Q
              refine xv (x_istore 45 d_L_arrivals_43 rfl (Nat.le_of_ble_eq_true rfl)) ?_
              show Xv E q_m_L_arrivals 45 [Value.ref b, Value.ref x, Value.int (zi r), Value.int (zi i), Value.int (zi g), Value.int (zi (arV l r g)), b6] [] h40 Q
              refine xv (x_aload_n 46 d_L_arrivals_45 rfl rfl) ?_
              refine xv (x_aload_n 47 d_L_arrivals_46 rfl rfl) ?_
              refine xv (x_iload_n 48 d_L_arrivals_47 rfl rfl) ?_
              refine xv (x_iconst 49 d_L_arrivals_48 rfl) ?_
              obtain ⟨h49, e49, P49⟩ := A_robotOf0 (E := E) (r := r) P40 ⟨by omega, by omega⟩
              refine xv (x_inv1 52 (as := [Value.int (zi r), Value.int (zi 0)]) d_L_arrivals_49 rfl c_9_203 rfl (Nat.le_of_ble_eq_true rfl) (Nat.le_of_ble_eq_true rfl) (px_o P40) (Nat.le_of_ble_eq_true rfl) (Nat.le_of_ble_eq_true rfl) rfl e49) ?_
              have q49 := rg_b0 hR (r := r) ⟨by omega, by omega⟩
              show Xv E q_m_L_arrivals 52 [Value.ref b, Value.ref x, Value.int (zi r), Value.int (zi i), Value.int (zi g), Value.int (zi (arV l r g)), b6] [Value.int (zi (rb l r 0)), Value.ref x] h49 Q
              refine xv (x_iload 54 d_L_arrivals_52 rfl rfl) ?_
              obtain ⟨h54, e54, P54⟩ := A_distance (E := E) (y := (rb l r 0)) (z := g) P49 ⟨by omega, by omega⟩ ⟨by omega, by omega⟩
              refine xv (x_ins1 57 (as := [Value.ref x, Value.int (zi (rb l r 0)), Value.int (zi g)]) d_L_arrivals_54 rfl c_9_201 rfl (Nat.le_of_ble_eq_true rfl) (Nat.le_of_ble_eq_true rfl) (Nat.le_of_ble_eq_true rfl) rfl e54) ?_
              have q54 := rg_far hR (y := (rb l r 0)) (z := g) ⟨by omega, by omega⟩
              have u54 := ar_ok hR hE_ (r := r) (g := g) ⟨by omega, by omega⟩ ⟨by omega, by omega⟩
              show Xv E q_m_L_arrivals 57 [Value.ref b, Value.ref x, Value.int (zi r), Value.int (zi i), Value.int (zi g), Value.int (zi (arV l r g)), b6] [Value.int (zi (dV (far l (rb l r 0) g)))] h54 Q
              refine xv (x_istore 59 d_L_arrivals_57 rfl (Nat.le_of_ble_eq_true rfl)) ?_
              show Xv E q_m_L_arrivals 59 [Value.ref b, Value.ref x, Value.int (zi r), Value.int (zi i), Value.int (zi g), Value.int (zi (arV l r g)), Value.int (zi (dV (far l (rb l r 0) g)))] [] h54 Q
              refine xv (x_iload 61 d_L_arrivals_59 rfl rfl) ?_
              refine xv (x_aload_n 62 d_L_arrivals_61 rfl rfl) ?_
              refine xv (x_iload_n 63 d_L_arrivals_62 rfl rfl) ?_
              refine xv (x_iload 65 d_L_arrivals_63 rfl rfl) ?_
              obtain ⟨h65, e65, P65⟩ := A_arrivalAgain (E := E) (r := r) (z := g) P54 ⟨by omega, by omega⟩ ⟨by omega, by omega⟩
              refine xv (x_ins1 68 (as := [Value.ref x, Value.int (zi r), Value.int (zi g)]) d_L_arrivals_65 rfl c_9_221 rfl (Nat.le_of_ble_eq_true rfl) (Nat.le_of_ble_eq_true rfl) (Nat.le_of_ble_eq_true rfl) rfl e65) ?_
              have q65 := rg_ar hR (r := r) (g := g)
              show Xv E q_m_L_arrivals 68 [Value.ref b, Value.ref x, Value.int (zi r), Value.int (zi i), Value.int (zi g), Value.int (zi (arV l r g)), Value.int (zi (dV (far l (rb l r 0) g)))] [Value.int (zi (arV l r g)), Value.int (zi (arV l r g))] h65 Q
              refine v_icmp_ne 134 71 d_L_arrivals_68 rfl rfl (by omega) (by omega) (by omega) (by omega) (fun k68 => ?_) (fun k68 => ?_)
              · omega
              · refine xv (x_iload 73 d_L_arrivals_71 rfl rfl) ?_
                refine v_if_lt 99 76 d_L_arrivals_73 rfl rfl (by omega) (by omega) (fun k73 => ?_) (fun k73 => ?_)
                · refine xv (x_iload 101 d_L_arrivals_99 rfl rfl) ?_
                  refine v_if_ne 108 104 d_L_arrivals_101 rfl rfl (by omega) (by omega) (fun k101 => ?_) (fun k101 => ?_)
                  · refine xv (x_iconst 109 d_L_arrivals_108 rfl) ?_
                    refine xv (x_iload 111 d_L_arrivals_109 rfl rfl) ?_
                    refine v_if_ne 118 114 d_L_arrivals_111 rfl rfl (by omega) (by omega) (fun k111 => ?_) (fun k111 => ?_)
                    · refine xv (x_iconst 119 d_L_arrivals_118 rfl) ?_
                      refine v_icmp_ne 134 122 d_L_arrivals_119 rfl rfl (by omega) (by omega) (by omega) (by omega) (fun k119 => ?_) (fun k119 => ?_)
                      · omega
                      · refine xv (x_iload 124 d_L_arrivals_122 rfl rfl) ?_
                        refine v_if_ge 136 127 d_L_arrivals_124 rfl rfl (by omega) (by omega) (fun k124 => ?_) (fun k124 => ?_)
                        · refine xv (x_iinc 139 d_L_arrivals_136 rfl rfl) ?_
                          show Xv E q_m_L_arrivals 139 [Value.ref b, Value.ref x, Value.int (zi r), Value.int (zi (i + 1)), Value.int (zi g), Value.int (zi (arV l r g)), Value.int (zi (dV (far l (rb l r 0) g)))] [] h65 Q
                          refine xv (x_goto 13 d_L_arrivals_139 rfl) ?_
                          exact ih13 _ (by omega) (i + 1) _ _ _ _ (by omega) (by omega) (px_mo P65 (by omega)) rfl
                        · refine xv (x_iload 129 d_L_arrivals_127 rfl rfl) ?_
                          refine xv (x_bipush 131 d_L_arrivals_129 rfl rfl) ?_
                          refine v_icmp_eq 136 134 d_L_arrivals_131 rfl rfl (by omega) (by omega) (by omega) (by omega) (fun k131 => ?_) (fun k131 => ?_)
                          · refine xv (x_iinc 139 d_L_arrivals_136 rfl rfl) ?_
                            show Xv E q_m_L_arrivals 139 [Value.ref b, Value.ref x, Value.int (zi r), Value.int (zi (i + 1)), Value.int (zi g), Value.int (zi (arV l r g)), Value.int (zi (dV (far l (rb l r 0) g)))] [] h65 Q
                            refine xv (x_goto 13 d_L_arrivals_139 rfl) ?_
                            exact ih13 _ (by omega) (i + 1) _ _ _ _ (by omega) (by omega) (px_mo P65 (by omega)) rfl
                          · omega
                    · omega
                  · refine xv (x_iconst 105 d_L_arrivals_104 rfl) ?_
                    refine xv (x_goto 109 d_L_arrivals_105 rfl) ?_
                    refine xv (x_iload 111 d_L_arrivals_109 rfl rfl) ?_
                    refine v_if_ne 118 114 d_L_arrivals_111 rfl rfl (by omega) (by omega) (fun k111 => ?_) (fun k111 => ?_)
                    · omega
                    · refine xv (x_iconst 115 d_L_arrivals_114 rfl) ?_
                      refine xv (x_goto 119 d_L_arrivals_115 rfl) ?_
                      refine v_icmp_ne 134 122 d_L_arrivals_119 rfl rfl (by omega) (by omega) (by omega) (by omega) (fun k119 => ?_) (fun k119 => ?_)
                      · omega
                      · refine xv (x_iload 124 d_L_arrivals_122 rfl rfl) ?_
                        refine v_if_ge 136 127 d_L_arrivals_124 rfl rfl (by omega) (by omega) (fun k124 => ?_) (fun k124 => ?_)
                        · refine xv (x_iinc 139 d_L_arrivals_136 rfl rfl) ?_
                          show Xv E q_m_L_arrivals 139 [Value.ref b, Value.ref x, Value.int (zi r), Value.int (zi (i + 1)), Value.int (zi g), Value.int (zi (arV l r g)), Value.int (zi (dV (far l (rb l r 0) g)))] [] h65 Q
                          refine xv (x_goto 13 d_L_arrivals_139 rfl) ?_
                          exact ih13 _ (by omega) (i + 1) _ _ _ _ (by omega) (by omega) (px_mo P65 (by omega)) rfl
                        · refine xv (x_iload 129 d_L_arrivals_127 rfl rfl) ?_
                          refine xv (x_bipush 131 d_L_arrivals_129 rfl rfl) ?_
                          refine v_icmp_eq 136 134 d_L_arrivals_131 rfl rfl (by omega) (by omega) (by omega) (by omega) (fun k131 => ?_) (fun k131 => ?_)
                          · refine xv (x_iinc 139 d_L_arrivals_136 rfl rfl) ?_
                            show Xv E q_m_L_arrivals 139 [Value.ref b, Value.ref x, Value.int (zi r), Value.int (zi (i + 1)), Value.int (zi g), Value.int (zi (arV l r g)), Value.int (zi (dV (far l (rb l r 0) g)))] [] h65 Q
                            refine xv (x_goto 13 d_L_arrivals_139 rfl) ?_
                            exact ih13 _ (by omega) (i + 1) _ _ _ _ (by omega) (by omega) (px_mo P65 (by omega)) rfl
                          · omega
                · refine xv (x_iload 78 d_L_arrivals_76 rfl rfl) ?_
                  refine v_if_lt 134 81 d_L_arrivals_78 rfl rfl (by omega) (by omega) (fun k78 => ?_) (fun k78 => ?_)
                  · omega
                  · refine xv (x_iload 83 d_L_arrivals_81 rfl rfl) ?_
                    refine xv (x_iload 85 d_L_arrivals_83 rfl rfl) ?_
                    refine v_icmp_lt 134 88 d_L_arrivals_85 rfl rfl (by omega) (by omega) (by omega) (by omega) (fun k85 => ?_) (fun k85 => ?_)
                    · omega
                    · refine xv (x_iload 90 d_L_arrivals_88 rfl rfl) ?_
                      refine xv (x_aload_n 91 d_L_arrivals_90 rfl rfl) ?_
                      refine xv (x_bipush 93 d_L_arrivals_91 rfl rfl) ?_
                      obtain ⟨h93, e93, P93⟩ := A_account16 (E := E)  P65 
                      refine xv (x_inv1 96 (as := [Value.int (zi 16)]) d_L_arrivals_93 rfl c_9_109 rfl (Nat.le_of_ble_eq_true rfl) (Nat.le_of_ble_eq_true rfl) (px_o P65) (Nat.le_of_ble_eq_true rfl) (Nat.le_of_ble_eq_true rfl) rfl e93) ?_
                      have q93 := rg_n16 hR
                      show Xv E q_m_L_arrivals 96 [Value.ref b, Value.ref x, Value.int (zi r), Value.int (zi i), Value.int (zi g), Value.int (zi (arV l r g)), Value.int (zi (dV (far l (rb l r 0) g)))] [Value.int (zi (l 7)), Value.int (zi (arV l r g))] h93 Q
                      refine v_icmp_gt 134 99 d_L_arrivals_96 rfl rfl (by omega) (by omega) (by omega) (by omega) (fun k96 => ?_) (fun k96 => ?_)
                      · omega
                      · refine xv (x_iload 101 d_L_arrivals_99 rfl rfl) ?_
                        refine v_if_ne 108 104 d_L_arrivals_101 rfl rfl (by omega) (by omega) (fun k101 => ?_) (fun k101 => ?_)
                        · refine xv (x_iconst 109 d_L_arrivals_108 rfl) ?_
                          refine xv (x_iload 111 d_L_arrivals_109 rfl rfl) ?_
                          refine v_if_ne 118 114 d_L_arrivals_111 rfl rfl (by omega) (by omega) (fun k111 => ?_) (fun k111 => ?_)
                          · refine xv (x_iconst 119 d_L_arrivals_118 rfl) ?_
                            refine v_icmp_ne 134 122 d_L_arrivals_119 rfl rfl (by omega) (by omega) (by omega) (by omega) (fun k119 => ?_) (fun k119 => ?_)
                            · omega
                            · refine xv (x_iload 124 d_L_arrivals_122 rfl rfl) ?_
                              refine v_if_ge 136 127 d_L_arrivals_124 rfl rfl (by omega) (by omega) (fun k124 => ?_) (fun k124 => ?_)
                              · refine xv (x_iinc 139 d_L_arrivals_136 rfl rfl) ?_
                                show Xv E q_m_L_arrivals 139 [Value.ref b, Value.ref x, Value.int (zi r), Value.int (zi (i + 1)), Value.int (zi g), Value.int (zi (arV l r g)), Value.int (zi (dV (far l (rb l r 0) g)))] [] h93 Q
                                refine xv (x_goto 13 d_L_arrivals_139 rfl) ?_
                                exact ih13 _ (by omega) (i + 1) _ _ _ _ (by omega) (by omega) (px_mo P93 (by omega)) rfl
                              · refine xv (x_iload 129 d_L_arrivals_127 rfl rfl) ?_
                                refine xv (x_bipush 131 d_L_arrivals_129 rfl rfl) ?_
                                refine v_icmp_eq 136 134 d_L_arrivals_131 rfl rfl (by omega) (by omega) (by omega) (by omega) (fun k131 => ?_) (fun k131 => ?_)
                                · refine xv (x_iinc 139 d_L_arrivals_136 rfl rfl) ?_
                                  show Xv E q_m_L_arrivals 139 [Value.ref b, Value.ref x, Value.int (zi r), Value.int (zi (i + 1)), Value.int (zi g), Value.int (zi (arV l r g)), Value.int (zi (dV (far l (rb l r 0) g)))] [] h93 Q
                                  refine xv (x_goto 13 d_L_arrivals_139 rfl) ?_
                                  exact ih13 _ (by omega) (i + 1) _ _ _ _ (by omega) (by omega) (px_mo P93 (by omega)) rfl
                                · omega
                          · omega
                        · refine xv (x_iconst 105 d_L_arrivals_104 rfl) ?_
                          refine xv (x_goto 109 d_L_arrivals_105 rfl) ?_
                          refine xv (x_iload 111 d_L_arrivals_109 rfl rfl) ?_
                          refine v_if_ne 118 114 d_L_arrivals_111 rfl rfl (by omega) (by omega) (fun k111 => ?_) (fun k111 => ?_)
                          · omega
                          · refine xv (x_iconst 115 d_L_arrivals_114 rfl) ?_
                            refine xv (x_goto 119 d_L_arrivals_115 rfl) ?_
                            refine v_icmp_ne 134 122 d_L_arrivals_119 rfl rfl (by omega) (by omega) (by omega) (by omega) (fun k119 => ?_) (fun k119 => ?_)
                            · omega
                            · refine xv (x_iload 124 d_L_arrivals_122 rfl rfl) ?_
                              refine v_if_ge 136 127 d_L_arrivals_124 rfl rfl (by omega) (by omega) (fun k124 => ?_) (fun k124 => ?_)
                              · refine xv (x_iinc 139 d_L_arrivals_136 rfl rfl) ?_
                                show Xv E q_m_L_arrivals 139 [Value.ref b, Value.ref x, Value.int (zi r), Value.int (zi (i + 1)), Value.int (zi g), Value.int (zi (arV l r g)), Value.int (zi (dV (far l (rb l r 0) g)))] [] h93 Q
                                refine xv (x_goto 13 d_L_arrivals_139 rfl) ?_
                                exact ih13 _ (by omega) (i + 1) _ _ _ _ (by omega) (by omega) (px_mo P93 (by omega)) rfl
                              · refine xv (x_iload 129 d_L_arrivals_127 rfl rfl) ?_
                                refine xv (x_bipush 131 d_L_arrivals_129 rfl rfl) ?_
                                refine v_icmp_eq 136 134 d_L_arrivals_131 rfl rfl (by omega) (by omega) (by omega) (by omega) (fun k131 => ?_) (fun k131 => ?_)
                                · refine xv (x_iinc 139 d_L_arrivals_136 rfl rfl) ?_
                                  show Xv E q_m_L_arrivals 139 [Value.ref b, Value.ref x, Value.int (zi r), Value.int (zi (i + 1)), Value.int (zi g), Value.int (zi (arV l r g)), Value.int (zi (dV (far l (rb l r 0) g)))] [] h93 Q
                                  refine xv (x_goto 13 d_L_arrivals_139 rfl) ?_
                                  exact ih13 _ (by omega) (i + 1) _ _ _ _ (by omega) (by omega) (px_mo P93 (by omega)) rfl
                                · omega
        exact L13 _ 0 _ _ _ _ (by omega) (by omega) (px_mo P5 (by omega)) rfl
  exact L2 _ 0 _ _ _ _ _ (by omega) (by omega) (px_mo P (by omega)) rfl
end DDI
