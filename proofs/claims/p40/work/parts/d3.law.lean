/-! the law's check of plans (printed by program) -/
section DPL
variable {E : q_E} {M : q_M} {h h' h0 : q_H} {x N b L : Nat} {ys : Nat → Int32} {l ls c : Int → Int} {kl : Int → Int → Int} {nx ct n hs fa kr kd_ kb k k' v y z r t i g w : Int}
theorem A_cells (P : PX x l ls nx ct kl n c hs fa kr kd_ h0 (k) h) : ∃ h', q_cl E q_m_L_cells [.ref x] h = some (.inl (some (.int (zi (cs l)))), h') ∧ PX x l ls nx ct kl n c hs fa kr kd_ h0 (k) h' := by
  have hR := P.2.1
  have g0 := rg_n0 hR
  have g1 := rg_n1 hR
  obtain ⟨h1, e1, P1⟩ := A_account0 (E := E) P
  obtain ⟨h2, e2, P2⟩ := A_account1 (E := E) P1
  refine ⟨h2, ?_, P2⟩
  suffices K : ∀ Q : q_R → q_H → Prop, Q (.inl (some (Value.int (zi (cs l))))) h2 → Xv E q_m_L_cells 0 [Value.ref x] [] h Q by
    obtain ⟨r_, g_, a_, b_, c_⟩ := K (fun r_ g_ => r_ = .inl (some (Value.int (zi (cs l)))) ∧ g_ = h2) ⟨rfl, rfl⟩
    subst b_; subst c_; exact a_
  intro Q hQ
  refine xv (x_aload_n 1 d_L_cells_0 rfl rfl) ?_
  refine xv (x_iconst 2 d_L_cells_1 rfl) ?_
  refine xv (x_inv1 5 (as := [Value.int (zi 0)]) d_L_cells_2 rfl c_9_109 rfl (Nat.le_of_ble_eq_true rfl) (Nat.le_of_ble_eq_true rfl) (px_o P) (Nat.le_of_ble_eq_true rfl) (Nat.le_of_ble_eq_true rfl) rfl e1) ?_
  refine xv (x_aload_n 6 d_L_cells_5 rfl rfl) ?_
  refine xv (x_iconst 7 d_L_cells_6 rfl) ?_
  refine xv (x_inv1 10 (as := [Value.int (zi 1)]) d_L_cells_7 rfl c_9_109 rfl (Nat.le_of_ble_eq_true rfl) (Nat.le_of_ble_eq_true rfl) (px_o P1) (Nat.le_of_ble_eq_true rfl) (Nat.le_of_ble_eq_true rfl) rfl e2) ?_
  refine xv (x_imul 11 d_L_cells_10 rfl) ?_
  refine xv_r (x_ireturn d_L_cells_11 rfl rfl) ?_
  exact hQ
theorem A_cell (hb : h.1 b = none) (hS : E.2 b = some (.int, L, fun j => .int (ys j))) (hL : L ≤ 260) {k : Int} (h0 : 0 ≤ k) (h1 : k < 1000) : ∃ v : Int32, q_cl E q_m_L_cell [.ref b, .int (zi k)] h = some (.inl (some (.int v)), h) := by
  suffices K : ∃ v, Xv E q_m_L_cell 0 [Value.ref b, .int (zi k)] [] h (fun r_ g_ => r_ = .inl (some (Value.int v)) ∧ g_ = h) by
    obtain ⟨v, r_, g_, a_, b_, c_⟩ := K
    subst b_; subst c_; exact ⟨v, a_⟩
  by_cases hk : k < L
  · refine ⟨ys k.toNat, ?_⟩
    refine xv (x_iload_n 1 d_L_cell_0 rfl rfl) ?_
    refine xv (x_aload_n 2 d_L_cell_1 rfl rfl) ?_
    refine xv (x_arraylength 3 d_L_cell_2 rfl (q_len_ro hb hS)) ?_
    refine v_icmp_ge 12 6 d_L_cell_3 rfl rfl (by omega) (by omega) (by omega) (by omega) (fun q => by omega) (fun q => ?_)
    refine xv (x_aload_n 7 d_L_cell_6 rfl rfl) ?_
    refine xv (x_iload_n 8 d_L_cell_7 rfl rfl) ?_
    refine xv (x_iaload 9 d_L_cell_8 rfl (q_gIro hb hS h0 hk (by omega))) ?_
    refine xv (x_goto 16 d_L_cell_9 rfl) ?_
    exact xv_r (x_ireturn d_L_cell_16 rfl rfl) ⟨rfl, rfl⟩
  · refine ⟨zi (40503 * k), ?_⟩
    refine xv (x_iload_n 1 d_L_cell_0 rfl rfl) ?_
    refine xv (x_aload_n 2 d_L_cell_1 rfl rfl) ?_
    refine xv (x_arraylength 3 d_L_cell_2 rfl (q_len_ro hb hS)) ?_
    refine v_icmp_ge 12 6 d_L_cell_3 rfl rfl (by omega) (by omega) (by omega) (by omega) (fun q => ?_) (fun q => by omega)
    refine xv (x_ldci 14 d_L_cell_12 rfl rfl rfl (Nat.le_of_ble_eq_true rfl)) ?_
    refine xv (x_iload_n 15 d_L_cell_14 rfl rfl) ?_
    show Xv E q_m_L_cell 15 [Value.ref b, Value.int (zi k)] [Value.int (zi k), Value.int (zi 40503)] h _
    refine xv (x_imul 16 d_L_cell_15 rfl) ?_
    exact xv_r (x_ireturn d_L_cell_16 rfl rfl) ⟨rfl, rfl⟩
theorem P_plans (hN : NDl l) (hE_ : ENl l) (hJ : ∀ r, isR l r → JR l r) (hS : JS l) (P : PX x l ls nx ct kl n c hs fa kr kd_ h0 (kb) h) : ∃ r_ h', q_cl E q_m_L_plans [Value.ref x] h = some (r_, h') ∧ (r_ = .inl (some (.int (zi 1))) ∧ PX x l ls nx ct kl n c hs fa kr kd_ h0 (kb) h') := by
  suffices K : ∀ Q : q_R → q_H → Prop, (∀ r_ h', (r_ = .inl (some (.int (zi 1))) ∧ PX x l ls nx ct kl n c hs fa kr kd_ h0 (kb) h') → Q r_ h') → Xv E q_m_L_plans 0 [Value.ref x, Value.null, Value.null, Value.null, Value.null, Value.null] [] h Q from K _ fun _ _ p => p
  intro Q hQ
  have hR := P.2.1
  have gc := rg_c hR
  have gr := rg_r hR
  have go := rg_o hR
  refine xv (x_iconst 1 d_L_plans_0 rfl) ?_
  refine xv (x_istore_n 2 d_L_plans_1 rfl (Nat.le_of_ble_eq_true rfl)) ?_
  show Xv E q_m_L_plans 2 [Value.ref x, Value.int (zi 0), Value.null, Value.null, Value.null, Value.null] [] h Q
  have L2 : ∀ (n_ : Nat) (t : Int) (a2 : Value) (a3 : Value) (a4 : Value) (a5 : Value) (h_2 : q_H), (0 ≤ t) → (t ≤ 33) → (PX x l ls nx ct kl n c hs fa kr kd_ h0 (kb) h_2) → (33 - t).toNat = n_ → Xv E q_m_L_plans 2 [Value.ref x, Value.int (zi t), a2, a3, a4, a5] [] h_2 Q := by
    intro n_
    induction n_ using Nat.strongRecOn with
    | _ n_ ih2 =>
      intro t a2 a3 a4 a5 h_2 y2_0 y2_1 P_2 em
      refine xv (x_iload_n 3 d_L_plans_2 rfl rfl) ?_
      refine xv (x_bipush 5 d_L_plans_3 rfl rfl) ?_
      refine v_icmp_ge 140 8 d_L_plans_5 rfl rfl (by omega) (by omega) (by omega) (by omega) (fun k5 => ?_) (fun k5 => ?_)
      · refine xv (x_iconst 141 d_L_plans_140 rfl) ?_
        refine xv (x_istore_n 142 d_L_plans_141 rfl (Nat.le_of_ble_eq_true rfl)) ?_
        show Xv E q_m_L_plans 142 [Value.ref x, Value.int (zi 0), a2, a3, a4, a5] [] h_2 Q
        have L142 : ∀ (n_ : Nat) (r : Int) (d2 : Value) (d3 : Value) (d4 : Value) (h_142 : q_H), (0 ≤ r) → (r ≤ l 3) → (PX x l ls nx ct kl n c hs fa kr kd_ h0 (kb) h_142) → (l 3 - r).toNat = n_ → Xv E q_m_L_plans 142 [Value.ref x, Value.int (zi r), d2, d3, d4, a5] [] h_142 Q := by
          intro n_
          induction n_ using Nat.strongRecOn with
          | _ n_ ih142 =>
            intro r d2 d3 d4 h_142 y142_0 y142_1 P_142 em
            refine xv (x_iload_n 143 d_L_plans_142 rfl rfl) ?_
            refine xv (x_aload_n 144 d_L_plans_143 rfl rfl) ?_
            refine xv (x_iconst 145 d_L_plans_144 rfl) ?_
            obtain ⟨h145, e145, P145⟩ := A_account2 (E := E)  P_142 
            refine xv (x_inv1 148 (as := [Value.int (zi 2)]) d_L_plans_145 rfl c_9_109 rfl (Nat.le_of_ble_eq_true rfl) (Nat.le_of_ble_eq_true rfl) (px_o P_142) (Nat.le_of_ble_eq_true rfl) (Nat.le_of_ble_eq_true rfl) rfl e145) ?_
            have q145 := rg_n2 hR
            show Xv E q_m_L_plans 148 [Value.ref x, Value.int (zi r), d2, d3, d4, a5] [Value.int (zi (l 3)), Value.int (zi r)] h145 Q
            refine v_icmp_ge 288 151 d_L_plans_148 rfl rfl (by omega) (by omega) (by omega) (by omega) (fun k148 => ?_) (fun k148 => ?_)
            · refine xv (x_iconst 289 d_L_plans_288 rfl) ?_
              refine xv_r (x_ireturn d_L_plans_289 rfl rfl) ?_
              exact hQ _ _ ⟨rfl, px_mo P145 (by omega)⟩
            · refine xv (x_aload_n 152 d_L_plans_151 rfl rfl) ?_
              refine xv (x_iload_n 153 d_L_plans_152 rfl rfl) ?_
              refine xv (x_iconst 154 d_L_plans_153 rfl) ?_
              obtain ⟨h154, e154, P154⟩ := A_robotOf3 (E := E) (r := r) P145 ⟨by omega, by omega⟩
              refine xv (x_inv1 157 (as := [Value.int (zi r), Value.int (zi 3)]) d_L_plans_154 rfl c_9_203 rfl (Nat.le_of_ble_eq_true rfl) (Nat.le_of_ble_eq_true rfl) (px_o P145) (Nat.le_of_ble_eq_true rfl) (Nat.le_of_ble_eq_true rfl) rfl e154) ?_
              have q154 := rg_b3 hR (r := r) ⟨by omega, by omega⟩
              show Xv E q_m_L_plans 157 [Value.ref x, Value.int (zi r), d2, d3, d4, a5] [Value.int (zi (rb l r 3))] h154 Q
              refine xv (x_istore_n 158 d_L_plans_157 rfl (Nat.le_of_ble_eq_true rfl)) ?_
              show Xv E q_m_L_plans 158 [Value.ref x, Value.int (zi r), Value.int (zi (rb l r 3)), d3, d4, a5] [] h154 Q
              refine xv (x_aload_n 159 d_L_plans_158 rfl rfl) ?_
              refine xv (x_iload_n 160 d_L_plans_159 rfl rfl) ?_
              refine xv (x_iconst 161 d_L_plans_160 rfl) ?_
              obtain ⟨h161, e161, P161⟩ := A_robotOf4 (E := E) (r := r) P154 ⟨by omega, by omega⟩
              refine xv (x_inv1 164 (as := [Value.int (zi r), Value.int (zi 4)]) d_L_plans_161 rfl c_9_203 rfl (Nat.le_of_ble_eq_true rfl) (Nat.le_of_ble_eq_true rfl) (px_o P154) (Nat.le_of_ble_eq_true rfl) (Nat.le_of_ble_eq_true rfl) rfl e161) ?_
              have q161 := rg_b4 hR (r := r) ⟨by omega, by omega⟩
              show Xv E q_m_L_plans 164 [Value.ref x, Value.int (zi r), Value.int (zi (rb l r 3)), d3, d4, a5] [Value.int (zi (if rb l r 3 = 0 then -1 else ahf (rb l r) (rb l r 3)))] h161 Q
              refine xv (x_istore_n 165 d_L_plans_164 rfl (Nat.le_of_ble_eq_true rfl)) ?_
              show Xv E q_m_L_plans 165 [Value.ref x, Value.int (zi r), Value.int (zi (rb l r 3)), Value.int (zi (if rb l r 3 = 0 then -1 else ahf (rb l r) (rb l r 3))), d4, a5] [] h161 Q
              refine xv (x_iload_n 166 d_L_plans_165 rfl rfl) ?_
              refine v_if_ne 198 169 d_L_plans_166 rfl rfl (by omega) (by omega) (fun k166 => ?_) (fun k166 => ?_)
              · refine xv (x_aload_n 199 d_L_plans_198 rfl rfl) ?_
                refine xv (x_iload_n 200 d_L_plans_199 rfl rfl) ?_
                refine xv (x_iload_n 201 d_L_plans_200 rfl rfl) ?_
                obtain ⟨h201, e201, P201⟩ := A_planned (E := E) (r := r) (t := (rb l r 3)) P161 ⟨by omega, by omega⟩ (by omega) (by omega)
                refine xv (x_inv1 204 (as := [Value.int (zi r), Value.int (zi (rb l r 3))]) d_L_plans_201 rfl c_9_193 rfl (Nat.le_of_ble_eq_true rfl) (Nat.le_of_ble_eq_true rfl) (px_o P161) (Nat.le_of_ble_eq_true rfl) (Nat.le_of_ble_eq_true rfl) rfl e201) ?_
                have q201 := rg_pl (r := r) (t := (rb l r 3)) hR ⟨by omega, by omega⟩ (by omega)
                show Xv E q_m_L_plans 204 [Value.ref x, Value.int (zi r), Value.int (zi (rb l r 3)), Value.int (zi (if rb l r 3 = 0 then -1 else ahf (rb l r) (rb l r 3))), d4, a5] [Value.int (zi (ahd l r (rb l r 3)))] h201 Q
                refine xv (x_iload_n 205 d_L_plans_204 rfl rfl) ?_
                refine v_icmp_ne 237 208 d_L_plans_205 rfl rfl (by omega) (by omega) (by omega) (by omega) (fun k205 => ?_) (fun k205 => ?_)
                · rw [if_neg k166] at k205; exact absurd rfl k205
                · refine xv (x_aload_n 209 d_L_plans_208 rfl rfl) ?_
                  refine xv (x_iload_n 210 d_L_plans_209 rfl rfl) ?_
                  refine xv (x_iload_n 211 d_L_plans_210 rfl rfl) ?_
                  refine xv (x_bipush 213 d_L_plans_211 rfl rfl) ?_
                  refine xv (x_iadd 214 d_L_plans_213 rfl) ?_
                  obtain ⟨h214, e214, P214⟩ := A_planned (E := E) (r := r) (t := ((rb l r 3) + 9)) P201 ⟨by omega, by omega⟩ (by omega) (by omega)
                  refine xv (x_inv1 217 (as := [Value.int (zi r), Value.int (zi ((rb l r 3) + 9))]) d_L_plans_214 rfl c_9_193 rfl (Nat.le_of_ble_eq_true rfl) (Nat.le_of_ble_eq_true rfl) (px_o P201) (Nat.le_of_ble_eq_true rfl) (Nat.le_of_ble_eq_true rfl) rfl e214) ?_
                  have q214 := rg_pl (r := r) (t := ((rb l r 3) + 9)) hR ⟨by omega, by omega⟩ (by omega)
                  show Xv E q_m_L_plans 217 [Value.ref x, Value.int (zi r), Value.int (zi (rb l r 3)), Value.int (zi (if rb l r 3 = 0 then -1 else ahf (rb l r) (rb l r 3))), d4, a5] [Value.int (zi (ahd l r ((rb l r 3) + 9)))] h214 Q
                  refine xv (x_iload_n 218 d_L_plans_217 rfl rfl) ?_
                  refine v_icmp_ne 237 221 d_L_plans_218 rfl rfl (by omega) (by omega) (by omega) (by omega) (fun k218 => ?_) (fun k218 => ?_)
                  · rw [if_neg k166] at k218; exact absurd (ahd_end (by omega) (by omega)) k218
                  · refine xv (x_aload_n 222 d_L_plans_221 rfl rfl) ?_
                    refine xv (x_iload_n 223 d_L_plans_222 rfl rfl) ?_
                    refine xv (x_iload_n 224 d_L_plans_223 rfl rfl) ?_
                    refine xv (x_iconst 225 d_L_plans_224 rfl) ?_
                    refine xv (x_isub 226 d_L_plans_225 rfl) ?_
                    obtain ⟨h226, e226, P226⟩ := A_planned (E := E) (r := r) (t := ((rb l r 3) - 1)) P214 ⟨by omega, by omega⟩ (by omega) (by omega)
                    refine xv (x_inv1 229 (as := [Value.int (zi r), Value.int (zi ((rb l r 3) - 1))]) d_L_plans_226 rfl c_9_193 rfl (Nat.le_of_ble_eq_true rfl) (Nat.le_of_ble_eq_true rfl) (px_o P214) (Nat.le_of_ble_eq_true rfl) (Nat.le_of_ble_eq_true rfl) rfl e226) ?_
                    have q226 := rg_pl (r := r) (t := ((rb l r 3) - 1)) hR ⟨by omega, by omega⟩ (by omega)
                    show Xv E q_m_L_plans 229 [Value.ref x, Value.int (zi r), Value.int (zi (rb l r 3)), Value.int (zi (if rb l r 3 = 0 then -1 else ahf (rb l r) (rb l r 3))), d4, a5] [Value.int (zi (ahd l r ((rb l r 3) - 1)))] h226 Q
                    refine xv (x_iload_n 230 d_L_plans_229 rfl rfl) ?_
                    refine v_icmp_eq 237 233 d_L_plans_230 rfl rfl (by omega) (by omega) (by omega) (by omega) (fun k230 => ?_) (fun k230 => ?_)
                    · rw [if_neg k166] at k230; exact absurd k230 ((hJ r ⟨by omega, by omega⟩).2.1 (by omega))
                    · refine xv (x_iconst 234 d_L_plans_233 rfl) ?_
                      refine xv (x_goto 238 d_L_plans_234 rfl) ?_
                      refine xv (x_istore 240 d_L_plans_238 rfl (Nat.le_of_ble_eq_true rfl)) ?_
                      show Xv E q_m_L_plans 240 [Value.ref x, Value.int (zi r), Value.int (zi (rb l r 3)), Value.int (zi (if rb l r 3 = 0 then -1 else ahf (rb l r) (rb l r 3))), Value.int (zi 1), a5] [] h226 Q
                      refine xv (x_iload 242 d_L_plans_240 rfl rfl) ?_
                      refine v_if_eq 280 245 d_L_plans_242 rfl rfl (by omega) (by omega) (fun k242 => ?_) (fun k242 => ?_)
                      · omega
                      · refine xv (x_aload_n 246 d_L_plans_245 rfl rfl) ?_
                        refine xv (x_iload_n 247 d_L_plans_246 rfl rfl) ?_
                        refine xv (x_iconst 248 d_L_plans_247 rfl) ?_
                        obtain ⟨h248, e248, P248⟩ := A_planned (E := E) (r := r) (t := 0) P226 ⟨by omega, by omega⟩ (by omega) (by omega)
                        refine xv (x_inv1 251 (as := [Value.int (zi r), Value.int (zi 0)]) d_L_plans_248 rfl c_9_193 rfl (Nat.le_of_ble_eq_true rfl) (Nat.le_of_ble_eq_true rfl) (px_o P226) (Nat.le_of_ble_eq_true rfl) (Nat.le_of_ble_eq_true rfl) rfl e248) ?_
                        have q248 := rg_pl (r := r) (t := 0) hR ⟨by omega, by omega⟩ (by omega)
                        show Xv E q_m_L_plans 251 [Value.ref x, Value.int (zi r), Value.int (zi (rb l r 3)), Value.int (zi (if rb l r 3 = 0 then -1 else ahf (rb l r) (rb l r 3))), Value.int (zi 1), a5] [Value.int (zi (ahd l r 0))] h248 Q
                        refine xv (x_aload_n 252 d_L_plans_251 rfl rfl) ?_
                        refine xv (x_iload_n 253 d_L_plans_252 rfl rfl) ?_
                        refine xv (x_iconst 254 d_L_plans_253 rfl) ?_
                        obtain ⟨h254, e254, P254⟩ := A_robotOf0 (E := E) (r := r) P248 ⟨by omega, by omega⟩
                        refine xv (x_inv1 257 (as := [Value.int (zi r), Value.int (zi 0)]) d_L_plans_254 rfl c_9_203 rfl (Nat.le_of_ble_eq_true rfl) (Nat.le_of_ble_eq_true rfl) (px_o P248) (Nat.le_of_ble_eq_true rfl) (Nat.le_of_ble_eq_true rfl) rfl e254) ?_
                        have q254 := rg_b0 hR (r := r) ⟨by omega, by omega⟩
                        show Xv E q_m_L_plans 257 [Value.ref x, Value.int (zi r), Value.int (zi (rb l r 3)), Value.int (zi (if rb l r 3 = 0 then -1 else ahf (rb l r) (rb l r 3))), Value.int (zi 1), a5] [Value.int (zi (rb l r 0)), Value.int (zi (ahd l r 0))] h254 Q
                        refine v_icmp_ne 280 260 d_L_plans_257 rfl rfl (by omega) (by omega) (by omega) (by omega) (fun k257 => ?_) (fun k257 => ?_)
                        · exact absurd ahd_0 k257
                        · refine xv (x_aload_n 261 d_L_plans_260 rfl rfl) ?_
                          refine xv (x_iload_n 262 d_L_plans_261 rfl rfl) ?_
                          refine xv (x_iconst 263 d_L_plans_262 rfl) ?_
                          obtain ⟨h263, e263, P263⟩ := A_robotOf1 (E := E) (r := r) P254 ⟨by omega, by omega⟩
                          refine xv (x_inv1 266 (as := [Value.int (zi r), Value.int (zi 1)]) d_L_plans_263 rfl c_9_203 rfl (Nat.le_of_ble_eq_true rfl) (Nat.le_of_ble_eq_true rfl) (px_o P254) (Nat.le_of_ble_eq_true rfl) (Nat.le_of_ble_eq_true rfl) rfl e263) ?_
                          have q263 := rg_b1 hR (r := r) ⟨by omega, by omega⟩
                          show Xv E q_m_L_plans 266 [Value.ref x, Value.int (zi r), Value.int (zi (rb l r 3)), Value.int (zi (if rb l r 3 = 0 then -1 else ahf (rb l r) (rb l r 3))), Value.int (zi 1), a5] [Value.int (zi (rb l r 1))] h263 Q
                          refine v_if_lt 280 269 d_L_plans_266 rfl rfl (by omega) (by omega) (fun k266 => ?_) (fun k266 => ?_)
                          · have := (hJ r ⟨by omega, by omega⟩).2.2.1; omega
                          · refine xv (x_aload_n 270 d_L_plans_269 rfl rfl) ?_
                            refine xv (x_iload_n 271 d_L_plans_270 rfl rfl) ?_
                            refine xv (x_iconst 272 d_L_plans_271 rfl) ?_
                            obtain ⟨h272, e272, P272⟩ := A_robotOf1 (E := E) (r := r) P263 ⟨by omega, by omega⟩
                            refine xv (x_inv1 275 (as := [Value.int (zi r), Value.int (zi 1)]) d_L_plans_272 rfl c_9_203 rfl (Nat.le_of_ble_eq_true rfl) (Nat.le_of_ble_eq_true rfl) (px_o P263) (Nat.le_of_ble_eq_true rfl) (Nat.le_of_ble_eq_true rfl) rfl e272) ?_
                            have q272 := rg_b1 hR (r := r) ⟨by omega, by omega⟩
                            show Xv E q_m_L_plans 275 [Value.ref x, Value.int (zi r), Value.int (zi (rb l r 3)), Value.int (zi (if rb l r 3 = 0 then -1 else ahf (rb l r) (rb l r 3))), Value.int (zi 1), a5] [Value.int (zi (rb l r 1))] h272 Q
                            refine xv (x_bipush 277 d_L_plans_275 rfl rfl) ?_
                            refine v_icmp_le 282 280 d_L_plans_277 rfl rfl (by omega) (by omega) (by omega) (by omega) (fun k277 => ?_) (fun k277 => ?_)
                            · refine xv (x_iinc 285 d_L_plans_282 rfl rfl) ?_
                              show Xv E q_m_L_plans 285 [Value.ref x, Value.int (zi (r + 1)), Value.int (zi (rb l r 3)), Value.int (zi (if rb l r 3 = 0 then -1 else ahf (rb l r) (rb l r 3))), Value.int (zi 1), a5] [] h272 Q
                              refine xv (x_goto 142 d_L_plans_285 rfl) ?_
                              exact ih142 _ (by omega) (r + 1) _ _ _ _ (by omega) (by omega) (px_mo P272 (by omega)) rfl
                            · omega
              · refine xv (x_iload_n 170 d_L_plans_169 rfl rfl) ?_
                refine xv (x_iconst 171 d_L_plans_170 rfl) ?_
                refine v_icmp_ne 194 174 d_L_plans_171 rfl rfl (by omega) (by omega) (by omega) (by omega) (fun k171 => ?_) (fun k171 => ?_)
                · rw [if_pos k166] at k171; exact absurd rfl k171
                · refine xv (x_aload_n 175 d_L_plans_174 rfl rfl) ?_
                  refine xv (x_iload_n 176 d_L_plans_175 rfl rfl) ?_
                  refine xv (x_bipush 178 d_L_plans_176 rfl rfl) ?_
                  obtain ⟨h178, e178, P178⟩ := A_planned (E := E) (r := r) (t := 7) P161 ⟨by omega, by omega⟩ (by omega) (by omega)
                  refine xv (x_inv1 181 (as := [Value.int (zi r), Value.int (zi 7)]) d_L_plans_178 rfl c_9_193 rfl (Nat.le_of_ble_eq_true rfl) (Nat.le_of_ble_eq_true rfl) (px_o P161) (Nat.le_of_ble_eq_true rfl) (Nat.le_of_ble_eq_true rfl) rfl e178) ?_
                  have q178 := rg_pl (r := r) (t := 7) hR ⟨by omega, by omega⟩ (by omega)
                  show Xv E q_m_L_plans 181 [Value.ref x, Value.int (zi r), Value.int (zi (rb l r 3)), Value.int (zi (if rb l r 3 = 0 then -1 else ahf (rb l r) (rb l r 3))), d4, a5] [Value.int (zi (ahd l r 7))] h178 Q
                  refine xv (x_aload_n 182 d_L_plans_181 rfl rfl) ?_
                  refine xv (x_iload_n 183 d_L_plans_182 rfl rfl) ?_
                  refine xv (x_iconst 184 d_L_plans_183 rfl) ?_
                  obtain ⟨h184, e184, P184⟩ := A_robotOf0 (E := E) (r := r) P178 ⟨by omega, by omega⟩
                  refine xv (x_inv1 187 (as := [Value.int (zi r), Value.int (zi 0)]) d_L_plans_184 rfl c_9_203 rfl (Nat.le_of_ble_eq_true rfl) (Nat.le_of_ble_eq_true rfl) (px_o P178) (Nat.le_of_ble_eq_true rfl) (Nat.le_of_ble_eq_true rfl) rfl e184) ?_
                  have q184 := rg_b0 hR (r := r) ⟨by omega, by omega⟩
                  show Xv E q_m_L_plans 187 [Value.ref x, Value.int (zi r), Value.int (zi (rb l r 3)), Value.int (zi (if rb l r 3 = 0 then -1 else ahf (rb l r) (rb l r 3))), d4, a5] [Value.int (zi (rb l r 0)), Value.int (zi (ahd l r 7))] h184 Q
                  refine v_icmp_ne 194 190 d_L_plans_187 rfl rfl (by omega) (by omega) (by omega) (by omega) (fun k187 => ?_) (fun k187 => ?_)
                  · exact absurd (ahd_z k166) k187
                  · refine xv (x_iconst 191 d_L_plans_190 rfl) ?_
                    refine xv (x_goto 238 d_L_plans_191 rfl) ?_
                    refine xv (x_istore 240 d_L_plans_238 rfl (Nat.le_of_ble_eq_true rfl)) ?_
                    show Xv E q_m_L_plans 240 [Value.ref x, Value.int (zi r), Value.int (zi (rb l r 3)), Value.int (zi (if rb l r 3 = 0 then -1 else ahf (rb l r) (rb l r 3))), Value.int (zi 1), a5] [] h184 Q
                    refine xv (x_iload 242 d_L_plans_240 rfl rfl) ?_
                    refine v_if_eq 280 245 d_L_plans_242 rfl rfl (by omega) (by omega) (fun k242 => ?_) (fun k242 => ?_)
                    · omega
                    · refine xv (x_aload_n 246 d_L_plans_245 rfl rfl) ?_
                      refine xv (x_iload_n 247 d_L_plans_246 rfl rfl) ?_
                      refine xv (x_iconst 248 d_L_plans_247 rfl) ?_
                      obtain ⟨h248, e248, P248⟩ := A_planned (E := E) (r := r) (t := 0) P184 ⟨by omega, by omega⟩ (by omega) (by omega)
                      refine xv (x_inv1 251 (as := [Value.int (zi r), Value.int (zi 0)]) d_L_plans_248 rfl c_9_193 rfl (Nat.le_of_ble_eq_true rfl) (Nat.le_of_ble_eq_true rfl) (px_o P184) (Nat.le_of_ble_eq_true rfl) (Nat.le_of_ble_eq_true rfl) rfl e248) ?_
                      have q248 := rg_pl (r := r) (t := 0) hR ⟨by omega, by omega⟩ (by omega)
                      show Xv E q_m_L_plans 251 [Value.ref x, Value.int (zi r), Value.int (zi (rb l r 3)), Value.int (zi (if rb l r 3 = 0 then -1 else ahf (rb l r) (rb l r 3))), Value.int (zi 1), a5] [Value.int (zi (ahd l r 0))] h248 Q
                      refine xv (x_aload_n 252 d_L_plans_251 rfl rfl) ?_
                      refine xv (x_iload_n 253 d_L_plans_252 rfl rfl) ?_
                      refine xv (x_iconst 254 d_L_plans_253 rfl) ?_
                      obtain ⟨h254, e254, P254⟩ := A_robotOf0 (E := E) (r := r) P248 ⟨by omega, by omega⟩
                      refine xv (x_inv1 257 (as := [Value.int (zi r), Value.int (zi 0)]) d_L_plans_254 rfl c_9_203 rfl (Nat.le_of_ble_eq_true rfl) (Nat.le_of_ble_eq_true rfl) (px_o P248) (Nat.le_of_ble_eq_true rfl) (Nat.le_of_ble_eq_true rfl) rfl e254) ?_
                      have q254 := rg_b0 hR (r := r) ⟨by omega, by omega⟩
                      show Xv E q_m_L_plans 257 [Value.ref x, Value.int (zi r), Value.int (zi (rb l r 3)), Value.int (zi (if rb l r 3 = 0 then -1 else ahf (rb l r) (rb l r 3))), Value.int (zi 1), a5] [Value.int (zi (rb l r 0)), Value.int (zi (ahd l r 0))] h254 Q
                      refine v_icmp_ne 280 260 d_L_plans_257 rfl rfl (by omega) (by omega) (by omega) (by omega) (fun k257 => ?_) (fun k257 => ?_)
                      · exact absurd ahd_0 k257
                      · refine xv (x_aload_n 261 d_L_plans_260 rfl rfl) ?_
                        refine xv (x_iload_n 262 d_L_plans_261 rfl rfl) ?_
                        refine xv (x_iconst 263 d_L_plans_262 rfl) ?_
                        obtain ⟨h263, e263, P263⟩ := A_robotOf1 (E := E) (r := r) P254 ⟨by omega, by omega⟩
                        refine xv (x_inv1 266 (as := [Value.int (zi r), Value.int (zi 1)]) d_L_plans_263 rfl c_9_203 rfl (Nat.le_of_ble_eq_true rfl) (Nat.le_of_ble_eq_true rfl) (px_o P254) (Nat.le_of_ble_eq_true rfl) (Nat.le_of_ble_eq_true rfl) rfl e263) ?_
                        have q263 := rg_b1 hR (r := r) ⟨by omega, by omega⟩
                        show Xv E q_m_L_plans 266 [Value.ref x, Value.int (zi r), Value.int (zi (rb l r 3)), Value.int (zi (if rb l r 3 = 0 then -1 else ahf (rb l r) (rb l r 3))), Value.int (zi 1), a5] [Value.int (zi (rb l r 1))] h263 Q
                        refine v_if_lt 280 269 d_L_plans_266 rfl rfl (by omega) (by omega) (fun k266 => ?_) (fun k266 => ?_)
                        · have := (hJ r ⟨by omega, by omega⟩).2.2.1; omega
                        · refine xv (x_aload_n 270 d_L_plans_269 rfl rfl) ?_
                          refine xv (x_iload_n 271 d_L_plans_270 rfl rfl) ?_
                          refine xv (x_iconst 272 d_L_plans_271 rfl) ?_
                          obtain ⟨h272, e272, P272⟩ := A_robotOf1 (E := E) (r := r) P263 ⟨by omega, by omega⟩
                          refine xv (x_inv1 275 (as := [Value.int (zi r), Value.int (zi 1)]) d_L_plans_272 rfl c_9_203 rfl (Nat.le_of_ble_eq_true rfl) (Nat.le_of_ble_eq_true rfl) (px_o P263) (Nat.le_of_ble_eq_true rfl) (Nat.le_of_ble_eq_true rfl) rfl e272) ?_
                          have q272 := rg_b1 hR (r := r) ⟨by omega, by omega⟩
                          show Xv E q_m_L_plans 275 [Value.ref x, Value.int (zi r), Value.int (zi (rb l r 3)), Value.int (zi (if rb l r 3 = 0 then -1 else ahf (rb l r) (rb l r 3))), Value.int (zi 1), a5] [Value.int (zi (rb l r 1))] h272 Q
                          refine xv (x_bipush 277 d_L_plans_275 rfl rfl) ?_
                          refine v_icmp_le 282 280 d_L_plans_277 rfl rfl (by omega) (by omega) (by omega) (by omega) (fun k277 => ?_) (fun k277 => ?_)
                          · refine xv (x_iinc 285 d_L_plans_282 rfl rfl) ?_
                            show Xv E q_m_L_plans 285 [Value.ref x, Value.int (zi (r + 1)), Value.int (zi (rb l r 3)), Value.int (zi (if rb l r 3 = 0 then -1 else ahf (rb l r) (rb l r 3))), Value.int (zi 1), a5] [] h272 Q
                            refine xv (x_goto 142 d_L_plans_285 rfl) ?_
                            exact ih142 _ (by omega) (r + 1) _ _ _ _ (by omega) (by omega) (px_mo P272 (by omega)) rfl
                          · omega
        exact L142 _ 0 _ _ _ _ (by omega) (by omega) (px_mo P_2 (by omega)) rfl
      · refine xv (x_iconst 9 d_L_plans_8 rfl) ?_
        refine xv (x_istore_n 10 d_L_plans_9 rfl (Nat.le_of_ble_eq_true rfl)) ?_
        show Xv E q_m_L_plans 10 [Value.ref x, Value.int (zi t), Value.int (zi 0), a3, a4, a5] [] h_2 Q
        have L10 : ∀ (n_ : Nat) (r : Int) (b3 : Value) (b4 : Value) (b5 : Value) (h_10 : q_H), (0 ≤ r) → (r ≤ l 3) → (PX x l ls nx ct kl n c hs fa kr kd_ h0 (kb) h_10) → (l 3 - r).toNat = n_ → Xv E q_m_L_plans 10 [Value.ref x, Value.int (zi t), Value.int (zi r), b3, b4, b5] [] h_10 Q := by
          intro n_
          induction n_ using Nat.strongRecOn with
          | _ n_ ih10 =>
            intro r b3 b4 b5 h_10 y10_0 y10_1 P_10 em
            refine xv (x_iload_n 11 d_L_plans_10 rfl rfl) ?_
            refine xv (x_aload_n 12 d_L_plans_11 rfl rfl) ?_
            refine xv (x_iconst 13 d_L_plans_12 rfl) ?_
            obtain ⟨h13, e13, P13⟩ := A_account2 (E := E)  P_10 
            refine xv (x_inv1 16 (as := [Value.int (zi 2)]) d_L_plans_13 rfl c_9_109 rfl (Nat.le_of_ble_eq_true rfl) (Nat.le_of_ble_eq_true rfl) (px_o P_10) (Nat.le_of_ble_eq_true rfl) (Nat.le_of_ble_eq_true rfl) rfl e13) ?_
            have q13 := rg_n2 hR
            show Xv E q_m_L_plans 16 [Value.ref x, Value.int (zi t), Value.int (zi r), b3, b4, b5] [Value.int (zi (l 3)), Value.int (zi r)] h13 Q
            refine v_icmp_ge 134 19 d_L_plans_16 rfl rfl (by omega) (by omega) (by omega) (by omega) (fun k16 => ?_) (fun k16 => ?_)
            · refine xv (x_iinc 137 d_L_plans_134 rfl rfl) ?_
              show Xv E q_m_L_plans 137 [Value.ref x, Value.int (zi (t + 1)), Value.int (zi r), b3, b4, b5] [] h13 Q
              refine xv (x_goto 2 d_L_plans_137 rfl) ?_
              exact ih2 _ (by omega) (t + 1) _ _ _ _ _ (by omega) (by omega) (px_mo P13 (by omega)) rfl
            · refine xv (x_aload_n 20 d_L_plans_19 rfl rfl) ?_
              refine xv (x_iload_n 21 d_L_plans_20 rfl rfl) ?_
              refine xv (x_iload_n 22 d_L_plans_21 rfl rfl) ?_
              obtain ⟨h22, e22, P22⟩ := A_planned (E := E) (r := r) (t := t) P13 ⟨by omega, by omega⟩ (by omega) (by omega)
              refine xv (x_inv1 25 (as := [Value.int (zi r), Value.int (zi t)]) d_L_plans_22 rfl c_9_193 rfl (Nat.le_of_ble_eq_true rfl) (Nat.le_of_ble_eq_true rfl) (px_o P13) (Nat.le_of_ble_eq_true rfl) (Nat.le_of_ble_eq_true rfl) rfl e22) ?_
              have q22 := rg_pl (r := r) (t := t) hR ⟨by omega, by omega⟩ (by omega)
              show Xv E q_m_L_plans 25 [Value.ref x, Value.int (zi t), Value.int (zi r), b3, b4, b5] [Value.int (zi (ahd l r t))] h22 Q
              refine xv (x_istore_n 26 d_L_plans_25 rfl (Nat.le_of_ble_eq_true rfl)) ?_
              show Xv E q_m_L_plans 26 [Value.ref x, Value.int (zi t), Value.int (zi r), Value.int (zi (ahd l r t)), b4, b5] [] h22 Q
              refine xv (x_aload_n 27 d_L_plans_26 rfl rfl) ?_
              refine xv (x_iload_n 28 d_L_plans_27 rfl rfl) ?_
              refine xv (x_iload_n 29 d_L_plans_28 rfl rfl) ?_
              refine xv (x_iconst 30 d_L_plans_29 rfl) ?_
              refine xv (x_iadd 31 d_L_plans_30 rfl) ?_
              obtain ⟨h31, e31, P31⟩ := A_planned (E := E) (r := r) (t := (t + 1)) P22 ⟨by omega, by omega⟩ (by omega) (by omega)
              refine xv (x_inv1 34 (as := [Value.int (zi r), Value.int (zi (t + 1))]) d_L_plans_31 rfl c_9_193 rfl (Nat.le_of_ble_eq_true rfl) (Nat.le_of_ble_eq_true rfl) (px_o P22) (Nat.le_of_ble_eq_true rfl) (Nat.le_of_ble_eq_true rfl) rfl e31) ?_
              have q31 := rg_pl (r := r) (t := (t + 1)) hR ⟨by omega, by omega⟩ (by omega)
              show Xv E q_m_L_plans 34 [Value.ref x, Value.int (zi t), Value.int (zi r), Value.int (zi (ahd l r t)), b4, b5] [Value.int (zi (ahd l r (t + 1)))] h31 Q
              refine xv (x_istore 36 d_L_plans_34 rfl (Nat.le_of_ble_eq_true rfl)) ?_
              show Xv E q_m_L_plans 36 [Value.ref x, Value.int (zi t), Value.int (zi r), Value.int (zi (ahd l r t)), Value.int (zi (ahd l r (t + 1))), b5] [] h31 Q
              refine xv (x_aload_n 37 d_L_plans_36 rfl rfl) ?_
              refine xv (x_iload_n 38 d_L_plans_37 rfl rfl) ?_
              refine xv (x_iconst 39 d_L_plans_38 rfl) ?_
              obtain ⟨h39, e39, P39⟩ := A_cell1 (E := E) (y := (ahd l r t)) P31 ⟨by omega, by omega⟩
              rw [show bI (ent l (ahd l r t)) = 1 from bI_ent hE_ ⟨by omega, by omega⟩ (by omega)] at e39
              refine xv (x_inv1 42 (as := [Value.int (zi (ahd l r t)), Value.int (zi 1)]) d_L_plans_39 rfl c_9_196 rfl (Nat.le_of_ble_eq_true rfl) (Nat.le_of_ble_eq_true rfl) (px_o P31) (Nat.le_of_ble_eq_true rfl) (Nat.le_of_ble_eq_true rfl) rfl e39) ?_
              have q39 := bI_r (ent l (ahd l r t))
              show Xv E q_m_L_plans 42 [Value.ref x, Value.int (zi t), Value.int (zi r), Value.int (zi (ahd l r t)), Value.int (zi (ahd l r (t + 1))), b5] [Value.int (zi 1)] h39 Q
              refine xv (x_iconst 43 d_L_plans_42 rfl) ?_
              refine v_icmp_ne 73 46 d_L_plans_43 rfl rfl (by omega) (by omega) (by omega) (by omega) (fun k43 => ?_) (fun k43 => ?_)
              · omega
              · refine xv (x_aload_n 47 d_L_plans_46 rfl rfl) ?_
                refine xv (x_iload_n 48 d_L_plans_47 rfl rfl) ?_
                refine xv (x_iload_n 49 d_L_plans_48 rfl rfl) ?_
                obtain ⟨h49, e49, P49⟩ := A_reserved (E := E) (y := (ahd l r t)) (t := t) P39 ⟨by omega, by omega⟩ (by omega) (by omega)
                rw [show rin l (ahd l r t) t = r from rin_is hN ⟨by omega, by omega⟩ (by omega)] at e49
                refine xv (x_inv1 52 (as := [Value.int (zi (ahd l r t)), Value.int (zi t)]) d_L_plans_49 rfl c_9_198 rfl (Nat.le_of_ble_eq_true rfl) (Nat.le_of_ble_eq_true rfl) (px_o P39) (Nat.le_of_ble_eq_true rfl) (Nat.le_of_ble_eq_true rfl) rfl e49) ?_
                have q49 := rg_in hR (y := (ahd l r t)) (t := t)
                show Xv E q_m_L_plans 52 [Value.ref x, Value.int (zi t), Value.int (zi r), Value.int (zi (ahd l r t)), Value.int (zi (ahd l r (t + 1))), b5] [Value.int (zi r)] h49 Q
                refine xv (x_iload_n 53 d_L_plans_52 rfl rfl) ?_
                refine v_icmp_ne 73 56 d_L_plans_53 rfl rfl (by omega) (by omega) (by omega) (by omega) (fun k53 => ?_) (fun k53 => ?_)
                · omega
                · refine xv (x_iload_n 57 d_L_plans_56 rfl rfl) ?_
                  refine xv (x_iload 59 d_L_plans_57 rfl rfl) ?_
                  refine v_icmp_eq 75 62 d_L_plans_59 rfl rfl (by omega) (by omega) (by omega) (by omega) (fun k59 => ?_) (fun k59 => ?_)
                  · refine xv (x_iconst 76 d_L_plans_75 rfl) ?_
                    refine xv (x_istore 78 d_L_plans_76 rfl (Nat.le_of_ble_eq_true rfl)) ?_
                    show Xv E q_m_L_plans 78 [Value.ref x, Value.int (zi t), Value.int (zi r), Value.int (zi (ahd l r t)), Value.int (zi (ahd l r (t + 1))), Value.int (zi 0)] [] h49 Q
                    have L78 : ∀ (n_ : Nat) (y : Int) (h_78 : q_H), (0 ≤ y) → (y ≤ r) → (PX x l ls nx ct kl n c hs fa kr kd_ h0 (kb) h_78) → (r - y).toNat = n_ → Xv E q_m_L_plans 78 [Value.ref x, Value.int (zi t), Value.int (zi r), Value.int (zi (ahd l r t)), Value.int (zi (ahd l r (t + 1))), Value.int (zi y)] [] h_78 Q := by
                      intro n_
                      induction n_ using Nat.strongRecOn with
                      | _ n_ ih78 =>
                        intro y h_78 y78_0 y78_1 P_78 em
                        refine xv (x_iload 80 d_L_plans_78 rfl rfl) ?_
                        refine xv (x_iload_n 81 d_L_plans_80 rfl rfl) ?_
                        refine v_icmp_ge 128 84 d_L_plans_81 rfl rfl (by omega) (by omega) (by omega) (by omega) (fun k81 => ?_) (fun k81 => ?_)
                        · refine xv (x_iinc 131 d_L_plans_128 rfl rfl) ?_
                          show Xv E q_m_L_plans 131 [Value.ref x, Value.int (zi t), Value.int (zi (r + 1)), Value.int (zi (ahd l r t)), Value.int (zi (ahd l r (t + 1))), Value.int (zi y)] [] h_78 Q
                          refine xv (x_goto 10 d_L_plans_131 rfl) ?_
                          exact ih10 _ (by omega) (r + 1) _ _ _ _ (by omega) (by omega) (px_mo P_78 (by omega)) rfl
                        · refine xv (x_aload_n 85 d_L_plans_84 rfl rfl) ?_
                          refine xv (x_iload 87 d_L_plans_85 rfl rfl) ?_
                          refine xv (x_iload_n 88 d_L_plans_87 rfl rfl) ?_
                          obtain ⟨h88, e88, P88⟩ := A_planned (E := E) (r := y) (t := t) P_78 ⟨by omega, by omega⟩ (by omega) (by omega)
                          refine xv (x_inv1 91 (as := [Value.int (zi y), Value.int (zi t)]) d_L_plans_88 rfl c_9_193 rfl (Nat.le_of_ble_eq_true rfl) (Nat.le_of_ble_eq_true rfl) (px_o P_78) (Nat.le_of_ble_eq_true rfl) (Nat.le_of_ble_eq_true rfl) rfl e88) ?_
                          have q88 := rg_pl (r := y) (t := t) hR ⟨by omega, by omega⟩ (by omega)
                          show Xv E q_m_L_plans 91 [Value.ref x, Value.int (zi t), Value.int (zi r), Value.int (zi (ahd l r t)), Value.int (zi (ahd l r (t + 1))), Value.int (zi y)] [Value.int (zi (ahd l y t))] h88 Q
                          refine xv (x_iload_n 92 d_L_plans_91 rfl rfl) ?_
                          refine v_icmp_eq 120 95 d_L_plans_92 rfl rfl (by omega) (by omega) (by omega) (by omega) (fun k92 => ?_) (fun k92 => ?_)
                          · exact absurd k92 (hN y r ⟨by omega, by omega⟩ ⟨by omega, by omega⟩ (by omega) t (by omega))
                          · refine xv (x_aload_n 96 d_L_plans_95 rfl rfl) ?_
                            refine xv (x_iload 98 d_L_plans_96 rfl rfl) ?_
                            refine xv (x_iload_n 99 d_L_plans_98 rfl rfl) ?_
                            obtain ⟨h99, e99, P99⟩ := A_planned (E := E) (r := y) (t := t) P88 ⟨by omega, by omega⟩ (by omega) (by omega)
                            refine xv (x_inv1 102 (as := [Value.int (zi y), Value.int (zi t)]) d_L_plans_99 rfl c_9_193 rfl (Nat.le_of_ble_eq_true rfl) (Nat.le_of_ble_eq_true rfl) (px_o P88) (Nat.le_of_ble_eq_true rfl) (Nat.le_of_ble_eq_true rfl) rfl e99) ?_
                            have q99 := rg_pl (r := y) (t := t) hR ⟨by omega, by omega⟩ (by omega)
                            show Xv E q_m_L_plans 102 [Value.ref x, Value.int (zi t), Value.int (zi r), Value.int (zi (ahd l r t)), Value.int (zi (ahd l r (t + 1))), Value.int (zi y)] [Value.int (zi (ahd l y t))] h99 Q
                            refine xv (x_iload 104 d_L_plans_102 rfl rfl) ?_
                            refine v_icmp_ne 122 107 d_L_plans_104 rfl rfl (by omega) (by omega) (by omega) (by omega) (fun k104 => ?_) (fun k104 => ?_)
                            · refine xv (x_iinc 125 d_L_plans_122 rfl rfl) ?_
                              show Xv E q_m_L_plans 125 [Value.ref x, Value.int (zi t), Value.int (zi r), Value.int (zi (ahd l r t)), Value.int (zi (ahd l r (t + 1))), Value.int (zi (y + 1))] [] h99 Q
                              refine xv (x_goto 78 d_L_plans_125 rfl) ?_
                              exact ih78 _ (by omega) (y + 1) _ (by omega) (by omega) (px_mo P99 (by omega)) rfl
                            · refine xv (x_aload_n 108 d_L_plans_107 rfl rfl) ?_
                              refine xv (x_iload 110 d_L_plans_108 rfl rfl) ?_
                              refine xv (x_iload_n 111 d_L_plans_110 rfl rfl) ?_
                              refine xv (x_iconst 112 d_L_plans_111 rfl) ?_
                              refine xv (x_iadd 113 d_L_plans_112 rfl) ?_
                              obtain ⟨h113, e113, P113⟩ := A_planned (E := E) (r := y) (t := (t + 1)) P99 ⟨by omega, by omega⟩ (by omega) (by omega)
                              refine xv (x_inv1 116 (as := [Value.int (zi y), Value.int (zi (t + 1))]) d_L_plans_113 rfl c_9_193 rfl (Nat.le_of_ble_eq_true rfl) (Nat.le_of_ble_eq_true rfl) (px_o P99) (Nat.le_of_ble_eq_true rfl) (Nat.le_of_ble_eq_true rfl) rfl e113) ?_
                              have q113 := rg_pl (r := y) (t := (t + 1)) hR ⟨by omega, by omega⟩ (by omega)
                              show Xv E q_m_L_plans 116 [Value.ref x, Value.int (zi t), Value.int (zi r), Value.int (zi (ahd l r t)), Value.int (zi (ahd l r (t + 1))), Value.int (zi y)] [Value.int (zi (ahd l y (t + 1)))] h113 Q
                              refine xv (x_iload_n 117 d_L_plans_116 rfl rfl) ?_
                              refine v_icmp_ne 122 120 d_L_plans_117 rfl rfl (by omega) (by omega) (by omega) (by omega) (fun k117 => ?_) (fun k117 => ?_)
                              · refine xv (x_iinc 125 d_L_plans_122 rfl rfl) ?_
                                show Xv E q_m_L_plans 125 [Value.ref x, Value.int (zi t), Value.int (zi r), Value.int (zi (ahd l r t)), Value.int (zi (ahd l r (t + 1))), Value.int (zi (y + 1))] [] h113 Q
                                refine xv (x_goto 78 d_L_plans_125 rfl) ?_
                                exact ih78 _ (by omega) (y + 1) _ (by omega) (by omega) (px_mo P113 (by omega)) rfl
                              · exact absurd ⟨k104, k117⟩ (hS y r ⟨by omega, by omega⟩ ⟨by omega, by omega⟩ (by omega) t (by omega))
                    exact L78 _ 0 _ (by omega) (by omega) (px_mo P49 (by omega)) rfl
                  · refine xv (x_aload_n 63 d_L_plans_62 rfl rfl) ?_
                    refine xv (x_iload_n 64 d_L_plans_63 rfl rfl) ?_
                    refine xv (x_iload 66 d_L_plans_64 rfl rfl) ?_
                    obtain ⟨h66, e66, P66⟩ := A_distanceV (E := E) (y := (ahd l r t)) (z := (ahd l r (t + 1))) P49 ⟨by omega, by omega⟩ ⟨by omega, by omega⟩ (by rw [far_stp hR hE_ (hJ r ⟨by omega, by omega⟩) ⟨by omega, by omega⟩ (by omega) k59]; decide)
                    rw [show far l (ahd l r t) (ahd l r (t + 1)) = 1 from far_stp hR hE_ (hJ r ⟨by omega, by omega⟩) ⟨by omega, by omega⟩ (by omega) k59] at e66
                    refine xv (x_ins1 69 (as := [Value.ref x, Value.int (zi (ahd l r t)), Value.int (zi (ahd l r (t + 1)))]) d_L_plans_66 rfl c_9_201 rfl (Nat.le_of_ble_eq_true rfl) (Nat.le_of_ble_eq_true rfl) (Nat.le_of_ble_eq_true rfl) rfl e66) ?_
                    show Xv E q_m_L_plans 69 [Value.ref x, Value.int (zi t), Value.int (zi r), Value.int (zi (ahd l r t)), Value.int (zi (ahd l r (t + 1))), b5] [Value.int (zi 1)] h66 Q
                    refine xv (x_iconst 70 d_L_plans_69 rfl) ?_
                    refine v_icmp_eq 75 73 d_L_plans_70 rfl rfl (by omega) (by omega) (by omega) (by omega) (fun k70 => ?_) (fun k70 => ?_)
                    · refine xv (x_iconst 76 d_L_plans_75 rfl) ?_
                      refine xv (x_istore 78 d_L_plans_76 rfl (Nat.le_of_ble_eq_true rfl)) ?_
                      show Xv E q_m_L_plans 78 [Value.ref x, Value.int (zi t), Value.int (zi r), Value.int (zi (ahd l r t)), Value.int (zi (ahd l r (t + 1))), Value.int (zi 0)] [] h66 Q
                      have L78 : ∀ (n_ : Nat) (y : Int) (h_78 : q_H), (0 ≤ y) → (y ≤ r) → (PX x l ls nx ct kl n c hs fa kr kd_ h0 (kb) h_78) → (r - y).toNat = n_ → Xv E q_m_L_plans 78 [Value.ref x, Value.int (zi t), Value.int (zi r), Value.int (zi (ahd l r t)), Value.int (zi (ahd l r (t + 1))), Value.int (zi y)] [] h_78 Q := by
                        intro n_
                        induction n_ using Nat.strongRecOn with
                        | _ n_ ih78 =>
                          intro y h_78 y78_0 y78_1 P_78 em
                          refine xv (x_iload 80 d_L_plans_78 rfl rfl) ?_
                          refine xv (x_iload_n 81 d_L_plans_80 rfl rfl) ?_
                          refine v_icmp_ge 128 84 d_L_plans_81 rfl rfl (by omega) (by omega) (by omega) (by omega) (fun k81 => ?_) (fun k81 => ?_)
                          · refine xv (x_iinc 131 d_L_plans_128 rfl rfl) ?_
                            show Xv E q_m_L_plans 131 [Value.ref x, Value.int (zi t), Value.int (zi (r + 1)), Value.int (zi (ahd l r t)), Value.int (zi (ahd l r (t + 1))), Value.int (zi y)] [] h_78 Q
                            refine xv (x_goto 10 d_L_plans_131 rfl) ?_
                            exact ih10 _ (by omega) (r + 1) _ _ _ _ (by omega) (by omega) (px_mo P_78 (by omega)) rfl
                          · refine xv (x_aload_n 85 d_L_plans_84 rfl rfl) ?_
                            refine xv (x_iload 87 d_L_plans_85 rfl rfl) ?_
                            refine xv (x_iload_n 88 d_L_plans_87 rfl rfl) ?_
                            obtain ⟨h88, e88, P88⟩ := A_planned (E := E) (r := y) (t := t) P_78 ⟨by omega, by omega⟩ (by omega) (by omega)
                            refine xv (x_inv1 91 (as := [Value.int (zi y), Value.int (zi t)]) d_L_plans_88 rfl c_9_193 rfl (Nat.le_of_ble_eq_true rfl) (Nat.le_of_ble_eq_true rfl) (px_o P_78) (Nat.le_of_ble_eq_true rfl) (Nat.le_of_ble_eq_true rfl) rfl e88) ?_
                            have q88 := rg_pl (r := y) (t := t) hR ⟨by omega, by omega⟩ (by omega)
                            show Xv E q_m_L_plans 91 [Value.ref x, Value.int (zi t), Value.int (zi r), Value.int (zi (ahd l r t)), Value.int (zi (ahd l r (t + 1))), Value.int (zi y)] [Value.int (zi (ahd l y t))] h88 Q
                            refine xv (x_iload_n 92 d_L_plans_91 rfl rfl) ?_
                            refine v_icmp_eq 120 95 d_L_plans_92 rfl rfl (by omega) (by omega) (by omega) (by omega) (fun k92 => ?_) (fun k92 => ?_)
                            · exact absurd k92 (hN y r ⟨by omega, by omega⟩ ⟨by omega, by omega⟩ (by omega) t (by omega))
                            · refine xv (x_aload_n 96 d_L_plans_95 rfl rfl) ?_
                              refine xv (x_iload 98 d_L_plans_96 rfl rfl) ?_
                              refine xv (x_iload_n 99 d_L_plans_98 rfl rfl) ?_
                              obtain ⟨h99, e99, P99⟩ := A_planned (E := E) (r := y) (t := t) P88 ⟨by omega, by omega⟩ (by omega) (by omega)
                              refine xv (x_inv1 102 (as := [Value.int (zi y), Value.int (zi t)]) d_L_plans_99 rfl c_9_193 rfl (Nat.le_of_ble_eq_true rfl) (Nat.le_of_ble_eq_true rfl) (px_o P88) (Nat.le_of_ble_eq_true rfl) (Nat.le_of_ble_eq_true rfl) rfl e99) ?_
                              have q99 := rg_pl (r := y) (t := t) hR ⟨by omega, by omega⟩ (by omega)
                              show Xv E q_m_L_plans 102 [Value.ref x, Value.int (zi t), Value.int (zi r), Value.int (zi (ahd l r t)), Value.int (zi (ahd l r (t + 1))), Value.int (zi y)] [Value.int (zi (ahd l y t))] h99 Q
                              refine xv (x_iload 104 d_L_plans_102 rfl rfl) ?_
                              refine v_icmp_ne 122 107 d_L_plans_104 rfl rfl (by omega) (by omega) (by omega) (by omega) (fun k104 => ?_) (fun k104 => ?_)
                              · refine xv (x_iinc 125 d_L_plans_122 rfl rfl) ?_
                                show Xv E q_m_L_plans 125 [Value.ref x, Value.int (zi t), Value.int (zi r), Value.int (zi (ahd l r t)), Value.int (zi (ahd l r (t + 1))), Value.int (zi (y + 1))] [] h99 Q
                                refine xv (x_goto 78 d_L_plans_125 rfl) ?_
                                exact ih78 _ (by omega) (y + 1) _ (by omega) (by omega) (px_mo P99 (by omega)) rfl
                              · refine xv (x_aload_n 108 d_L_plans_107 rfl rfl) ?_
                                refine xv (x_iload 110 d_L_plans_108 rfl rfl) ?_
                                refine xv (x_iload_n 111 d_L_plans_110 rfl rfl) ?_
                                refine xv (x_iconst 112 d_L_plans_111 rfl) ?_
                                refine xv (x_iadd 113 d_L_plans_112 rfl) ?_
                                obtain ⟨h113, e113, P113⟩ := A_planned (E := E) (r := y) (t := (t + 1)) P99 ⟨by omega, by omega⟩ (by omega) (by omega)
                                refine xv (x_inv1 116 (as := [Value.int (zi y), Value.int (zi (t + 1))]) d_L_plans_113 rfl c_9_193 rfl (Nat.le_of_ble_eq_true rfl) (Nat.le_of_ble_eq_true rfl) (px_o P99) (Nat.le_of_ble_eq_true rfl) (Nat.le_of_ble_eq_true rfl) rfl e113) ?_
                                have q113 := rg_pl (r := y) (t := (t + 1)) hR ⟨by omega, by omega⟩ (by omega)
                                show Xv E q_m_L_plans 116 [Value.ref x, Value.int (zi t), Value.int (zi r), Value.int (zi (ahd l r t)), Value.int (zi (ahd l r (t + 1))), Value.int (zi y)] [Value.int (zi (ahd l y (t + 1)))] h113 Q
                                refine xv (x_iload_n 117 d_L_plans_116 rfl rfl) ?_
                                refine v_icmp_ne 122 120 d_L_plans_117 rfl rfl (by omega) (by omega) (by omega) (by omega) (fun k117 => ?_) (fun k117 => ?_)
                                · refine xv (x_iinc 125 d_L_plans_122 rfl rfl) ?_
                                  show Xv E q_m_L_plans 125 [Value.ref x, Value.int (zi t), Value.int (zi r), Value.int (zi (ahd l r t)), Value.int (zi (ahd l r (t + 1))), Value.int (zi (y + 1))] [] h113 Q
                                  refine xv (x_goto 78 d_L_plans_125 rfl) ?_
                                  exact ih78 _ (by omega) (y + 1) _ (by omega) (by omega) (px_mo P113 (by omega)) rfl
                                · exact absurd ⟨k104, k117⟩ (hS y r ⟨by omega, by omega⟩ ⟨by omega, by omega⟩ (by omega) t (by omega))
                      exact L78 _ 0 _ (by omega) (by omega) (px_mo P66 (by omega)) rfl
                    · omega
        exact L10 _ 0 _ _ _ _ (by omega) (by omega) (px_mo P_2 (by omega)) rfl
  exact L2 _ 0 _ _ _ _ _ (by omega) (by omega) (px_mo P (by omega)) rfl
end DPL
