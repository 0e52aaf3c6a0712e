/-! the law's sum, walked (printed by program) -/
section F1
variable {E : q_E} {M : q_M} {h h' h0 : q_H} {x N b L : Nat} {ys : Nat → Int32} {l ls c : Int → Int} {kl : Int → Int → Int} {nx ct n hs fa kr kd_ kb k k' v y z r t i g w : Int}
variable {q f a : Int}
theorem A_accV (P : PX x l ls nx ct kl n c hs fa kr kd_ h0 (k) h) (hw : 0 ≤ w ∧ w < 17) (h1 : ¬ w = 12) (h2 : ¬ w = 13) : ∃ h', q_cl E q_m_X7_account [.ref x, .int (zi w)] h = some (.inl (some (.int (zi (accV l w)))), h') ∧ PX x l ls nx ct kl n c hs fa kr kd_ h0 (k) h' := by
  have hR := P.2.1
  have gc := rg_c hR
  have gr := rg_r hR
  have go := rg_o hR
  exact px_rd P (S_X7_account P.1.1 hR P.2.2.1.1 P.2.2.1.2.1 (by omega) (by omega)) (show accO l ct n w = .inr (accV l w) from acc_v hw h1 h2)
theorem A_robV (P : PX x l ls nx ct kl n c hs fa kr kd_ h0 (k) h) (hr : isR l r) (hw : 0 ≤ w ∧ w < 7) : ∃ h', q_cl E q_m_X7_robotOf [.ref x, .int (zi r), .int (zi w)] h = some (.inl (some (.int (zi (robV l r w)))), h') ∧ PX x l ls nx ct kl n c hs fa kr kd_ h0 (k) h' := by
  have hR := P.2.1
  have gc := rg_c hR
  have gr := rg_r hR
  have go := rg_o hR
  exact px_rd P (S_X7_robotOf P.1.1 hR P.2.2.1.1 P.2.2.1.2.1 (by omega) (by omega) (by omega) (by omega)) (show robO l r w = .inr (robV l r w) from rob_v hr hw)
theorem A_ordV (P : PX x l ls nx ct kl n c hs fa kr kd_ h0 (k) h) (hy : isO l y) (hw : 0 ≤ w ∧ w < 6) : ∃ h', q_cl E q_m_X7_orderOf [.ref x, .int (zi y), .int (zi w)] h = some (.inl (some (.int (zi (ordV l y w)))), h') ∧ PX x l ls nx ct kl n c hs fa kr kd_ h0 (k) h' := by
  have hR := P.2.1
  have gc := rg_c hR
  have gr := rg_r hR
  have go := rg_o hR
  exact px_rd P (S_X7_orderOf P.1.1 hR P.2.2.1.1 P.2.2.1.2.1 (by omega) (by omega) (by omega) (by omega)) (show ordO l y w = .inr (ordV l y w) from ord_v hy hw)
theorem P_sum (hE : q_EN E x) (P : PX x l ls nx ct kl n c hs fa kr kd_ h0 (kb) h) : ∃ r_ h', q_cl E q_m_L_sum [Value.ref x] h = some (r_, h') ∧ (r_ = .inl (some (.long (sumV l))) ∧ PX x l ls nx ct kl n c hs fa kr kd_ h0 (kb) h') := by
  suffices K : ∀ Q : q_R → q_H → Prop, (∀ r_ h', (r_ = .inl (some (.long (sumV l))) ∧ PX x l ls nx ct kl n c hs fa kr kd_ h0 (kb) h') → Q r_ h') → Xv E q_m_L_sum 0 [Value.ref x, Value.null, Value.null, Value.null, Value.null] [] h Q from K _ fun _ _ p => p
  intro Q hQ
  have hR := P.2.1
  have gc := rg_c hR
  have gr := rg_r hR
  have go := rg_o hR
  refine xv (x_ldc2_w 3 d_L_sum_0 rfl rfl (Nat.le_of_ble_eq_true rfl)) ?_
  show Xv E q_m_L_sum 3 [Value.ref x, Value.null, Value.null, Value.null, Value.null] [Value.long 7] h Q
  refine xv (x_lstore_n 4 d_L_sum_3 rfl (Nat.le_of_ble_eq_true rfl)) ?_
  show Xv E q_m_L_sum 4 [Value.ref x, Value.long 7, Value.null, Value.null, Value.null] [] h Q
  refine xv (x_iconst 5 d_L_sum_4 rfl) ?_
  refine xv (x_istore_n 6 d_L_sum_5 rfl (Nat.le_of_ble_eq_true rfl)) ?_
  show Xv E q_m_L_sum 6 [Value.ref x, Value.long 7, Value.null, Value.int (zi 0), Value.null] [] h Q
  have L6 : ∀ (n_ : Nat) (w : Int) (a6 : Int64) (h_6 : q_H), (0 ≤ w ∧ w ≤ 17) → (sm1 l = lpL (gA l) (17 - w).toNat w a6) → (PX x l ls nx ct kl n c hs fa kr kd_ h0 (kb) h_6) → (17 - w).toNat = n_ → Xv E q_m_L_sum 6 [Value.ref x, Value.long a6, Value.null, Value.int (zi w), Value.null] [] h_6 Q := by
    intro n_
    induction n_ using Nat.strongRecOn with
    | _ n_ ih6 =>
      intro w a6 h_6 y6_0 y6_1 P_6 em
      refine xv (x_iload_n 7 d_L_sum_6 rfl rfl) ?_
      refine xv (x_bipush 9 d_L_sum_7 rfl rfl) ?_
      refine v_icmp_ge 47 12 d_L_sum_9 rfl rfl (by omega) (by omega) (by omega) (by omega) (fun k9 => ?_) (fun k9 => ?_)
      · refine xv (x_iconst 48 d_L_sum_47 rfl) ?_
        refine xv (x_istore_n 49 d_L_sum_48 rfl (Nat.le_of_ble_eq_true rfl)) ?_
        show Xv E q_m_L_sum 49 [Value.ref x, Value.long a6, Value.null, Value.int (zi 0), Value.null] [] h_6 Q
        have L49 : ∀ (n_ : Nat) (y : Int) (a49 : Int64) (h_49 : q_H), (0 ≤ y ∧ y ≤ cs l) → (sm2 l = lpL (gB l) (cs l - y).toNat y a49) → (PX x l ls nx ct kl n c hs fa kr kd_ h0 (kb) h_49) → (cs l - y).toNat = n_ → Xv E q_m_L_sum 49 [Value.ref x, Value.long a49, Value.null, Value.int (zi y), Value.null] [] h_49 Q := by
          intro n_
          induction n_ using Nat.strongRecOn with
          | _ n_ ih49 =>
            intro y a49 h_49 y49_0 y49_1 P_49 em
            refine xv (x_iload_n 50 d_L_sum_49 rfl rfl) ?_
            refine xv (x_aload_n 51 d_L_sum_50 rfl rfl) ?_
            obtain ⟨h51, e51, P51⟩ := A_cells (E := E)  P_49 
            refine xv (x_ins1 54 (as := [Value.ref x]) d_L_sum_51 rfl c_9_145 rfl (Nat.le_of_ble_eq_true rfl) (Nat.le_of_ble_eq_true rfl) (Nat.le_of_ble_eq_true rfl) rfl e51) ?_
            show Xv E q_m_L_sum 54 [Value.ref x, Value.long a49, Value.null, Value.int (zi y), Value.null] [Value.int (zi (cs l)), Value.int (zi y)] h51 Q
            refine v_icmp_ge 88 57 d_L_sum_54 rfl rfl (by omega) (by omega) (by omega) (by omega) (fun k54 => ?_) (fun k54 => ?_)
            · refine xv (x_iconst 89 d_L_sum_88 rfl) ?_
              refine xv (x_istore_n 90 d_L_sum_89 rfl (Nat.le_of_ble_eq_true rfl)) ?_
              show Xv E q_m_L_sum 90 [Value.ref x, Value.long a49, Value.null, Value.int (zi 0), Value.null] [] h51 Q
              have L90 : ∀ (n_ : Nat) (r : Int) (a90 : Int64) (b4 : Value) (h_90 : q_H), (0 ≤ r ∧ r ≤ l 3) → (sm3 l = lpL (gC l) (l 3 - r).toNat r a90) → (PX x l ls nx ct kl n c hs fa kr kd_ h0 (kb) h_90) → (l 3 - r).toNat = n_ → Xv E q_m_L_sum 90 [Value.ref x, Value.long a90, Value.null, Value.int (zi r), b4] [] h_90 Q := by
                intro n_
                induction n_ using Nat.strongRecOn with
                | _ n_ ih90 =>
                  intro r a90 b4 h_90 y90_0 y90_1 P_90 em
                  refine xv (x_iload_n 91 d_L_sum_90 rfl rfl) ?_
                  refine xv (x_aload_n 92 d_L_sum_91 rfl rfl) ?_
                  refine xv (x_iconst 93 d_L_sum_92 rfl) ?_
                  obtain ⟨h93, e93, P93⟩ := A_account2 (E := E)  P_90 
                  refine xv (x_inv1 96 (as := [Value.int (zi 2)]) d_L_sum_93 rfl c_9_109 rfl (Nat.le_of_ble_eq_true rfl) (Nat.le_of_ble_eq_true rfl) (px_o P_90) (Nat.le_of_ble_eq_true rfl) (Nat.le_of_ble_eq_true rfl) rfl e93) ?_
                  have q93 := rg_n2 hR
                  show Xv E q_m_L_sum 96 [Value.ref x, Value.long a90, Value.null, Value.int (zi r), b4] [Value.int (zi (l 3)), Value.int (zi r)] h93 Q
                  refine v_icmp_ge 167 99 d_L_sum_96 rfl rfl (by omega) (by omega) (by omega) (by omega) (fun k96 => ?_) (fun k96 => ?_)
                  · refine xv (x_iconst 168 d_L_sum_167 rfl) ?_
                    refine xv (x_istore_n 169 d_L_sum_168 rfl (Nat.le_of_ble_eq_true rfl)) ?_
                    show Xv E q_m_L_sum 169 [Value.ref x, Value.long a90, Value.null, Value.int (zi 0), b4] [] h93 Q
                    have L169 : ∀ (n_ : Nat) (y : Int) (a169 : Int64) (c4 : Value) (h_169 : q_H), (0 ≤ y ∧ y ≤ l 4) → (sumV l = lpL (gD l) (l 4 - y).toNat y a169) → (PX x l ls nx ct kl n c hs fa kr kd_ h0 (kb) h_169) → (l 4 - y).toNat = n_ → Xv E q_m_L_sum 169 [Value.ref x, Value.long a169, Value.null, Value.int (zi y), c4] [] h_169 Q := by
                      intro n_
                      induction n_ using Nat.strongRecOn with
                      | _ n_ ih169 =>
                        intro y a169 c4 h_169 y169_0 y169_1 P_169 em
                        refine xv (x_iload_n 170 d_L_sum_169 rfl rfl) ?_
                        refine xv (x_aload_n 171 d_L_sum_170 rfl rfl) ?_
                        refine xv (x_iconst 172 d_L_sum_171 rfl) ?_
                        obtain ⟨h172, e172, P172⟩ := A_account3 (E := E)  P_169 
                        refine xv (x_inv1 175 (as := [Value.int (zi 3)]) d_L_sum_172 rfl c_9_109 rfl (Nat.le_of_ble_eq_true rfl) (Nat.le_of_ble_eq_true rfl) (px_o P_169) (Nat.le_of_ble_eq_true rfl) (Nat.le_of_ble_eq_true rfl) rfl e172) ?_
                        have q172 := rg_n3 hR
                        show Xv E q_m_L_sum 175 [Value.ref x, Value.long a169, Value.null, Value.int (zi y), c4] [Value.int (zi (l 4)), Value.int (zi y)] h172 Q
                        refine v_icmp_ge 215 178 d_L_sum_175 rfl rfl (by omega) (by omega) (by omega) (by omega) (fun k175 => ?_) (fun k175 => ?_)
                        · refine xv (x_lload_n 216 d_L_sum_215 rfl rfl) ?_
                          refine xv_r (x_lreturn d_L_sum_216 rfl) ?_
                          have ev : sumV l = a169 := y169_1.trans (lpL_e (by omega))
                          rw [← ev]
                          exact hQ _ _ ⟨rfl, P172⟩
                        · refine xv (x_iconst 179 d_L_sum_178 rfl) ?_
                          refine xv (x_istore 181 d_L_sum_179 rfl (Nat.le_of_ble_eq_true rfl)) ?_
                          show Xv E q_m_L_sum 181 [Value.ref x, Value.long a169, Value.null, Value.int (zi y), Value.int (zi 0)] [] h172 Q
                          have L181 : ∀ (n_ : Nat) (w : Int) (a181 : Int64) (h_181 : q_H), (0 ≤ w ∧ w ≤ 6) → (gD l y a169 = lpL (gO l y) (6 - w).toNat w a181) → (PX x l ls nx ct kl n c hs fa kr kd_ h0 (kb) h_181) → (6 - w).toNat = n_ → Xv E q_m_L_sum 181 [Value.ref x, Value.long a181, Value.null, Value.int (zi y), Value.int (zi w)] [] h_181 Q := by
                            intro n_
                            induction n_ using Nat.strongRecOn with
                            | _ n_ ih181 =>
                              intro w a181 h_181 y181_0 y181_1 P_181 em
                              refine xv (x_iload 183 d_L_sum_181 rfl rfl) ?_
                              refine xv (x_bipush 185 d_L_sum_183 rfl rfl) ?_
                              refine v_icmp_ge 209 188 d_L_sum_185 rfl rfl (by omega) (by omega) (by omega) (by omega) (fun k185 => ?_) (fun k185 => ?_)
                              · refine xv (x_iinc 212 d_L_sum_209 rfl rfl) ?_
                                show Xv E q_m_L_sum 212 [Value.ref x, Value.long a181, Value.null, Value.int (zi (y + 1)), Value.int (zi w)] [] h_181 Q
                                refine xv (x_goto 169 d_L_sum_212 rfl) ?_
                                have e181 : gD l y a169 = a181 := y181_1.trans (lpL_e (by omega))
                                exact ih169 _ (by omega) (y + 1) a181 _ _ (by omega) (y169_1.trans ((lpL_b (by omega)).trans (congrArg (lpL _ _ _) e181))) (px_mo P_181 (by omega)) rfl
                              · refine xv (x_ldc2_w 191 d_L_sum_188 rfl rfl (Nat.le_of_ble_eq_true rfl)) ?_
                                show Xv E q_m_L_sum 191 [Value.ref x, Value.long a181, Value.null, Value.int (zi y), Value.int (zi w)] [Value.long 47] h_181 Q
                                refine xv (x_lload_n 192 d_L_sum_191 rfl rfl) ?_
                                refine xv (x_lmul 193 d_L_sum_192 rfl) ?_
                                refine xv (x_aload_n 194 d_L_sum_193 rfl rfl) ?_
                                refine xv (x_iload_n 195 d_L_sum_194 rfl rfl) ?_
                                refine xv (x_iload 197 d_L_sum_195 rfl rfl) ?_
                                obtain ⟨h197, e197, P197⟩ := A_ordV (E := E) (y := y) (w := w) P_181 ⟨by omega, by omega⟩ ⟨by omega, by omega⟩
                                refine xv (x_inv1 200 (as := [Value.int (zi y), Value.int (zi w)]) d_L_sum_197 rfl c_9_225 rfl (Nat.le_of_ble_eq_true rfl) (Nat.le_of_ble_eq_true rfl) (px_o P_181) (Nat.le_of_ble_eq_true rfl) (Nat.le_of_ble_eq_true rfl) rfl e197) ?_
                                show Xv E q_m_L_sum 200 [Value.ref x, Value.long a181, Value.null, Value.int (zi y), Value.int (zi w)] [Value.int (zi (ordV l y w)), Value.long (47 * a181)] h197 Q
                                refine xv (x_i2l 201 d_L_sum_200 rfl) ?_
                                refine xv (x_ladd 202 d_L_sum_201 rfl) ?_
                                refine xv (x_lstore_n 203 d_L_sum_202 rfl (Nat.le_of_ble_eq_true rfl)) ?_
                                show Xv E q_m_L_sum 203 [Value.ref x, Value.long ((47 * a181) + ((zi (ordV l y w)).toInt64)), Value.null, Value.int (zi y), Value.int (zi w)] [] h197 Q
                                refine xv (x_iinc 206 d_L_sum_203 rfl rfl) ?_
                                show Xv E q_m_L_sum 206 [Value.ref x, Value.long ((47 * a181) + ((zi (ordV l y w)).toInt64)), Value.null, Value.int (zi y), Value.int (zi (w + 1))] [] h197 Q
                                refine xv (x_goto 181 d_L_sum_206 rfl) ?_
                                exact ih181 _ (by omega) (w + 1) ((47 * a181) + ((zi (ordV l y w)).toInt64)) _ (by omega) (y181_1.trans ((lpL_b (by omega)).trans (congrArg (lpL _ _ _) rfl))) (px_mo P197 (by omega)) rfl
                          exact L181 _ 0 a169 _ (by omega) rfl (px_mo P172 (by omega)) rfl
                    have e90 : sm3 l = a90 := y90_1.trans (lpL_e (by omega))
                    exact L169 _ 0 a90 _ _ (by omega) (by rw [← e90]; rfl) (px_mo P93 (by omega)) rfl
                  · refine xv (x_iconst 100 d_L_sum_99 rfl) ?_
                    refine xv (x_istore 102 d_L_sum_100 rfl (Nat.le_of_ble_eq_true rfl)) ?_
                    show Xv E q_m_L_sum 102 [Value.ref x, Value.long a90, Value.null, Value.int (zi r), Value.int (zi 0)] [] h93 Q
                    have L102 : ∀ (n_ : Nat) (w : Int) (a102 : Int64) (h_102 : q_H), (0 ≤ w ∧ w ≤ 7) → (lpL (gR l r) ((7 : Int) - 0).toNat 0 a90 = lpL (gR l r) (7 - w).toNat w a102) → (PX x l ls nx ct kl n c hs fa kr kd_ h0 (kb) h_102) → (7 - w).toNat = n_ → Xv E q_m_L_sum 102 [Value.ref x, Value.long a102, Value.null, Value.int (zi r), Value.int (zi w)] [] h_102 Q := by
                      intro n_
                      induction n_ using Nat.strongRecOn with
                      | _ n_ ih102 =>
                        intro w a102 h_102 y102_0 y102_1 P_102 em
                        refine xv (x_iload 104 d_L_sum_102 rfl rfl) ?_
                        refine xv (x_bipush 106 d_L_sum_104 rfl rfl) ?_
                        refine v_icmp_ge 130 109 d_L_sum_106 rfl rfl (by omega) (by omega) (by omega) (by omega) (fun k106 => ?_) (fun k106 => ?_)
                        · refine xv (x_iconst 131 d_L_sum_130 rfl) ?_
                          refine xv (x_istore 133 d_L_sum_131 rfl (Nat.le_of_ble_eq_true rfl)) ?_
                          show Xv E q_m_L_sum 133 [Value.ref x, Value.long a102, Value.null, Value.int (zi r), Value.int (zi 1)] [] h_102 Q
                          have L133 : ∀ (n_ : Nat) (t : Int) (a133 : Int64) (h_133 : q_H), (1 ≤ t ∧ t ≤ 12) → (gC l r a90 = lpL (gP l r) (12 - t).toNat t a133) → (PX x l ls nx ct kl n c hs fa kr kd_ h0 (kb) h_133) → (12 - t).toNat = n_ → Xv E q_m_L_sum 133 [Value.ref x, Value.long a133, Value.null, Value.int (zi r), Value.int (zi t)] [] h_133 Q := by
                            intro n_
                            induction n_ using Nat.strongRecOn with
                            | _ n_ ih133 =>
                              intro t a133 h_133 y133_0 y133_1 P_133 em
                              refine xv (x_iload 135 d_L_sum_133 rfl rfl) ?_
                              refine xv (x_bipush 137 d_L_sum_135 rfl rfl) ?_
                              refine v_icmp_ge 161 140 d_L_sum_137 rfl rfl (by omega) (by omega) (by omega) (by omega) (fun k137 => ?_) (fun k137 => ?_)
                              · refine xv (x_iinc 164 d_L_sum_161 rfl rfl) ?_
                                show Xv E q_m_L_sum 164 [Value.ref x, Value.long a133, Value.null, Value.int (zi (r + 1)), Value.int (zi t)] [] h_133 Q
                                refine xv (x_goto 90 d_L_sum_164 rfl) ?_
                                have e133 : gC l r a90 = a133 := y133_1.trans (lpL_e (by omega))
                                exact ih90 _ (by omega) (r + 1) a133 _ _ (by omega) (y90_1.trans ((lpL_b (by omega)).trans (congrArg (lpL _ _ _) e133))) (px_mo P_133 (by omega)) rfl
                              · refine xv (x_ldc2_w 143 d_L_sum_140 rfl rfl (Nat.le_of_ble_eq_true rfl)) ?_
                                show Xv E q_m_L_sum 143 [Value.ref x, Value.long a133, Value.null, Value.int (zi r), Value.int (zi t)] [Value.long 43] h_133 Q
                                refine xv (x_lload_n 144 d_L_sum_143 rfl rfl) ?_
                                refine xv (x_lmul 145 d_L_sum_144 rfl) ?_
                                refine xv (x_aload_n 146 d_L_sum_145 rfl rfl) ?_
                                refine xv (x_iload_n 147 d_L_sum_146 rfl rfl) ?_
                                refine xv (x_iload 149 d_L_sum_147 rfl rfl) ?_
                                obtain ⟨h149, e149, P149⟩ := A_planned (E := E) (r := r) (t := t) P_133 ⟨by omega, by omega⟩ (by omega) (by omega)
                                refine xv (x_inv1 152 (as := [Value.int (zi r), Value.int (zi t)]) d_L_sum_149 rfl c_9_193 rfl (Nat.le_of_ble_eq_true rfl) (Nat.le_of_ble_eq_true rfl) (px_o P_133) (Nat.le_of_ble_eq_true rfl) (Nat.le_of_ble_eq_true rfl) rfl e149) ?_
                                show Xv E q_m_L_sum 152 [Value.ref x, Value.long a133, Value.null, Value.int (zi r), Value.int (zi t)] [Value.int (zi (ahd l r t)), Value.long (43 * a133)] h149 Q
                                refine xv (x_i2l 153 d_L_sum_152 rfl) ?_
                                refine xv (x_ladd 154 d_L_sum_153 rfl) ?_
                                refine xv (x_lstore_n 155 d_L_sum_154 rfl (Nat.le_of_ble_eq_true rfl)) ?_
                                show Xv E q_m_L_sum 155 [Value.ref x, Value.long ((43 * a133) + ((zi (ahd l r t)).toInt64)), Value.null, Value.int (zi r), Value.int (zi t)] [] h149 Q
                                refine xv (x_iinc 158 d_L_sum_155 rfl rfl) ?_
                                show Xv E q_m_L_sum 158 [Value.ref x, Value.long ((43 * a133) + ((zi (ahd l r t)).toInt64)), Value.null, Value.int (zi r), Value.int (zi (t + 1))] [] h149 Q
                                refine xv (x_goto 133 d_L_sum_158 rfl) ?_
                                exact ih133 _ (by omega) (t + 1) ((43 * a133) + ((zi (ahd l r t)).toInt64)) _ (by omega) (y133_1.trans ((lpL_b (by omega)).trans (congrArg (lpL _ _ _) rfl))) (px_mo P149 (by omega)) rfl
                          have e102 : lpL (gR l r) ((7 : Int) - 0).toNat 0 a90 = a102 := y102_1.trans (lpL_e (by omega))
                          exact L133 _ 1 a102 _ (by omega) (congrArg (lpL (gP l r) _ _) e102) (px_mo P_102 (by omega)) rfl
                        · refine xv (x_ldc2_w 112 d_L_sum_109 rfl rfl (Nat.le_of_ble_eq_true rfl)) ?_
                          show Xv E q_m_L_sum 112 [Value.ref x, Value.long a102, Value.null, Value.int (zi r), Value.int (zi w)] [Value.long 41] h_102 Q
                          refine xv (x_lload_n 113 d_L_sum_112 rfl rfl) ?_
                          refine xv (x_lmul 114 d_L_sum_113 rfl) ?_
                          refine xv (x_aload_n 115 d_L_sum_114 rfl rfl) ?_
                          refine xv (x_iload_n 116 d_L_sum_115 rfl rfl) ?_
                          refine xv (x_iload 118 d_L_sum_116 rfl rfl) ?_
                          obtain ⟨h118, e118, P118⟩ := A_robV (E := E) (r := r) (w := w) P_102 ⟨by omega, by omega⟩ ⟨by omega, by omega⟩
                          refine xv (x_inv1 121 (as := [Value.int (zi r), Value.int (zi w)]) d_L_sum_118 rfl c_9_203 rfl (Nat.le_of_ble_eq_true rfl) (Nat.le_of_ble_eq_true rfl) (px_o P_102) (Nat.le_of_ble_eq_true rfl) (Nat.le_of_ble_eq_true rfl) rfl e118) ?_
                          show Xv E q_m_L_sum 121 [Value.ref x, Value.long a102, Value.null, Value.int (zi r), Value.int (zi w)] [Value.int (zi (robV l r w)), Value.long (41 * a102)] h118 Q
                          refine xv (x_i2l 122 d_L_sum_121 rfl) ?_
                          refine xv (x_ladd 123 d_L_sum_122 rfl) ?_
                          refine xv (x_lstore_n 124 d_L_sum_123 rfl (Nat.le_of_ble_eq_true rfl)) ?_
                          show Xv E q_m_L_sum 124 [Value.ref x, Value.long ((41 * a102) + ((zi (robV l r w)).toInt64)), Value.null, Value.int (zi r), Value.int (zi w)] [] h118 Q
                          refine xv (x_iinc 127 d_L_sum_124 rfl rfl) ?_
                          show Xv E q_m_L_sum 127 [Value.ref x, Value.long ((41 * a102) + ((zi (robV l r w)).toInt64)), Value.null, Value.int (zi r), Value.int (zi (w + 1))] [] h118 Q
                          refine xv (x_goto 102 d_L_sum_127 rfl) ?_
                          exact ih102 _ (by omega) (w + 1) ((41 * a102) + ((zi (robV l r w)).toInt64)) _ (by omega) (y102_1.trans ((lpL_b (by omega)).trans (congrArg (lpL _ _ _) rfl))) (px_mo P118 (by omega)) rfl
                    exact L102 _ 0 a90 _ (by omega) rfl (px_mo P93 (by omega)) rfl
              have e49 : sm2 l = a49 := y49_1.trans (lpL_e (by omega))
              exact L90 _ 0 a49 _ _ (by omega) (by rw [← e49]; rfl) (px_mo P51 (by omega)) rfl
            · refine xv (x_ldc2_w 60 d_L_sum_57 rfl rfl (Nat.le_of_ble_eq_true rfl)) ?_
              show Xv E q_m_L_sum 60 [Value.ref x, Value.long a49, Value.null, Value.int (zi y), Value.null] [Value.long 37] h51 Q
              refine xv (x_lload_n 61 d_L_sum_60 rfl rfl) ?_
              refine xv (x_lmul 62 d_L_sum_61 rfl) ?_
              refine xv (x_aload_n 63 d_L_sum_62 rfl rfl) ?_
              refine xv (x_iload_n 64 d_L_sum_63 rfl rfl) ?_
              obtain ⟨h64, e64, P64⟩ := A_letter (E := E) (y := y) P51 hE ⟨by omega, by omega⟩
              refine xv (x_inv1 67 (as := [Value.int (zi y)]) d_L_sum_64 rfl c_9_241 rfl (Nat.le_of_ble_eq_true rfl) (Nat.le_of_ble_eq_true rfl) (px_o P51) (Nat.le_of_ble_eq_true rfl) (Nat.le_of_ble_eq_true rfl) rfl e64) ?_
              show Xv E q_m_L_sum 67 [Value.ref x, Value.long a49, Value.null, Value.int (zi y), Value.null] [Value.int (zi (letV l y)), Value.long (37 * a49)] h64 Q
              refine xv (x_i2l 68 d_L_sum_67 rfl) ?_
              refine xv (x_ladd 69 d_L_sum_68 rfl) ?_
              refine xv (x_sipush 72 d_L_sum_69 rfl rfl) ?_
              refine xv (x_aload_n 73 d_L_sum_72 rfl rfl) ?_
              refine xv (x_iload_n 74 d_L_sum_73 rfl rfl) ?_
              refine xv (x_iconst 75 d_L_sum_74 rfl) ?_
              obtain ⟨h75, e75, P75⟩ := A_cell1 (E := E) (y := y) P64 ⟨by omega, by omega⟩
              refine xv (x_inv1 78 (as := [Value.int (zi y), Value.int (zi 1)]) d_L_sum_75 rfl c_9_196 rfl (Nat.le_of_ble_eq_true rfl) (Nat.le_of_ble_eq_true rfl) (px_o P64) (Nat.le_of_ble_eq_true rfl) (Nat.le_of_ble_eq_true rfl) rfl e75) ?_
              have q75 := bI_r (ent l y)
              show Xv E q_m_L_sum 78 [Value.ref x, Value.long a49, Value.null, Value.int (zi y), Value.null] [Value.int (zi (bI (ent l y))), Value.int (zi 1000), Value.long ((37 * a49) + ((zi (letV l y)).toInt64))] h75 Q
              refine xv (x_imul 79 d_L_sum_78 rfl) ?_
              refine xv (x_i2l 80 d_L_sum_79 rfl) ?_
              refine xv (x_ladd 81 d_L_sum_80 rfl) ?_
              refine xv (x_lstore_n 82 d_L_sum_81 rfl (Nat.le_of_ble_eq_true rfl)) ?_
              show Xv E q_m_L_sum 82 [Value.ref x, Value.long (((37 * a49) + ((zi (letV l y)).toInt64)) + ((zi (1000 * (bI (ent l y)))).toInt64)), Value.null, Value.int (zi y), Value.null] [] h75 Q
              refine xv (x_iinc 85 d_L_sum_82 rfl rfl) ?_
              show Xv E q_m_L_sum 85 [Value.ref x, Value.long (((37 * a49) + ((zi (letV l y)).toInt64)) + ((zi (1000 * (bI (ent l y)))).toInt64)), Value.null, Value.int (zi (y + 1)), Value.null] [] h75 Q
              refine xv (x_goto 49 d_L_sum_85 rfl) ?_
              exact ih49 _ (by omega) (y + 1) (((37 * a49) + ((zi (letV l y)).toInt64)) + ((zi (1000 * (bI (ent l y)))).toInt64)) _ (by omega) (y49_1.trans ((lpL_b (by omega)).trans (congrArg (lpL _ _ _) rfl))) (px_mo P75 (by omega)) rfl
        have e6 : sm1 l = a6 := y6_1.trans (lpL_e (by omega))
        exact L49 _ 0 a6 _ (by omega) (by rw [← e6]; rfl) (px_mo P_6 (by omega)) rfl
      · refine xv (x_iload_n 13 d_L_sum_12 rfl rfl) ?_
        refine xv (x_bipush 15 d_L_sum_13 rfl rfl) ?_
        refine v_icmp_eq 24 18 d_L_sum_15 rfl rfl (by omega) (by omega) (by omega) (by omega) (fun k15 => ?_) (fun k15 => ?_)
        · refine xv (x_lload_n 25 d_L_sum_24 rfl rfl) ?_
          refine xv (x_goto 40 d_L_sum_25 rfl) ?_
          refine xv (x_lstore_n 41 d_L_sum_40 rfl (Nat.le_of_ble_eq_true rfl)) ?_
          show Xv E q_m_L_sum 41 [Value.ref x, Value.long a6, Value.null, Value.int (zi w), Value.null] [] h_6 Q
          refine xv (x_iinc 44 d_L_sum_41 rfl rfl) ?_
          show Xv E q_m_L_sum 44 [Value.ref x, Value.long a6, Value.null, Value.int (zi (w + 1)), Value.null] [] h_6 Q
          refine xv (x_goto 6 d_L_sum_44 rfl) ?_
          exact ih6 _ (by omega) (w + 1) a6 _ (by omega) (y6_1.trans ((lpL_b (by omega)).trans (congrArg (lpL _ _ _) (if_pos (by omega))))) (px_mo P_6 (by omega)) rfl
        · refine xv (x_iload_n 19 d_L_sum_18 rfl rfl) ?_
          refine xv (x_bipush 21 d_L_sum_19 rfl rfl) ?_
          refine v_icmp_ne 28 24 d_L_sum_21 rfl rfl (by omega) (by omega) (by omega) (by omega) (fun k21 => ?_) (fun k21 => ?_)
          · refine xv (x_ldc2_w 31 d_L_sum_28 rfl rfl (Nat.le_of_ble_eq_true rfl)) ?_
            show Xv E q_m_L_sum 31 [Value.ref x, Value.long a6, Value.null, Value.int (zi w), Value.null] [Value.long 31] h_6 Q
            refine xv (x_lload_n 32 d_L_sum_31 rfl rfl) ?_
            refine xv (x_lmul 33 d_L_sum_32 rfl) ?_
            refine xv (x_aload_n 34 d_L_sum_33 rfl rfl) ?_
            refine xv (x_iload_n 35 d_L_sum_34 rfl rfl) ?_
            obtain ⟨h35, e35, P35⟩ := A_accV (E := E) (w := w) P_6 ⟨by omega, by omega⟩ (by omega) (by omega)
            refine xv (x_inv1 38 (as := [Value.int (zi w)]) d_L_sum_35 rfl c_9_109 rfl (Nat.le_of_ble_eq_true rfl) (Nat.le_of_ble_eq_true rfl) (px_o P_6) (Nat.le_of_ble_eq_true rfl) (Nat.le_of_ble_eq_true rfl) rfl e35) ?_
            show Xv E q_m_L_sum 38 [Value.ref x, Value.long a6, Value.null, Value.int (zi w), Value.null] [Value.int (zi (accV l w)), Value.long (31 * a6)] h35 Q
            refine xv (x_i2l 39 d_L_sum_38 rfl) ?_
            refine xv (x_ladd 40 d_L_sum_39 rfl) ?_
            refine xv (x_lstore_n 41 d_L_sum_40 rfl (Nat.le_of_ble_eq_true rfl)) ?_
            show Xv E q_m_L_sum 41 [Value.ref x, Value.long ((31 * a6) + ((zi (accV l w)).toInt64)), Value.null, Value.int (zi w), Value.null] [] h35 Q
            refine xv (x_iinc 44 d_L_sum_41 rfl rfl) ?_
            show Xv E q_m_L_sum 44 [Value.ref x, Value.long ((31 * a6) + ((zi (accV l w)).toInt64)), Value.null, Value.int (zi (w + 1)), Value.null] [] h35 Q
            refine xv (x_goto 6 d_L_sum_44 rfl) ?_
            exact ih6 _ (by omega) (w + 1) ((31 * a6) + ((zi (accV l w)).toInt64)) _ (by omega) (y6_1.trans ((lpL_b (by omega)).trans (congrArg (lpL _ _ _) (if_neg (by omega))))) (px_mo P35 (by omega)) rfl
          · refine xv (x_lload_n 25 d_L_sum_24 rfl rfl) ?_
            refine xv (x_goto 40 d_L_sum_25 rfl) ?_
            refine xv (x_lstore_n 41 d_L_sum_40 rfl (Nat.le_of_ble_eq_true rfl)) ?_
            show Xv E q_m_L_sum 41 [Value.ref x, Value.long a6, Value.null, Value.int (zi w), Value.null] [] h_6 Q
            refine xv (x_iinc 44 d_L_sum_41 rfl rfl) ?_
            show Xv E q_m_L_sum 44 [Value.ref x, Value.long a6, Value.null, Value.int (zi (w + 1)), Value.null] [] h_6 Q
            refine xv (x_goto 6 d_L_sum_44 rfl) ?_
            exact ih6 _ (by omega) (w + 1) a6 _ (by omega) (y6_1.trans ((lpL_b (by omega)).trans (congrArg (lpL _ _ _) (if_pos (by omega))))) (px_mo P_6 (by omega)) rfl
  exact L6 _ 0 7 _ (by omega) rfl (px_mo P (by omega)) rfl
end F1
