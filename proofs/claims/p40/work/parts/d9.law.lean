/-! the law's check of accounts (printed by program) -/
section DAC
variable {E : q_E} {M : q_M} {h h' h0 : q_H} {x N b L : Nat} {ys : Nat → Int32} {l ls c : Int → Int} {kl : Int → Int → Int} {nx ct n hs fa kr kd_ kb k k' v y z r t i g w : Int}
variable {T p q f a : Int} {m : Int → Int}
theorem A_loaded (P : PX x l ls nx ct kl n c hs fa kr kd_ h0 (k) h) (h3 : 0 < l 3) : q_cl E q_m_X7_loaded [.ref x] h = some (.inl (some (.float (FP.fdiv (FP.i2f (zi (ldn l))) (FP.i2f (zi (l 3)))))), h) := by
  obtain ⟨r, h', e, e1, e2⟩ := S_X7_loaded (E := E) P.1.1 P.2.1 P.2.2.1.1 P.2.2.1.2.1
  have q : ldO l = .inr (.float (FP.fdiv (FP.i2f (zi (ldn l))) (FP.i2f (zi (l 3))))) := if_neg (by omega)
  rw [q] at e1 e2
  rw [e1, e2] at e
  exact e
theorem A_lateness (P : PX x l ls nx ct kl n c hs fa kr kd_ h0 (k) h) (h3 : 0 < oin l 2) : q_cl E q_m_X7_lateness [.ref x] h = some (.inl (some (.double (FP.ddiv (FP.i2d (zi (lts l))) (FP.i2d (zi (oin l 2)))))), h) := by
  obtain ⟨r, h', e, e1, e2⟩ := S_X7_lateness (E := E) P.1.1 P.2.1 P.2.2.1.1 P.2.2.1.2.1
  have q : ltO l = .inr (.double (FP.ddiv (FP.i2d (zi (lts l))) (FP.i2d (zi (oin l 2))))) := if_neg (by omega)
  rw [q] at e1 e2
  rw [e1, e2] at e
  exact e
theorem P_accounts (hT : StR T l m) (hO : JO l) (P : PX x l ls nx ct kl n c hs fa kr kd_ h0 (kb) h) : ∃ r_ h', q_cl E q_m_L_accounts [Value.ref x] h = some (r_, h') ∧ (r_ = .inl (some (.int (zi 1))) ∧ PX x l ls nx ct kl n c hs fa kr kd_ h0 (kb) h') := by
  suffices K : ∀ Q : q_R → q_H → Prop, (∀ r_ h', (r_ = .inl (some (.int (zi 1))) ∧ PX x l ls nx ct kl n c hs fa kr kd_ h0 (kb) h') → Q r_ h') → Xv E q_m_L_accounts 0 [Value.ref x, Value.null, Value.null, Value.null, Value.null, Value.null, Value.null] [] h Q from K _ fun _ _ p => p
  intro Q hQ
  have hR := P.2.1
  have gc := rg_c hR
  have gr := rg_r hR
  have go := rg_o hR
  refine xv (x_iconst 1 d_L_accounts_0 rfl) ?_
  refine xv (x_istore_n 2 d_L_accounts_1 rfl (Nat.le_of_ble_eq_true rfl)) ?_
  show Xv E q_m_L_accounts 2 [Value.ref x, Value.int (zi 0), Value.null, Value.null, Value.null, Value.null, Value.null] [] h Q
  refine xv (x_iconst 3 d_L_accounts_2 rfl) ?_
  refine xv (x_istore_n 4 d_L_accounts_3 rfl (Nat.le_of_ble_eq_true rfl)) ?_
  show Xv E q_m_L_accounts 4 [Value.ref x, Value.int (zi 0), Value.int (zi 0), Value.null, Value.null, Value.null, Value.null] [] h Q
  refine xv (x_iconst 5 d_L_accounts_4 rfl) ?_
  refine xv (x_istore_n 6 d_L_accounts_5 rfl (Nat.le_of_ble_eq_true rfl)) ?_
  show Xv E q_m_L_accounts 6 [Value.ref x, Value.int (zi 0), Value.int (zi 0), Value.int (zi 0), Value.null, Value.null, Value.null] [] h Q
  refine xv (x_iconst 7 d_L_accounts_6 rfl) ?_
  refine xv (x_istore 9 d_L_accounts_7 rfl (Nat.le_of_ble_eq_true rfl)) ?_
  show Xv E q_m_L_accounts 9 [Value.ref x, Value.int (zi 0), Value.int (zi 0), Value.int (zi 0), Value.int (zi 0), Value.null, Value.null] [] h Q
  have L9 : ∀ (n_ : Nat) (r : Int) (p : Int) (q : Int) (w : Int) (a5 : Value) (a6 : Value) (h_9 : q_H), (0 ≤ r ∧ r ≤ l 3) → (p = spP (fSt l) r) → (q = spP (fBa l) r) → (w = spP (fLd l) r) → (PX x l ls nx ct kl n c hs fa kr kd_ h0 (kb) h_9) → (l 3 - r).toNat = n_ → Xv E q_m_L_accounts 9 [Value.ref x, Value.int (zi p), Value.int (zi q), Value.int (zi w), Value.int (zi r), a5, a6] [] h_9 Q := by
    intro n_
    induction n_ using Nat.strongRecOn with
    | _ n_ ih9 =>
      intro r p q w a5 a6 h_9 y9_0 y9_1 y9_2 y9_3 P_9 em
      have c1 := b_st hR y9_0
      have c2 := b_ba hR y9_0
      have c3 := b_ld hR y9_0
      have d1 := spP_s (f := fSt l) y9_0.1
      have d2 := spP_s (f := fBa l) y9_0.1
      have d3 := spP_s (f := fLd l) y9_0.1
      have i1 : fSt l r = rb l r 5 := rfl
      have i2 : fBa l r = rb l r 1 := rfl
      have i3 : fLd l r = bI (isO l (rb l r 2) ∧ 0 < ob l (rb l r 2) 2) := rfl
      refine xv (x_iload 11 d_L_accounts_9 rfl rfl) ?_
      refine xv (x_aload_n 12 d_L_accounts_11 rfl rfl) ?_
      refine xv (x_iconst 13 d_L_accounts_12 rfl) ?_
      obtain ⟨h13, e13, P13⟩ := A_account2 (E := E)  P_9 
      refine xv (x_inv1 16 (as := [Value.int (zi 2)]) d_L_accounts_13 rfl c_9_109 rfl (Nat.le_of_ble_eq_true rfl) (Nat.le_of_ble_eq_true rfl) (px_o P_9) (Nat.le_of_ble_eq_true rfl) (Nat.le_of_ble_eq_true rfl) rfl e13) ?_
      have q13 := rg_n2 hR
      show Xv E q_m_L_accounts 16 [Value.ref x, Value.int (zi p), Value.int (zi q), Value.int (zi w), Value.int (zi r), a5, a6] [Value.int (zi (l 3)), Value.int (zi r)] h13 Q
      refine v_icmp_ge 129 19 d_L_accounts_16 rfl rfl (by omega) (by omega) (by omega) (by omega) (fun k16 => ?_) (fun k16 => ?_)
      · refine xv (x_iconst 130 d_L_accounts_129 rfl) ?_
        refine xv (x_istore 132 d_L_accounts_130 rfl (Nat.le_of_ble_eq_true rfl)) ?_
        show Xv E q_m_L_accounts 132 [Value.ref x, Value.int (zi p), Value.int (zi q), Value.int (zi w), Value.int (zi 0), a5, a6] [] h13 Q
        refine xv (x_iconst 133 d_L_accounts_132 rfl) ?_
        refine xv (x_istore 135 d_L_accounts_133 rfl (Nat.le_of_ble_eq_true rfl)) ?_
        show Xv E q_m_L_accounts 135 [Value.ref x, Value.int (zi p), Value.int (zi q), Value.int (zi w), Value.int (zi 0), Value.int (zi 0), a6] [] h13 Q
        refine xv (x_iconst 136 d_L_accounts_135 rfl) ?_
        refine xv (x_istore 138 d_L_accounts_136 rfl (Nat.le_of_ble_eq_true rfl)) ?_
        show Xv E q_m_L_accounts 138 [Value.ref x, Value.int (zi p), Value.int (zi q), Value.int (zi w), Value.int (zi 0), Value.int (zi 0), Value.int (zi 0)] [] h13 Q
        have L138 : ∀ (n_ : Nat) (y : Int) (f : Int) (g : Int) (h_138 : q_H), (0 ≤ y ∧ y ≤ l 4) → (f = spP (fPk l) y) → (g = spP (fLt l) y) → (PX x l ls nx ct kl n c hs fa kr kd_ h0 (kb) h_138) → (l 4 - y).toNat = n_ → Xv E q_m_L_accounts 138 [Value.ref x, Value.int (zi p), Value.int (zi q), Value.int (zi w), Value.int (zi f), Value.int (zi g), Value.int (zi y)] [] h_138 Q := by
          intro n_
          induction n_ using Nat.strongRecOn with
          | _ n_ ih138 =>
            intro y f g h_138 y138_0 y138_1 y138_2 P_138 em
            have c4 := b_pk hR y138_0
            have c5 := b_lt hR y138_0
            have d4 := spP_s (f := fPk l) y138_0.1
            have d5 := spP_s (f := fLt l) y138_0.1
            have i4 : fPk l y = ob l y 2 := rfl
            refine xv (x_iload 140 d_L_accounts_138 rfl rfl) ?_
            refine xv (x_aload_n 141 d_L_accounts_140 rfl rfl) ?_
            refine xv (x_iconst 142 d_L_accounts_141 rfl) ?_
            obtain ⟨h142, e142, P142⟩ := A_account3 (E := E)  P_138 
            refine xv (x_inv1 145 (as := [Value.int (zi 3)]) d_L_accounts_142 rfl c_9_109 rfl (Nat.le_of_ble_eq_true rfl) (Nat.le_of_ble_eq_true rfl) (px_o P_138) (Nat.le_of_ble_eq_true rfl) (Nat.le_of_ble_eq_true rfl) rfl e142) ?_
            have q142 := rg_n3 hR
            show Xv E q_m_L_accounts 145 [Value.ref x, Value.int (zi p), Value.int (zi q), Value.int (zi w), Value.int (zi f), Value.int (zi g), Value.int (zi y)] [Value.int (zi (l 4)), Value.int (zi y)] h142 Q
            refine v_icmp_ge 201 148 d_L_accounts_145 rfl rfl (by omega) (by omega) (by omega) (by omega) (fun k145 => ?_) (fun k145 => ?_)
            · have F := oin_sum hR
              refine xv (x_aload_n 202 d_L_accounts_201 rfl rfl) ?_
              refine xv (x_iconst 203 d_L_accounts_202 rfl) ?_
              obtain ⟨h203, e203, P203⟩ := A_account4 (E := E)  P142 
              refine xv (x_inv1 206 (as := [Value.int (zi 4)]) d_L_accounts_203 rfl c_9_109 rfl (Nat.le_of_ble_eq_true rfl) (Nat.le_of_ble_eq_true rfl) (px_o P142) (Nat.le_of_ble_eq_true rfl) (Nat.le_of_ble_eq_true rfl) rfl e203) ?_
              have q203 := rg_n4 hR
              show Xv E q_m_L_accounts 206 [Value.ref x, Value.int (zi p), Value.int (zi q), Value.int (zi w), Value.int (zi f), Value.int (zi g), Value.int (zi y)] [Value.int (zi (oin l 0))] h203 Q
              refine xv (x_aload_n 207 d_L_accounts_206 rfl rfl) ?_
              refine xv (x_iconst 208 d_L_accounts_207 rfl) ?_
              obtain ⟨h208, e208, P208⟩ := A_account5 (E := E)  P203 
              refine xv (x_inv1 211 (as := [Value.int (zi 5)]) d_L_accounts_208 rfl c_9_109 rfl (Nat.le_of_ble_eq_true rfl) (Nat.le_of_ble_eq_true rfl) (px_o P203) (Nat.le_of_ble_eq_true rfl) (Nat.le_of_ble_eq_true rfl) rfl e208) ?_
              have q208 := rg_n5 hR
              show Xv E q_m_L_accounts 211 [Value.ref x, Value.int (zi p), Value.int (zi q), Value.int (zi w), Value.int (zi f), Value.int (zi g), Value.int (zi y)] [Value.int (zi (oin l 1)), Value.int (zi (oin l 0))] h208 Q
              refine xv (x_iadd 212 d_L_accounts_211 rfl) ?_
              refine xv (x_aload_n 213 d_L_accounts_212 rfl rfl) ?_
              refine xv (x_bipush 215 d_L_accounts_213 rfl rfl) ?_
              obtain ⟨h215, e215, P215⟩ := A_account6 (E := E)  P208 
              refine xv (x_inv1 218 (as := [Value.int (zi 6)]) d_L_accounts_215 rfl c_9_109 rfl (Nat.le_of_ble_eq_true rfl) (Nat.le_of_ble_eq_true rfl) (px_o P208) (Nat.le_of_ble_eq_true rfl) (Nat.le_of_ble_eq_true rfl) rfl e215) ?_
              have q215 := rg_n6 hR
              show Xv E q_m_L_accounts 218 [Value.ref x, Value.int (zi p), Value.int (zi q), Value.int (zi w), Value.int (zi f), Value.int (zi g), Value.int (zi y)] [Value.int (zi (oin l 2)), Value.int (zi ((oin l 0) + (oin l 1)))] h215 Q
              refine xv (x_iadd 219 d_L_accounts_218 rfl) ?_
              refine xv (x_aload_n 220 d_L_accounts_219 rfl rfl) ?_
              refine xv (x_iconst 221 d_L_accounts_220 rfl) ?_
              obtain ⟨h221, e221, P221⟩ := A_account3 (E := E)  P215 
              refine xv (x_inv1 224 (as := [Value.int (zi 3)]) d_L_accounts_221 rfl c_9_109 rfl (Nat.le_of_ble_eq_true rfl) (Nat.le_of_ble_eq_true rfl) (px_o P215) (Nat.le_of_ble_eq_true rfl) (Nat.le_of_ble_eq_true rfl) rfl e221) ?_
              have q221 := rg_n3 hR
              show Xv E q_m_L_accounts 224 [Value.ref x, Value.int (zi p), Value.int (zi q), Value.int (zi w), Value.int (zi f), Value.int (zi g), Value.int (zi y)] [Value.int (zi (l 4)), Value.int (zi (((oin l 0) + (oin l 1)) + (oin l 2)))] h221 Q
              refine v_icmp_ne 262 227 d_L_accounts_224 rfl rfl (by omega) (by omega) (by omega) (by omega) (fun k224 => ?_) (fun k224 => ?_)
              · omega
              · refine xv (x_aload_n 228 d_L_accounts_227 rfl rfl) ?_
                refine xv (x_bipush 230 d_L_accounts_228 rfl rfl) ?_
                obtain ⟨h230, e230, P230⟩ := A_account9 (E := E)  P221 
                rw [show sts l 5 = p from (e_sts5 hR (show r = l 3 by omega)).trans y9_1.symm] at e230
                refine xv (x_inv1 233 (as := [Value.int (zi 9)]) d_L_accounts_230 rfl c_9_109 rfl (Nat.le_of_ble_eq_true rfl) (Nat.le_of_ble_eq_true rfl) (px_o P221) (Nat.le_of_ble_eq_true rfl) (Nat.le_of_ble_eq_true rfl) rfl e230) ?_
                have q230 := rg_n9 hR
                show Xv E q_m_L_accounts 233 [Value.ref x, Value.int (zi p), Value.int (zi q), Value.int (zi w), Value.int (zi f), Value.int (zi g), Value.int (zi y)] [Value.int (zi p)] h230 Q
                refine xv (x_iload_n 234 d_L_accounts_233 rfl rfl) ?_
                refine v_icmp_ne 262 237 d_L_accounts_234 rfl rfl (by omega) (by omega) (by omega) (by omega) (fun k234 => ?_) (fun k234 => ?_)
                · omega
                · refine xv (x_aload_n 238 d_L_accounts_237 rfl rfl) ?_
                  refine xv (x_bipush 240 d_L_accounts_238 rfl rfl) ?_
                  obtain ⟨h240, e240, P240⟩ := A_account10 (E := E)  P230 
                  rw [show pks l = f from (e_pks (show y = l 4 by omega)).trans y138_1.symm] at e240
                  refine xv (x_inv1 243 (as := [Value.int (zi 10)]) d_L_accounts_240 rfl c_9_109 rfl (Nat.le_of_ble_eq_true rfl) (Nat.le_of_ble_eq_true rfl) (px_o P230) (Nat.le_of_ble_eq_true rfl) (Nat.le_of_ble_eq_true rfl) rfl e240) ?_
                  have q240 := rg_n10 hR
                  show Xv E q_m_L_accounts 243 [Value.ref x, Value.int (zi p), Value.int (zi q), Value.int (zi w), Value.int (zi f), Value.int (zi g), Value.int (zi y)] [Value.int (zi f)] h240 Q
                  refine xv (x_iload 245 d_L_accounts_243 rfl rfl) ?_
                  refine v_icmp_ne 262 248 d_L_accounts_245 rfl rfl (by omega) (by omega) (by omega) (by omega) (fun k245 => ?_) (fun k245 => ?_)
                  · omega
                  · refine xv (x_aload_n 249 d_L_accounts_248 rfl rfl) ?_
                    refine xv (x_bipush 251 d_L_accounts_249 rfl rfl) ?_
                    obtain ⟨h251, e251, P251⟩ := A_account11 (E := E)  P240 
                    rw [show sts l 1 = q from (e_sts1 hR (show r = l 3 by omega)).trans y9_2.symm] at e251
                    refine xv (x_inv1 254 (as := [Value.int (zi 11)]) d_L_accounts_251 rfl c_9_109 rfl (Nat.le_of_ble_eq_true rfl) (Nat.le_of_ble_eq_true rfl) (px_o P240) (Nat.le_of_ble_eq_true rfl) (Nat.le_of_ble_eq_true rfl) rfl e251) ?_
                    have q251 := rg_n11 hR
                    show Xv E q_m_L_accounts 254 [Value.ref x, Value.int (zi p), Value.int (zi q), Value.int (zi w), Value.int (zi f), Value.int (zi g), Value.int (zi y)] [Value.int (zi q)] h251 Q
                    refine xv (x_iload_n 255 d_L_accounts_254 rfl rfl) ?_
                    refine v_icmp_ne 262 258 d_L_accounts_255 rfl rfl (by omega) (by omega) (by omega) (by omega) (fun k255 => ?_) (fun k255 => ?_)
                    · omega
                    · refine xv (x_iconst 259 d_L_accounts_258 rfl) ?_
                      refine xv (x_goto 263 d_L_accounts_259 rfl) ?_
                      refine xv (x_istore 265 d_L_accounts_263 rfl (Nat.le_of_ble_eq_true rfl)) ?_
                      show Xv E q_m_L_accounts 265 [Value.ref x, Value.int (zi p), Value.int (zi q), Value.int (zi w), Value.int (zi f), Value.int (zi g), Value.int (zi 1)] [] h251 Q
                      refine xv (x_iload 267 d_L_accounts_265 rfl rfl) ?_
                      refine v_if_eq 299 270 d_L_accounts_267 rfl rfl (by omega) (by omega) (fun k267 => ?_) (fun k267 => ?_)
                      · omega
                      · refine xv (x_aload_n 271 d_L_accounts_270 rfl rfl) ?_
                        refine xv (x_iconst 272 d_L_accounts_271 rfl) ?_
                        obtain ⟨h272, e272, P272⟩ := A_account2 (E := E)  P251 
                        refine xv (x_inv1 275 (as := [Value.int (zi 2)]) d_L_accounts_272 rfl c_9_109 rfl (Nat.le_of_ble_eq_true rfl) (Nat.le_of_ble_eq_true rfl) (px_o P251) (Nat.le_of_ble_eq_true rfl) (Nat.le_of_ble_eq_true rfl) rfl e272) ?_
                        have q272 := rg_n2 hR
                        show Xv E q_m_L_accounts 275 [Value.ref x, Value.int (zi p), Value.int (zi q), Value.int (zi w), Value.int (zi f), Value.int (zi g), Value.int (zi 1)] [Value.int (zi (l 3))] h272 Q
                        refine v_if_eq 295 278 d_L_accounts_275 rfl rfl (by omega) (by omega) (fun k275 => ?_) (fun k275 => ?_)
                        · refine xv (x_iconst 296 d_L_accounts_295 rfl) ?_
                          refine xv (x_goto 300 d_L_accounts_296 rfl) ?_
                          refine xv (x_istore 302 d_L_accounts_300 rfl (Nat.le_of_ble_eq_true rfl)) ?_
                          show Xv E q_m_L_accounts 302 [Value.ref x, Value.int (zi p), Value.int (zi q), Value.int (zi w), Value.int (zi f), Value.int (zi g), Value.int (zi 1)] [] h272 Q
                          refine xv (x_iload 304 d_L_accounts_302 rfl rfl) ?_
                          refine v_if_eq 339 307 d_L_accounts_304 rfl rfl (by omega) (by omega) (fun k304 => ?_) (fun k304 => ?_)
                          · omega
                          · refine xv (x_aload_n 308 d_L_accounts_307 rfl rfl) ?_
                            refine xv (x_bipush 310 d_L_accounts_308 rfl rfl) ?_
                            obtain ⟨h310, e310, P310⟩ := A_account6 (E := E)  P272 
                            refine xv (x_inv1 313 (as := [Value.int (zi 6)]) d_L_accounts_310 rfl c_9_109 rfl (Nat.le_of_ble_eq_true rfl) (Nat.le_of_ble_eq_true rfl) (px_o P272) (Nat.le_of_ble_eq_true rfl) (Nat.le_of_ble_eq_true rfl) rfl e310) ?_
                            have q310 := rg_n6 hR
                            show Xv E q_m_L_accounts 313 [Value.ref x, Value.int (zi p), Value.int (zi q), Value.int (zi w), Value.int (zi f), Value.int (zi g), Value.int (zi 1)] [Value.int (zi (oin l 2))] h310 Q
                            refine v_if_eq 335 316 d_L_accounts_313 rfl rfl (by omega) (by omega) (fun k313 => ?_) (fun k313 => ?_)
                            · refine xv (x_iconst 336 d_L_accounts_335 rfl) ?_
                              refine xv (x_goto 340 d_L_accounts_336 rfl) ?_
                              refine xv_r (x_ireturn d_L_accounts_340 rfl rfl) ?_
                              exact hQ _ _ ⟨rfl, px_mo P310 (by omega)⟩
                            · refine xv (x_aload_n 317 d_L_accounts_316 rfl rfl) ?_
                              have e317 := A_lateness (E := E) P310 (by omega)
                              rw [e_lts (show y = l 4 by omega), ← y138_2] at e317
                              refine xv (x_inv1 320 (as := []) d_L_accounts_317 rfl c_9_237 rfl (Nat.le_of_ble_eq_true rfl) (Nat.le_of_ble_eq_true rfl) (px_o P310) (Nat.le_of_ble_eq_true rfl) (Nat.le_of_ble_eq_true rfl) rfl e317) ?_
                              show Xv E q_m_L_accounts 320 [Value.ref x, Value.int (zi p), Value.int (zi q), Value.int (zi w), Value.int (zi f), Value.int (zi g), Value.int (zi 1)] [Value.double (FP.ddiv (FP.i2d (zi g)) (FP.i2d (zi (oin l 2))))] h310 Q
                              refine xv (x_iload 322 d_L_accounts_320 rfl rfl) ?_
                              refine xv (x_i2d 323 d_L_accounts_322 rfl) ?_
                              refine xv (x_aload_n 324 d_L_accounts_323 rfl rfl) ?_
                              refine xv (x_bipush 326 d_L_accounts_324 rfl rfl) ?_
                              obtain ⟨h326, e326, P326⟩ := A_account6 (E := E)  P310 
                              refine xv (x_inv1 329 (as := [Value.int (zi 6)]) d_L_accounts_326 rfl c_9_109 rfl (Nat.le_of_ble_eq_true rfl) (Nat.le_of_ble_eq_true rfl) (px_o P310) (Nat.le_of_ble_eq_true rfl) (Nat.le_of_ble_eq_true rfl) rfl e326) ?_
                              have q326 := rg_n6 hR
                              show Xv E q_m_L_accounts 329 [Value.ref x, Value.int (zi p), Value.int (zi q), Value.int (zi w), Value.int (zi f), Value.int (zi g), Value.int (zi 1)] [Value.int (zi (oin l 2)), Value.double (FP.i2d (zi g)), Value.double (FP.ddiv (FP.i2d (zi g)) (FP.i2d (zi (oin l 2))))] h326 Q
                              refine xv (x_i2d 330 d_L_accounts_329 rfl) ?_
                              refine xv (x_ddiv 331 d_L_accounts_330 rfl (ddiv_ok (by omega) (by omega))) ?_
                              refine xv (x_dcmp 332 d_L_accounts_331 rfl) ?_
                              rw [dcmp_s (ddiv_ok (by omega) (by omega))]
                              refine v_if_ne 339 335 d_L_accounts_332 rfl rfl (by omega) (by omega) (fun k332 => ?_) (fun k332 => ?_)
                              · omega
                              · refine xv (x_iconst 336 d_L_accounts_335 rfl) ?_
                                refine xv (x_goto 340 d_L_accounts_336 rfl) ?_
                                refine xv_r (x_ireturn d_L_accounts_340 rfl rfl) ?_
                                exact hQ _ _ ⟨rfl, px_mo P326 (by omega)⟩
                        · refine xv (x_aload_n 279 d_L_accounts_278 rfl rfl) ?_
                          have e279 := A_loaded (E := E) P272 (by omega)
                          rw [e_ldn (show r = l 3 by omega), ← y9_3] at e279
                          refine xv (x_inv1 282 (as := []) d_L_accounts_279 rfl c_9_233 rfl (Nat.le_of_ble_eq_true rfl) (Nat.le_of_ble_eq_true rfl) (px_o P272) (Nat.le_of_ble_eq_true rfl) (Nat.le_of_ble_eq_true rfl) rfl e279) ?_
                          show Xv E q_m_L_accounts 282 [Value.ref x, Value.int (zi p), Value.int (zi q), Value.int (zi w), Value.int (zi f), Value.int (zi g), Value.int (zi 1)] [Value.float (FP.fdiv (FP.i2f (zi w)) (FP.i2f (zi (l 3))))] h272 Q
                          refine xv (x_iload_n 283 d_L_accounts_282 rfl rfl) ?_
                          refine xv (x_i2f 284 d_L_accounts_283 rfl) ?_
                          refine xv (x_aload_n 285 d_L_accounts_284 rfl rfl) ?_
                          refine xv (x_iconst 286 d_L_accounts_285 rfl) ?_
                          obtain ⟨h286, e286, P286⟩ := A_account2 (E := E)  P272 
                          refine xv (x_inv1 289 (as := [Value.int (zi 2)]) d_L_accounts_286 rfl c_9_109 rfl (Nat.le_of_ble_eq_true rfl) (Nat.le_of_ble_eq_true rfl) (px_o P272) (Nat.le_of_ble_eq_true rfl) (Nat.le_of_ble_eq_true rfl) rfl e286) ?_
                          have q286 := rg_n2 hR
                          show Xv E q_m_L_accounts 289 [Value.ref x, Value.int (zi p), Value.int (zi q), Value.int (zi w), Value.int (zi f), Value.int (zi g), Value.int (zi 1)] [Value.int (zi (l 3)), Value.float (FP.i2f (zi w)), Value.float (FP.fdiv (FP.i2f (zi w)) (FP.i2f (zi (l 3))))] h286 Q
                          refine xv (x_i2f 290 d_L_accounts_289 rfl) ?_
                          refine xv (x_fdiv 291 d_L_accounts_290 rfl (fdiv_ok (by omega) (by omega))) ?_
                          refine xv (x_fcmp 292 d_L_accounts_291 rfl) ?_
                          rw [fcmp_s (fdiv_ok (by omega) (by omega))]
                          refine v_if_ne 299 295 d_L_accounts_292 rfl rfl (by omega) (by omega) (fun k292 => ?_) (fun k292 => ?_)
                          · omega
                          · refine xv (x_iconst 296 d_L_accounts_295 rfl) ?_
                            refine xv (x_goto 300 d_L_accounts_296 rfl) ?_
                            refine xv (x_istore 302 d_L_accounts_300 rfl (Nat.le_of_ble_eq_true rfl)) ?_
                            show Xv E q_m_L_accounts 302 [Value.ref x, Value.int (zi p), Value.int (zi q), Value.int (zi w), Value.int (zi f), Value.int (zi g), Value.int (zi 1)] [] h286 Q
                            refine xv (x_iload 304 d_L_accounts_302 rfl rfl) ?_
                            refine v_if_eq 339 307 d_L_accounts_304 rfl rfl (by omega) (by omega) (fun k304 => ?_) (fun k304 => ?_)
                            · omega
                            · refine xv (x_aload_n 308 d_L_accounts_307 rfl rfl) ?_
                              refine xv (x_bipush 310 d_L_accounts_308 rfl rfl) ?_
                              obtain ⟨h310, e310, P310⟩ := A_account6 (E := E)  P286 
                              refine xv (x_inv1 313 (as := [Value.int (zi 6)]) d_L_accounts_310 rfl c_9_109 rfl (Nat.le_of_ble_eq_true rfl) (Nat.le_of_ble_eq_true rfl) (px_o P286) (Nat.le_of_ble_eq_true rfl) (Nat.le_of_ble_eq_true rfl) rfl e310) ?_
                              have q310 := rg_n6 hR
                              show Xv E q_m_L_accounts 313 [Value.ref x, Value.int (zi p), Value.int (zi q), Value.int (zi w), Value.int (zi f), Value.int (zi g), Value.int (zi 1)] [Value.int (zi (oin l 2))] h310 Q
                              refine v_if_eq 335 316 d_L_accounts_313 rfl rfl (by omega) (by omega) (fun k313 => ?_) (fun k313 => ?_)
                              · refine xv (x_iconst 336 d_L_accounts_335 rfl) ?_
                                refine xv (x_goto 340 d_L_accounts_336 rfl) ?_
                                refine xv_r (x_ireturn d_L_accounts_340 rfl rfl) ?_
                                exact hQ _ _ ⟨rfl, px_mo P310 (by omega)⟩
                              · refine xv (x_aload_n 317 d_L_accounts_316 rfl rfl) ?_
                                have e317 := A_lateness (E := E) P310 (by omega)
                                rw [e_lts (show y = l 4 by omega), ← y138_2] at e317
                                refine xv (x_inv1 320 (as := []) d_L_accounts_317 rfl c_9_237 rfl (Nat.le_of_ble_eq_true rfl) (Nat.le_of_ble_eq_true rfl) (px_o P310) (Nat.le_of_ble_eq_true rfl) (Nat.le_of_ble_eq_true rfl) rfl e317) ?_
                                show Xv E q_m_L_accounts 320 [Value.ref x, Value.int (zi p), Value.int (zi q), Value.int (zi w), Value.int (zi f), Value.int (zi g), Value.int (zi 1)] [Value.double (FP.ddiv (FP.i2d (zi g)) (FP.i2d (zi (oin l 2))))] h310 Q
                                refine xv (x_iload 322 d_L_accounts_320 rfl rfl) ?_
                                refine xv (x_i2d 323 d_L_accounts_322 rfl) ?_
                                refine xv (x_aload_n 324 d_L_accounts_323 rfl rfl) ?_
                                refine xv (x_bipush 326 d_L_accounts_324 rfl rfl) ?_
                                obtain ⟨h326, e326, P326⟩ := A_account6 (E := E)  P310 
                                refine xv (x_inv1 329 (as := [Value.int (zi 6)]) d_L_accounts_326 rfl c_9_109 rfl (Nat.le_of_ble_eq_true rfl) (Nat.le_of_ble_eq_true rfl) (px_o P310) (Nat.le_of_ble_eq_true rfl) (Nat.le_of_ble_eq_true rfl) rfl e326) ?_
                                have q326 := rg_n6 hR
                                show Xv E q_m_L_accounts 329 [Value.ref x, Value.int (zi p), Value.int (zi q), Value.int (zi w), Value.int (zi f), Value.int (zi g), Value.int (zi 1)] [Value.int (zi (oin l 2)), Value.double (FP.i2d (zi g)), Value.double (FP.ddiv (FP.i2d (zi g)) (FP.i2d (zi (oin l 2))))] h326 Q
                                refine xv (x_i2d 330 d_L_accounts_329 rfl) ?_
                                refine xv (x_ddiv 331 d_L_accounts_330 rfl (ddiv_ok (by omega) (by omega))) ?_
                                refine xv (x_dcmp 332 d_L_accounts_331 rfl) ?_
                                rw [dcmp_s (ddiv_ok (by omega) (by omega))]
                                refine v_if_ne 339 335 d_L_accounts_332 rfl rfl (by omega) (by omega) (fun k332 => ?_) (fun k332 => ?_)
                                · omega
                                · refine xv (x_iconst 336 d_L_accounts_335 rfl) ?_
                                  refine xv (x_goto 340 d_L_accounts_336 rfl) ?_
                                  refine xv_r (x_ireturn d_L_accounts_340 rfl rfl) ?_
                                  exact hQ _ _ ⟨rfl, px_mo P326 (by omega)⟩
            · have F5 := rg_a5 hR (y := y) ⟨by omega, by omega⟩
              have F := (or_all hT hO (y := y) ⟨by omega, by omega⟩).2.2.1
              have i5 : fLt l y = 0 ∧ ob l y 4 = -1 ∨ fLt l y = ob l y 4 - ob l y 0 ∧ ¬ ob l y 4 = -1 := by
                by_cases u : ob l y 4 = -1
                · exact Or.inl ⟨if_neg (fun n => n u), u⟩
                · exact Or.inr ⟨if_pos u, u⟩
              refine xv (x_iload 150 d_L_accounts_148 rfl rfl) ?_
              refine xv (x_aload_n 151 d_L_accounts_150 rfl rfl) ?_
              refine xv (x_iload 153 d_L_accounts_151 rfl rfl) ?_
              refine xv (x_iconst 154 d_L_accounts_153 rfl) ?_
              obtain ⟨h154, e154, P154⟩ := A_orderOf2 (E := E) (y := y) P142 ⟨by omega, by omega⟩
              refine xv (x_inv1 157 (as := [Value.int (zi y), Value.int (zi 2)]) d_L_accounts_154 rfl c_9_225 rfl (Nat.le_of_ble_eq_true rfl) (Nat.le_of_ble_eq_true rfl) (px_o P142) (Nat.le_of_ble_eq_true rfl) (Nat.le_of_ble_eq_true rfl) rfl e154) ?_
              have q154 := rg_a2 hR (y := y) ⟨by omega, by omega⟩
              show Xv E q_m_L_accounts 157 [Value.ref x, Value.int (zi p), Value.int (zi q), Value.int (zi w), Value.int (zi f), Value.int (zi g), Value.int (zi y)] [Value.int (zi (ob l y 2)), Value.int (zi f)] h154 Q
              refine xv (x_iadd 158 d_L_accounts_157 rfl) ?_
              refine xv (x_istore 160 d_L_accounts_158 rfl (Nat.le_of_ble_eq_true rfl)) ?_
              show Xv E q_m_L_accounts 160 [Value.ref x, Value.int (zi p), Value.int (zi q), Value.int (zi w), Value.int (zi (f + (ob l y 2))), Value.int (zi g), Value.int (zi y)] [] h154 Q
              refine xv (x_iload 162 d_L_accounts_160 rfl rfl) ?_
              refine xv (x_aload_n 163 d_L_accounts_162 rfl rfl) ?_
              refine xv (x_iload 165 d_L_accounts_163 rfl rfl) ?_
              refine xv (x_iconst 166 d_L_accounts_165 rfl) ?_
              obtain ⟨h166, e166, P166⟩ := A_orderOf3 (E := E) (y := y) P154 ⟨by omega, by omega⟩
              refine xv (x_inv1 169 (as := [Value.int (zi y), Value.int (zi 3)]) d_L_accounts_166 rfl c_9_225 rfl (Nat.le_of_ble_eq_true rfl) (Nat.le_of_ble_eq_true rfl) (px_o P154) (Nat.le_of_ble_eq_true rfl) (Nat.le_of_ble_eq_true rfl) rfl e166) ?_
              have q166 := rg_a3 hR (y := y) ⟨by omega, by omega⟩
              show Xv E q_m_L_accounts 169 [Value.ref x, Value.int (zi p), Value.int (zi q), Value.int (zi w), Value.int (zi (f + (ob l y 2))), Value.int (zi g), Value.int (zi y)] [Value.int (zi (stc l y)), Value.int (zi g)] h166 Q
              refine xv (x_iconst 170 d_L_accounts_169 rfl) ?_
              refine v_icmp_ne 191 173 d_L_accounts_170 rfl rfl (by omega) (by omega) (by omega) (by omega) (fun k170 => ?_) (fun k170 => ?_)
              · refine xv (x_iconst 192 d_L_accounts_191 rfl) ?_
                refine xv (x_iadd 193 d_L_accounts_192 rfl) ?_
                refine xv (x_istore 195 d_L_accounts_193 rfl (Nat.le_of_ble_eq_true rfl)) ?_
                show Xv E q_m_L_accounts 195 [Value.ref x, Value.int (zi p), Value.int (zi q), Value.int (zi w), Value.int (zi (f + (ob l y 2))), Value.int (zi (g + 0)), Value.int (zi y)] [] h166 Q
                refine xv (x_iinc 198 d_L_accounts_195 rfl rfl) ?_
                show Xv E q_m_L_accounts 198 [Value.ref x, Value.int (zi p), Value.int (zi q), Value.int (zi w), Value.int (zi (f + (ob l y 2))), Value.int (zi (g + 0)), Value.int (zi (y + 1))] [] h166 Q
                refine xv (x_goto 138 d_L_accounts_198 rfl) ?_
                exact ih138 _ (by omega) (y + 1) (f + (ob l y 2)) (g + 0) _ (by omega) (by omega) (by omega) (px_mo P166 (by omega)) rfl
              · refine xv (x_aload_n 174 d_L_accounts_173 rfl rfl) ?_
                refine xv (x_iload 176 d_L_accounts_174 rfl rfl) ?_
                refine xv (x_iconst 177 d_L_accounts_176 rfl) ?_
                obtain ⟨h177, e177, P177⟩ := A_orderOf5 (E := E) (y := y) P166 ⟨by omega, by omega⟩
                refine xv (x_inv1 180 (as := [Value.int (zi y), Value.int (zi 5)]) d_L_accounts_177 rfl c_9_225 rfl (Nat.le_of_ble_eq_true rfl) (Nat.le_of_ble_eq_true rfl) (px_o P166) (Nat.le_of_ble_eq_true rfl) (Nat.le_of_ble_eq_true rfl) rfl e177) ?_
                have q177 := rg_a5 hR (y := y) ⟨by omega, by omega⟩
                show Xv E q_m_L_accounts 180 [Value.ref x, Value.int (zi p), Value.int (zi q), Value.int (zi w), Value.int (zi (f + (ob l y 2))), Value.int (zi g), Value.int (zi y)] [Value.int (zi (ob l y 4)), Value.int (zi g)] h177 Q
                refine xv (x_aload_n 181 d_L_accounts_180 rfl rfl) ?_
                refine xv (x_iload 183 d_L_accounts_181 rfl rfl) ?_
                refine xv (x_iconst 184 d_L_accounts_183 rfl) ?_
                obtain ⟨h184, e184, P184⟩ := A_orderOf0 (E := E) (y := y) P177 ⟨by omega, by omega⟩
                refine xv (x_inv1 187 (as := [Value.int (zi y), Value.int (zi 0)]) d_L_accounts_184 rfl c_9_225 rfl (Nat.le_of_ble_eq_true rfl) (Nat.le_of_ble_eq_true rfl) (px_o P177) (Nat.le_of_ble_eq_true rfl) (Nat.le_of_ble_eq_true rfl) rfl e184) ?_
                have q184 := rg_a0 hR (y := y) ⟨by omega, by omega⟩
                show Xv E q_m_L_accounts 187 [Value.ref x, Value.int (zi p), Value.int (zi q), Value.int (zi w), Value.int (zi (f + (ob l y 2))), Value.int (zi g), Value.int (zi y)] [Value.int (zi (ob l y 0)), Value.int (zi (ob l y 4)), Value.int (zi g)] h184 Q
                refine xv (x_isub 188 d_L_accounts_187 rfl) ?_
                refine xv (x_goto 192 d_L_accounts_188 rfl) ?_
                refine xv (x_iadd 193 d_L_accounts_192 rfl) ?_
                refine xv (x_istore 195 d_L_accounts_193 rfl (Nat.le_of_ble_eq_true rfl)) ?_
                show Xv E q_m_L_accounts 195 [Value.ref x, Value.int (zi p), Value.int (zi q), Value.int (zi w), Value.int (zi (f + (ob l y 2))), Value.int (zi (g + ((ob l y 4) - (ob l y 0)))), Value.int (zi y)] [] h184 Q
                refine xv (x_iinc 198 d_L_accounts_195 rfl rfl) ?_
                show Xv E q_m_L_accounts 198 [Value.ref x, Value.int (zi p), Value.int (zi q), Value.int (zi w), Value.int (zi (f + (ob l y 2))), Value.int (zi (g + ((ob l y 4) - (ob l y 0)))), Value.int (zi (y + 1))] [] h184 Q
                refine xv (x_goto 138 d_L_accounts_198 rfl) ?_
                exact ih138 _ (by omega) (y + 1) (f + (ob l y 2)) (g + ((ob l y 4) - (ob l y 0))) _ (by omega) (by omega) (by omega) (px_mo P184 (by omega)) rfl
        exact L138 _ 0 0 0 _ (by omega) rfl rfl (px_mo P13 (by omega)) rfl
      · have F := ld_c hR (r := r) ⟨by omega, by omega⟩
        refine xv (x_aload_n 20 d_L_accounts_19 rfl rfl) ?_
        refine xv (x_iload 22 d_L_accounts_20 rfl rfl) ?_
        refine xv (x_iconst 23 d_L_accounts_22 rfl) ?_
        obtain ⟨h23, e23, P23⟩ := A_robotOf2 (E := E) (r := r) P13 ⟨by omega, by omega⟩
        refine xv (x_inv1 26 (as := [Value.int (zi r), Value.int (zi 2)]) d_L_accounts_23 rfl c_9_203 rfl (Nat.le_of_ble_eq_true rfl) (Nat.le_of_ble_eq_true rfl) (px_o P13) (Nat.le_of_ble_eq_true rfl) (Nat.le_of_ble_eq_true rfl) rfl e23) ?_
        have q23 := rg_b2 hR (r := r) ⟨by omega, by omega⟩
        show Xv E q_m_L_accounts 26 [Value.ref x, Value.int (zi p), Value.int (zi q), Value.int (zi w), Value.int (zi r), a5, a6] [Value.int (zi (rb l r 2))] h23 Q
        refine xv (x_istore 28 d_L_accounts_26 rfl (Nat.le_of_ble_eq_true rfl)) ?_
        show Xv E q_m_L_accounts 28 [Value.ref x, Value.int (zi p), Value.int (zi q), Value.int (zi w), Value.int (zi r), Value.int (zi (rb l r 2)), a6] [] h23 Q
        refine xv (x_iload 30 d_L_accounts_28 rfl rfl) ?_
        refine v_if_lt 47 33 d_L_accounts_30 rfl rfl (by omega) (by omega) (fun k30 => ?_) (fun k30 => ?_)
        · refine xv (x_iconst 48 d_L_accounts_47 rfl) ?_
          refine xv (x_istore 50 d_L_accounts_48 rfl (Nat.le_of_ble_eq_true rfl)) ?_
          show Xv E q_m_L_accounts 50 [Value.ref x, Value.int (zi p), Value.int (zi q), Value.int (zi w), Value.int (zi r), Value.int (zi (rb l r 2)), Value.int (zi 0)] [] h23 Q
          refine xv (x_iload_n 51 d_L_accounts_50 rfl rfl) ?_
          refine xv (x_aload_n 52 d_L_accounts_51 rfl rfl) ?_
          refine xv (x_iload 54 d_L_accounts_52 rfl rfl) ?_
          refine xv (x_bipush 56 d_L_accounts_54 rfl rfl) ?_
          obtain ⟨h56, e56, P56⟩ := A_robotOf6 (E := E) (r := r) P23 ⟨by omega, by omega⟩
          refine xv (x_inv1 59 (as := [Value.int (zi r), Value.int (zi 6)]) d_L_accounts_56 rfl c_9_203 rfl (Nat.le_of_ble_eq_true rfl) (Nat.le_of_ble_eq_true rfl) (px_o P23) (Nat.le_of_ble_eq_true rfl) (Nat.le_of_ble_eq_true rfl) rfl e56) ?_
          have q56 := rg_b6 hR (r := r) ⟨by omega, by omega⟩
          show Xv E q_m_L_accounts 59 [Value.ref x, Value.int (zi p), Value.int (zi q), Value.int (zi w), Value.int (zi r), Value.int (zi (rb l r 2)), Value.int (zi 0)] [Value.int (zi (rb l r 5)), Value.int (zi p)] h56 Q
          refine xv (x_iadd 60 d_L_accounts_59 rfl) ?_
          refine xv (x_istore_n 61 d_L_accounts_60 rfl (Nat.le_of_ble_eq_true rfl)) ?_
          show Xv E q_m_L_accounts 61 [Value.ref x, Value.int (zi (p + (rb l r 5))), Value.int (zi q), Value.int (zi w), Value.int (zi r), Value.int (zi (rb l r 2)), Value.int (zi 0)] [] h56 Q
          refine xv (x_iload_n 62 d_L_accounts_61 rfl rfl) ?_
          refine xv (x_aload_n 63 d_L_accounts_62 rfl rfl) ?_
          refine xv (x_iload 65 d_L_accounts_63 rfl rfl) ?_
          refine xv (x_iconst 66 d_L_accounts_65 rfl) ?_
          obtain ⟨h66, e66, P66⟩ := A_robotOf1 (E := E) (r := r) P56 ⟨by omega, by omega⟩
          refine xv (x_inv1 69 (as := [Value.int (zi r), Value.int (zi 1)]) d_L_accounts_66 rfl c_9_203 rfl (Nat.le_of_ble_eq_true rfl) (Nat.le_of_ble_eq_true rfl) (px_o P56) (Nat.le_of_ble_eq_true rfl) (Nat.le_of_ble_eq_true rfl) rfl e66) ?_
          have q66 := rg_b1 hR (r := r) ⟨by omega, by omega⟩
          show Xv E q_m_L_accounts 69 [Value.ref x, Value.int (zi (p + (rb l r 5))), Value.int (zi q), Value.int (zi w), Value.int (zi r), Value.int (zi (rb l r 2)), Value.int (zi 0)] [Value.int (zi (rb l r 1)), Value.int (zi q)] h66 Q
          refine xv (x_iadd 70 d_L_accounts_69 rfl) ?_
          refine xv (x_istore_n 71 d_L_accounts_70 rfl (Nat.le_of_ble_eq_true rfl)) ?_
          show Xv E q_m_L_accounts 71 [Value.ref x, Value.int (zi (p + (rb l r 5))), Value.int (zi (q + (rb l r 1))), Value.int (zi w), Value.int (zi r), Value.int (zi (rb l r 2)), Value.int (zi 0)] [] h66 Q
          refine xv (x_iload_n 72 d_L_accounts_71 rfl rfl) ?_
          refine xv (x_iload 74 d_L_accounts_72 rfl rfl) ?_
          refine v_if_eq 81 77 d_L_accounts_74 rfl rfl (by omega) (by omega) (fun k74 => ?_) (fun k74 => ?_)
          · refine xv (x_iconst 82 d_L_accounts_81 rfl) ?_
            refine xv (x_iadd 83 d_L_accounts_82 rfl) ?_
            refine xv (x_istore_n 84 d_L_accounts_83 rfl (Nat.le_of_ble_eq_true rfl)) ?_
            show Xv E q_m_L_accounts 84 [Value.ref x, Value.int (zi (p + (rb l r 5))), Value.int (zi (q + (rb l r 1))), Value.int (zi (w + 0)), Value.int (zi r), Value.int (zi (rb l r 2)), Value.int (zi 0)] [] h66 Q
            refine xv (x_aload_n 85 d_L_accounts_84 rfl rfl) ?_
            refine xv (x_iload 87 d_L_accounts_85 rfl rfl) ?_
            refine xv (x_iconst 88 d_L_accounts_87 rfl) ?_
            obtain ⟨h88, e88, P88⟩ := A_robotOf5 (E := E) (r := r) P66 ⟨by omega, by omega⟩
            refine xv (x_inv1 91 (as := [Value.int (zi r), Value.int (zi 5)]) d_L_accounts_88 rfl c_9_203 rfl (Nat.le_of_ble_eq_true rfl) (Nat.le_of_ble_eq_true rfl) (px_o P66) (Nat.le_of_ble_eq_true rfl) (Nat.le_of_ble_eq_true rfl) rfl e88) ?_
            have q88 := rg_b5 hR (r := r) ⟨by omega, by omega⟩
            show Xv E q_m_L_accounts 91 [Value.ref x, Value.int (zi (p + (rb l r 5))), Value.int (zi (q + (rb l r 1))), Value.int (zi (w + 0)), Value.int (zi r), Value.int (zi (rb l r 2)), Value.int (zi 0)] [Value.int (zi (bI (isO l (rb l r 2) ∧ 0 < ob l (rb l r 2) 2)))] h88 Q
            refine xv (x_iload 93 d_L_accounts_91 rfl rfl) ?_
            refine v_if_eq 100 96 d_L_accounts_93 rfl rfl (by omega) (by omega) (fun k93 => ?_) (fun k93 => ?_)
            · refine xv (x_iconst 101 d_L_accounts_100 rfl) ?_
              refine v_icmp_ne 121 104 d_L_accounts_101 rfl rfl (by have := bI_r (isO l (rb l r 2) ∧ 0 < ob l (rb l r 2) 2); omega) (by have := bI_r (isO l (rb l r 2) ∧ 0 < ob l (rb l r 2) 2); omega) (by omega) (by omega) (fun k101 => ?_) (fun k101 => ?_)
              · omega
              · refine xv (x_iload 106 d_L_accounts_104 rfl rfl) ?_
                refine v_if_lt 123 109 d_L_accounts_106 rfl rfl (by omega) (by omega) (fun k106 => ?_) (fun k106 => ?_)
                · refine xv (x_iinc 126 d_L_accounts_123 rfl rfl) ?_
                  show Xv E q_m_L_accounts 126 [Value.ref x, Value.int (zi (p + (rb l r 5))), Value.int (zi (q + (rb l r 1))), Value.int (zi (w + 0)), Value.int (zi (r + 1)), Value.int (zi (rb l r 2)), Value.int (zi 0)] [] h88 Q
                  refine xv (x_goto 9 d_L_accounts_126 rfl) ?_
                  exact ih9 _ (by omega) (r + 1) (p + (rb l r 5)) (q + (rb l r 1)) (w + 0) _ _ _ (by omega) (by omega) (by omega) (by omega) (px_mo P88 (by omega)) rfl
                · refine xv (x_aload_n 110 d_L_accounts_109 rfl rfl) ?_
                  refine xv (x_iload 112 d_L_accounts_110 rfl rfl) ?_
                  refine xv (x_iconst 113 d_L_accounts_112 rfl) ?_
                  obtain ⟨h113, e113, P113⟩ := A_orderOf4 (E := E) (y := (rb l r 2)) P88 ⟨by omega, by omega⟩
                  rw [show rwo l (rb l r 2) = r from rwo_is hT ⟨by omega, by omega⟩ (by omega)] at e113
                  refine xv (x_inv1 116 (as := [Value.int (zi (rb l r 2)), Value.int (zi 4)]) d_L_accounts_113 rfl c_9_225 rfl (Nat.le_of_ble_eq_true rfl) (Nat.le_of_ble_eq_true rfl) (px_o P88) (Nat.le_of_ble_eq_true rfl) (Nat.le_of_ble_eq_true rfl) rfl e113) ?_
                  have q113 := rg_a4 hR (y := (rb l r 2)) ⟨by omega, by omega⟩
                  show Xv E q_m_L_accounts 116 [Value.ref x, Value.int (zi (p + (rb l r 5))), Value.int (zi (q + (rb l r 1))), Value.int (zi (w + 0)), Value.int (zi r), Value.int (zi (rb l r 2)), Value.int (zi 0)] [Value.int (zi r)] h113 Q
                  refine xv (x_iload 118 d_L_accounts_116 rfl rfl) ?_
                  refine v_icmp_eq 123 121 d_L_accounts_118 rfl rfl (by omega) (by omega) (by omega) (by omega) (fun k118 => ?_) (fun k118 => ?_)
                  · refine xv (x_iinc 126 d_L_accounts_123 rfl rfl) ?_
                    show Xv E q_m_L_accounts 126 [Value.ref x, Value.int (zi (p + (rb l r 5))), Value.int (zi (q + (rb l r 1))), Value.int (zi (w + 0)), Value.int (zi (r + 1)), Value.int (zi (rb l r 2)), Value.int (zi 0)] [] h113 Q
                    refine xv (x_goto 9 d_L_accounts_126 rfl) ?_
                    exact ih9 _ (by omega) (r + 1) (p + (rb l r 5)) (q + (rb l r 1)) (w + 0) _ _ _ (by omega) (by omega) (by omega) (by omega) (px_mo P113 (by omega)) rfl
                  · omega
            · omega
          · omega
        · refine xv (x_aload_n 34 d_L_accounts_33 rfl rfl) ?_
          refine xv (x_iload 36 d_L_accounts_34 rfl rfl) ?_
          refine xv (x_iconst 37 d_L_accounts_36 rfl) ?_
          obtain ⟨h37, e37, P37⟩ := A_orderOf2 (E := E) (y := (rb l r 2)) P23 ⟨by omega, by omega⟩
          refine xv (x_inv1 40 (as := [Value.int (zi (rb l r 2)), Value.int (zi 2)]) d_L_accounts_37 rfl c_9_225 rfl (Nat.le_of_ble_eq_true rfl) (Nat.le_of_ble_eq_true rfl) (px_o P23) (Nat.le_of_ble_eq_true rfl) (Nat.le_of_ble_eq_true rfl) rfl e37) ?_
          have q37 := rg_a2 hR (y := (rb l r 2)) ⟨by omega, by omega⟩
          show Xv E q_m_L_accounts 40 [Value.ref x, Value.int (zi p), Value.int (zi q), Value.int (zi w), Value.int (zi r), Value.int (zi (rb l r 2)), a6] [Value.int (zi (ob l (rb l r 2) 2))] h37 Q
          refine v_if_le 47 43 d_L_accounts_40 rfl rfl (by omega) (by omega) (fun k40 => ?_) (fun k40 => ?_)
          · refine xv (x_iconst 48 d_L_accounts_47 rfl) ?_
            refine xv (x_istore 50 d_L_accounts_48 rfl (Nat.le_of_ble_eq_true rfl)) ?_
            show Xv E q_m_L_accounts 50 [Value.ref x, Value.int (zi p), Value.int (zi q), Value.int (zi w), Value.int (zi r), Value.int (zi (rb l r 2)), Value.int (zi 0)] [] h37 Q
            refine xv (x_iload_n 51 d_L_accounts_50 rfl rfl) ?_
            refine xv (x_aload_n 52 d_L_accounts_51 rfl rfl) ?_
            refine xv (x_iload 54 d_L_accounts_52 rfl rfl) ?_
            refine xv (x_bipush 56 d_L_accounts_54 rfl rfl) ?_
            obtain ⟨h56, e56, P56⟩ := A_robotOf6 (E := E) (r := r) P37 ⟨by omega, by omega⟩
            refine xv (x_inv1 59 (as := [Value.int (zi r), Value.int (zi 6)]) d_L_accounts_56 rfl c_9_203 rfl (Nat.le_of_ble_eq_true rfl) (Nat.le_of_ble_eq_true rfl) (px_o P37) (Nat.le_of_ble_eq_true rfl) (Nat.le_of_ble_eq_true rfl) rfl e56) ?_
            have q56 := rg_b6 hR (r := r) ⟨by omega, by omega⟩
            show Xv E q_m_L_accounts 59 [Value.ref x, Value.int (zi p), Value.int (zi q), Value.int (zi w), Value.int (zi r), Value.int (zi (rb l r 2)), Value.int (zi 0)] [Value.int (zi (rb l r 5)), Value.int (zi p)] h56 Q
            refine xv (x_iadd 60 d_L_accounts_59 rfl) ?_
            refine xv (x_istore_n 61 d_L_accounts_60 rfl (Nat.le_of_ble_eq_true rfl)) ?_
            show Xv E q_m_L_accounts 61 [Value.ref x, Value.int (zi (p + (rb l r 5))), Value.int (zi q), Value.int (zi w), Value.int (zi r), Value.int (zi (rb l r 2)), Value.int (zi 0)] [] h56 Q
            refine xv (x_iload_n 62 d_L_accounts_61 rfl rfl) ?_
            refine xv (x_aload_n 63 d_L_accounts_62 rfl rfl) ?_
            refine xv (x_iload 65 d_L_accounts_63 rfl rfl) ?_
            refine xv (x_iconst 66 d_L_accounts_65 rfl) ?_
            obtain ⟨h66, e66, P66⟩ := A_robotOf1 (E := E) (r := r) P56 ⟨by omega, by omega⟩
            refine xv (x_inv1 69 (as := [Value.int (zi r), Value.int (zi 1)]) d_L_accounts_66 rfl c_9_203 rfl (Nat.le_of_ble_eq_true rfl) (Nat.le_of_ble_eq_true rfl) (px_o P56) (Nat.le_of_ble_eq_true rfl) (Nat.le_of_ble_eq_true rfl) rfl e66) ?_
            have q66 := rg_b1 hR (r := r) ⟨by omega, by omega⟩
            show Xv E q_m_L_accounts 69 [Value.ref x, Value.int (zi (p + (rb l r 5))), Value.int (zi q), Value.int (zi w), Value.int (zi r), Value.int (zi (rb l r 2)), Value.int (zi 0)] [Value.int (zi (rb l r 1)), Value.int (zi q)] h66 Q
            refine xv (x_iadd 70 d_L_accounts_69 rfl) ?_
            refine xv (x_istore_n 71 d_L_accounts_70 rfl (Nat.le_of_ble_eq_true rfl)) ?_
            show Xv E q_m_L_accounts 71 [Value.ref x, Value.int (zi (p + (rb l r 5))), Value.int (zi (q + (rb l r 1))), Value.int (zi w), Value.int (zi r), Value.int (zi (rb l r 2)), Value.int (zi 0)] [] h66 Q
            refine xv (x_iload_n 72 d_L_accounts_71 rfl rfl) ?_
            refine xv (x_iload 74 d_L_accounts_72 rfl rfl) ?_
            refine v_if_eq 81 77 d_L_accounts_74 rfl rfl (by omega) (by omega) (fun k74 => ?_) (fun k74 => ?_)
            · refine xv (x_iconst 82 d_L_accounts_81 rfl) ?_
              refine xv (x_iadd 83 d_L_accounts_82 rfl) ?_
              refine xv (x_istore_n 84 d_L_accounts_83 rfl (Nat.le_of_ble_eq_true rfl)) ?_
              show Xv E q_m_L_accounts 84 [Value.ref x, Value.int (zi (p + (rb l r 5))), Value.int (zi (q + (rb l r 1))), Value.int (zi (w + 0)), Value.int (zi r), Value.int (zi (rb l r 2)), Value.int (zi 0)] [] h66 Q
              refine xv (x_aload_n 85 d_L_accounts_84 rfl rfl) ?_
              refine xv (x_iload 87 d_L_accounts_85 rfl rfl) ?_
              refine xv (x_iconst 88 d_L_accounts_87 rfl) ?_
              obtain ⟨h88, e88, P88⟩ := A_robotOf5 (E := E) (r := r) P66 ⟨by omega, by omega⟩
              refine xv (x_inv1 91 (as := [Value.int (zi r), Value.int (zi 5)]) d_L_accounts_88 rfl c_9_203 rfl (Nat.le_of_ble_eq_true rfl) (Nat.le_of_ble_eq_true rfl) (px_o P66) (Nat.le_of_ble_eq_true rfl) (Nat.le_of_ble_eq_true rfl) rfl e88) ?_
              have q88 := rg_b5 hR (r := r) ⟨by omega, by omega⟩
              show Xv E q_m_L_accounts 91 [Value.ref x, Value.int (zi (p + (rb l r 5))), Value.int (zi (q + (rb l r 1))), Value.int (zi (w + 0)), Value.int (zi r), Value.int (zi (rb l r 2)), Value.int (zi 0)] [Value.int (zi (bI (isO l (rb l r 2) ∧ 0 < ob l (rb l r 2) 2)))] h88 Q
              refine xv (x_iload 93 d_L_accounts_91 rfl rfl) ?_
              refine v_if_eq 100 96 d_L_accounts_93 rfl rfl (by omega) (by omega) (fun k93 => ?_) (fun k93 => ?_)
              · refine xv (x_iconst 101 d_L_accounts_100 rfl) ?_
                refine v_icmp_ne 121 104 d_L_accounts_101 rfl rfl (by have := bI_r (isO l (rb l r 2) ∧ 0 < ob l (rb l r 2) 2); omega) (by have := bI_r (isO l (rb l r 2) ∧ 0 < ob l (rb l r 2) 2); omega) (by omega) (by omega) (fun k101 => ?_) (fun k101 => ?_)
                · omega
                · refine xv (x_iload 106 d_L_accounts_104 rfl rfl) ?_
                  refine v_if_lt 123 109 d_L_accounts_106 rfl rfl (by omega) (by omega) (fun k106 => ?_) (fun k106 => ?_)
                  · refine xv (x_iinc 126 d_L_accounts_123 rfl rfl) ?_
                    show Xv E q_m_L_accounts 126 [Value.ref x, Value.int (zi (p + (rb l r 5))), Value.int (zi (q + (rb l r 1))), Value.int (zi (w + 0)), Value.int (zi (r + 1)), Value.int (zi (rb l r 2)), Value.int (zi 0)] [] h88 Q
                    refine xv (x_goto 9 d_L_accounts_126 rfl) ?_
                    exact ih9 _ (by omega) (r + 1) (p + (rb l r 5)) (q + (rb l r 1)) (w + 0) _ _ _ (by omega) (by omega) (by omega) (by omega) (px_mo P88 (by omega)) rfl
                  · refine xv (x_aload_n 110 d_L_accounts_109 rfl rfl) ?_
                    refine xv (x_iload 112 d_L_accounts_110 rfl rfl) ?_
                    refine xv (x_iconst 113 d_L_accounts_112 rfl) ?_
                    obtain ⟨h113, e113, P113⟩ := A_orderOf4 (E := E) (y := (rb l r 2)) P88 ⟨by omega, by omega⟩
                    rw [show rwo l (rb l r 2) = r from rwo_is hT ⟨by omega, by omega⟩ (by omega)] at e113
                    refine xv (x_inv1 116 (as := [Value.int (zi (rb l r 2)), Value.int (zi 4)]) d_L_accounts_113 rfl c_9_225 rfl (Nat.le_of_ble_eq_true rfl) (Nat.le_of_ble_eq_true rfl) (px_o P88) (Nat.le_of_ble_eq_true rfl) (Nat.le_of_ble_eq_true rfl) rfl e113) ?_
                    have q113 := rg_a4 hR (y := (rb l r 2)) ⟨by omega, by omega⟩
                    show Xv E q_m_L_accounts 116 [Value.ref x, Value.int (zi (p + (rb l r 5))), Value.int (zi (q + (rb l r 1))), Value.int (zi (w + 0)), Value.int (zi r), Value.int (zi (rb l r 2)), Value.int (zi 0)] [Value.int (zi r)] h113 Q
                    refine xv (x_iload 118 d_L_accounts_116 rfl rfl) ?_
                    refine v_icmp_eq 123 121 d_L_accounts_118 rfl rfl (by omega) (by omega) (by omega) (by omega) (fun k118 => ?_) (fun k118 => ?_)
                    · refine xv (x_iinc 126 d_L_accounts_123 rfl rfl) ?_
                      show Xv E q_m_L_accounts 126 [Value.ref x, Value.int (zi (p + (rb l r 5))), Value.int (zi (q + (rb l r 1))), Value.int (zi (w + 0)), Value.int (zi (r + 1)), Value.int (zi (rb l r 2)), Value.int (zi 0)] [] h113 Q
                      refine xv (x_goto 9 d_L_accounts_126 rfl) ?_
                      exact ih9 _ (by omega) (r + 1) (p + (rb l r 5)) (q + (rb l r 1)) (w + 0) _ _ _ (by omega) (by omega) (by omega) (by omega) (px_mo P113 (by omega)) rfl
                    · omega
              · omega
            · omega
          · refine xv (x_iconst 44 d_L_accounts_43 rfl) ?_
            refine xv (x_goto 48 d_L_accounts_44 rfl) ?_
            refine xv (x_istore 50 d_L_accounts_48 rfl (Nat.le_of_ble_eq_true rfl)) ?_
            show Xv E q_m_L_accounts 50 [Value.ref x, Value.int (zi p), Value.int (zi q), Value.int (zi w), Value.int (zi r), Value.int (zi (rb l r 2)), Value.int (zi 1)] [] h37 Q
            refine xv (x_iload_n 51 d_L_accounts_50 rfl rfl) ?_
            refine xv (x_aload_n 52 d_L_accounts_51 rfl rfl) ?_
            refine xv (x_iload 54 d_L_accounts_52 rfl rfl) ?_
            refine xv (x_bipush 56 d_L_accounts_54 rfl rfl) ?_
            obtain ⟨h56, e56, P56⟩ := A_robotOf6 (E := E) (r := r) P37 ⟨by omega, by omega⟩
            refine xv (x_inv1 59 (as := [Value.int (zi r), Value.int (zi 6)]) d_L_accounts_56 rfl c_9_203 rfl (Nat.le_of_ble_eq_true rfl) (Nat.le_of_ble_eq_true rfl) (px_o P37) (Nat.le_of_ble_eq_true rfl) (Nat.le_of_ble_eq_true rfl) rfl e56) ?_
            have q56 := rg_b6 hR (r := r) ⟨by omega, by omega⟩
            show Xv E q_m_L_accounts 59 [Value.ref x, Value.int (zi p), Value.int (zi q), Value.int (zi w), Value.int (zi r), Value.int (zi (rb l r 2)), Value.int (zi 1)] [Value.int (zi (rb l r 5)), Value.int (zi p)] h56 Q
            refine xv (x_iadd 60 d_L_accounts_59 rfl) ?_
            refine xv (x_istore_n 61 d_L_accounts_60 rfl (Nat.le_of_ble_eq_true rfl)) ?_
            show Xv E q_m_L_accounts 61 [Value.ref x, Value.int (zi (p + (rb l r 5))), Value.int (zi q), Value.int (zi w), Value.int (zi r), Value.int (zi (rb l r 2)), Value.int (zi 1)] [] h56 Q
            refine xv (x_iload_n 62 d_L_accounts_61 rfl rfl) ?_
            refine xv (x_aload_n 63 d_L_accounts_62 rfl rfl) ?_
            refine xv (x_iload 65 d_L_accounts_63 rfl rfl) ?_
            refine xv (x_iconst 66 d_L_accounts_65 rfl) ?_
            obtain ⟨h66, e66, P66⟩ := A_robotOf1 (E := E) (r := r) P56 ⟨by omega, by omega⟩
            refine xv (x_inv1 69 (as := [Value.int (zi r), Value.int (zi 1)]) d_L_accounts_66 rfl c_9_203 rfl (Nat.le_of_ble_eq_true rfl) (Nat.le_of_ble_eq_true rfl) (px_o P56) (Nat.le_of_ble_eq_true rfl) (Nat.le_of_ble_eq_true rfl) rfl e66) ?_
            have q66 := rg_b1 hR (r := r) ⟨by omega, by omega⟩
            show Xv E q_m_L_accounts 69 [Value.ref x, Value.int (zi (p + (rb l r 5))), Value.int (zi q), Value.int (zi w), Value.int (zi r), Value.int (zi (rb l r 2)), Value.int (zi 1)] [Value.int (zi (rb l r 1)), Value.int (zi q)] h66 Q
            refine xv (x_iadd 70 d_L_accounts_69 rfl) ?_
            refine xv (x_istore_n 71 d_L_accounts_70 rfl (Nat.le_of_ble_eq_true rfl)) ?_
            show Xv E q_m_L_accounts 71 [Value.ref x, Value.int (zi (p + (rb l r 5))), Value.int (zi (q + (rb l r 1))), Value.int (zi w), Value.int (zi r), Value.int (zi (rb l r 2)), Value.int (zi 1)] [] h66 Q
            refine xv (x_iload_n 72 d_L_accounts_71 rfl rfl) ?_
            refine xv (x_iload 74 d_L_accounts_72 rfl rfl) ?_
            refine v_if_eq 81 77 d_L_accounts_74 rfl rfl (by omega) (by omega) (fun k74 => ?_) (fun k74 => ?_)
            · omega
            · refine xv (x_iconst 78 d_L_accounts_77 rfl) ?_
              refine xv (x_goto 82 d_L_accounts_78 rfl) ?_
              refine xv (x_iadd 83 d_L_accounts_82 rfl) ?_
              refine xv (x_istore_n 84 d_L_accounts_83 rfl (Nat.le_of_ble_eq_true rfl)) ?_
              show Xv E q_m_L_accounts 84 [Value.ref x, Value.int (zi (p + (rb l r 5))), Value.int (zi (q + (rb l r 1))), Value.int (zi (w + 1)), Value.int (zi r), Value.int (zi (rb l r 2)), Value.int (zi 1)] [] h66 Q
              refine xv (x_aload_n 85 d_L_accounts_84 rfl rfl) ?_
              refine xv (x_iload 87 d_L_accounts_85 rfl rfl) ?_
              refine xv (x_iconst 88 d_L_accounts_87 rfl) ?_
              obtain ⟨h88, e88, P88⟩ := A_robotOf5 (E := E) (r := r) P66 ⟨by omega, by omega⟩
              refine xv (x_inv1 91 (as := [Value.int (zi r), Value.int (zi 5)]) d_L_accounts_88 rfl c_9_203 rfl (Nat.le_of_ble_eq_true rfl) (Nat.le_of_ble_eq_true rfl) (px_o P66) (Nat.le_of_ble_eq_true rfl) (Nat.le_of_ble_eq_true rfl) rfl e88) ?_
              have q88 := rg_b5 hR (r := r) ⟨by omega, by omega⟩
              show Xv E q_m_L_accounts 91 [Value.ref x, Value.int (zi (p + (rb l r 5))), Value.int (zi (q + (rb l r 1))), Value.int (zi (w + 1)), Value.int (zi r), Value.int (zi (rb l r 2)), Value.int (zi 1)] [Value.int (zi (bI (isO l (rb l r 2) ∧ 0 < ob l (rb l r 2) 2)))] h88 Q
              refine xv (x_iload 93 d_L_accounts_91 rfl rfl) ?_
              refine v_if_eq 100 96 d_L_accounts_93 rfl rfl (by omega) (by omega) (fun k93 => ?_) (fun k93 => ?_)
              · omega
              · refine xv (x_iconst 97 d_L_accounts_96 rfl) ?_
                refine xv (x_goto 101 d_L_accounts_97 rfl) ?_
                refine v_icmp_ne 121 104 d_L_accounts_101 rfl rfl (by have := bI_r (isO l (rb l r 2) ∧ 0 < ob l (rb l r 2) 2); omega) (by have := bI_r (isO l (rb l r 2) ∧ 0 < ob l (rb l r 2) 2); omega) (by omega) (by omega) (fun k101 => ?_) (fun k101 => ?_)
                · omega
                · refine xv (x_iload 106 d_L_accounts_104 rfl rfl) ?_
                  refine v_if_lt 123 109 d_L_accounts_106 rfl rfl (by omega) (by omega) (fun k106 => ?_) (fun k106 => ?_)
                  · refine xv (x_iinc 126 d_L_accounts_123 rfl rfl) ?_
                    show Xv E q_m_L_accounts 126 [Value.ref x, Value.int (zi (p + (rb l r 5))), Value.int (zi (q + (rb l r 1))), Value.int (zi (w + 1)), Value.int (zi (r + 1)), Value.int (zi (rb l r 2)), Value.int (zi 1)] [] h88 Q
                    refine xv (x_goto 9 d_L_accounts_126 rfl) ?_
                    exact ih9 _ (by omega) (r + 1) (p + (rb l r 5)) (q + (rb l r 1)) (w + 1) _ _ _ (by omega) (by omega) (by omega) (by omega) (px_mo P88 (by omega)) rfl
                  · refine xv (x_aload_n 110 d_L_accounts_109 rfl rfl) ?_
                    refine xv (x_iload 112 d_L_accounts_110 rfl rfl) ?_
                    refine xv (x_iconst 113 d_L_accounts_112 rfl) ?_
                    obtain ⟨h113, e113, P113⟩ := A_orderOf4 (E := E) (y := (rb l r 2)) P88 ⟨by omega, by omega⟩
                    rw [show rwo l (rb l r 2) = r from rwo_is hT ⟨by omega, by omega⟩ (by omega)] at e113
                    refine xv (x_inv1 116 (as := [Value.int (zi (rb l r 2)), Value.int (zi 4)]) d_L_accounts_113 rfl c_9_225 rfl (Nat.le_of_ble_eq_true rfl) (Nat.le_of_ble_eq_true rfl) (px_o P88) (Nat.le_of_ble_eq_true rfl) (Nat.le_of_ble_eq_true rfl) rfl e113) ?_
                    have q113 := rg_a4 hR (y := (rb l r 2)) ⟨by omega, by omega⟩
                    show Xv E q_m_L_accounts 116 [Value.ref x, Value.int (zi (p + (rb l r 5))), Value.int (zi (q + (rb l r 1))), Value.int (zi (w + 1)), Value.int (zi r), Value.int (zi (rb l r 2)), Value.int (zi 1)] [Value.int (zi r)] h113 Q
                    refine xv (x_iload 118 d_L_accounts_116 rfl rfl) ?_
                    refine v_icmp_eq 123 121 d_L_accounts_118 rfl rfl (by omega) (by omega) (by omega) (by omega) (fun k118 => ?_) (fun k118 => ?_)
                    · refine xv (x_iinc 126 d_L_accounts_123 rfl rfl) ?_
                      show Xv E q_m_L_accounts 126 [Value.ref x, Value.int (zi (p + (rb l r 5))), Value.int (zi (q + (rb l r 1))), Value.int (zi (w + 1)), Value.int (zi (r + 1)), Value.int (zi (rb l r 2)), Value.int (zi 1)] [] h113 Q
                      refine xv (x_goto 9 d_L_accounts_126 rfl) ?_
                      exact ih9 _ (by omega) (r + 1) (p + (rb l r 5)) (q + (rb l r 1)) (w + 1) _ _ _ (by omega) (by omega) (by omega) (by omega) (px_mo P113 (by omega)) rfl
                    · omega
  exact L9 _ 0 0 0 0 _ _ _ (by omega) rfl rfl rfl (px_mo P (by omega)) rfl
end DAC
