/-! the law's check of orders (printed by program) -/
section DOR
variable {E : q_E} {M : q_M} {h h' h0 : q_H} {x N b L : Nat} {ys : Nat → Int32} {l ls c : Int → Int} {kl : Int → Int → Int} {nx ct n hs fa kr kd_ kb k k' v y z r t i g w : Int}
variable {T : Int} {m : Int → Int}
theorem P_orders (hT : StR T l m) (hO : JO l) (P : PX x l ls nx ct kl n c hs fa kr kd_ h0 (kb) h) : ∃ r_ h', q_cl E q_m_L_orders [Value.ref x] h = some (r_, h') ∧ (r_ = .inl (some (.int (zi 1))) ∧ PX x l ls nx ct kl n c hs fa kr kd_ h0 (kb + 230) h') := by
  suffices K : ∀ Q : q_R → q_H → Prop, (∀ r_ h', (r_ = .inl (some (.int (zi 1))) ∧ PX x l ls nx ct kl n c hs fa kr kd_ h0 (kb + 230) h') → Q r_ h') → Xv E q_m_L_orders 0 [Value.ref x, Value.null, Value.null, Value.null, Value.null, Value.null, Value.null, Value.null, Value.null, Value.null, Value.null] [] h Q from K _ fun _ _ p => p
  intro Q hQ
  have hR := P.2.1
  have gc := rg_c hR
  have gr := rg_r hR
  have go := rg_o hR
  refine xv (x_aload_n 1 d_L_orders_0 rfl rfl) ?_
  refine xv (x_iconst 2 d_L_orders_1 rfl) ?_
  obtain ⟨h2, e2, P2⟩ := A_waitingN (E := E)  P 
  refine xv (x_ins1 5 (as := [Value.ref x, Value.int (zi (-1))]) d_L_orders_2 rfl c_9_223 rfl (Nat.le_of_ble_eq_true rfl) (Nat.le_of_ble_eq_true rfl) (Nat.le_of_ble_eq_true rfl) rfl e2) ?_
  have q2 := rg_n4 hR
  show Xv E q_m_L_orders 5 [Value.ref x, Value.null, Value.null, Value.null, Value.null, Value.null, Value.null, Value.null, Value.null, Value.null, Value.null] [Value.int (zi (oin l 0))] h2 Q
  refine xv (x_istore_n 6 d_L_orders_5 rfl (Nat.le_of_ble_eq_true rfl)) ?_
  show Xv E q_m_L_orders 6 [Value.ref x, Value.int (zi (oin l 0)), Value.null, Value.null, Value.null, Value.null, Value.null, Value.null, Value.null, Value.null, Value.null] [] h2 Q
  refine xv (x_iconst 7 d_L_orders_6 rfl) ?_
  refine xv (x_istore_n 8 d_L_orders_7 rfl (Nat.le_of_ble_eq_true rfl)) ?_
  show Xv E q_m_L_orders 8 [Value.ref x, Value.int (zi (oin l 0)), Value.int (zi 0), Value.null, Value.null, Value.null, Value.null, Value.null, Value.null, Value.null, Value.null] [] h2 Q
  have L8 : ∀ (n_ : Nat) (k : Int) (a3 : Value) (a4 : Value) (a5 : Value) (h_8 : q_H), (0 ≤ k) → (k ≤ 10) → (PX x l ls nx ct kl n c hs fa kr kd_ h0 (kb + 2 * k + 1) h_8) → (oin l 0 - k).toNat = n_ → Xv E q_m_L_orders 8 [Value.ref x, Value.int (zi (oin l 0)), Value.int (zi k), a3, a4, a5, Value.null, Value.null, Value.null, Value.null, Value.null] [] h_8 Q := by
    intro n_
    induction n_ using Nat.strongRecOn with
    | _ n_ ih8 =>
      intro k a3 a4 a5 h_8 y8_0 y8_1 P_8 em
      refine xv (x_iload_n 9 d_L_orders_8 rfl rfl) ?_
      refine xv (x_iconst 10 d_L_orders_9 rfl) ?_
      refine xv (x_iadd 11 d_L_orders_10 rfl) ?_
      refine xv (x_iload_n 12 d_L_orders_11 rfl rfl) ?_
      refine v_icmp_ge 115 15 d_L_orders_12 rfl rfl (by omega) (by omega) (by omega) (by omega) (fun k12 => ?_) (fun k12 => ?_)
      · refine xv (x_iconst 116 d_L_orders_115 rfl) ?_
        refine xv (x_istore_n 117 d_L_orders_116 rfl (Nat.le_of_ble_eq_true rfl)) ?_
        show Xv E q_m_L_orders 117 [Value.ref x, Value.int (zi (oin l 0)), Value.int (zi 0), a3, a4, a5, Value.null, Value.null, Value.null, Value.null, Value.null] [] h_8 Q
        have L117 : ∀ (n_ : Nat) (y : Int) (b3 : Value) (b4 : Value) (b5 : Value) (b6 : Value) (b7 : Value) (b8 : Value) (b9 : Value) (b10 : Value) (h_117 : q_H), (0 ≤ y) → (y ≤ l 4) → (PX x l ls nx ct kl n c hs fa kr kd_ h0 (kb + 25 + 20 * y) h_117) → (l 4 - y).toNat = n_ → Xv E q_m_L_orders 117 [Value.ref x, Value.int (zi (oin l 0)), Value.int (zi y), b3, b4, b5, b6, b7, b8, b9, b10] [] h_117 Q := by
          intro n_
          induction n_ using Nat.strongRecOn with
          | _ n_ ih117 =>
            intro y b3 b4 b5 b6 b7 b8 b9 b10 h_117 y117_0 y117_1 P_117 em
            refine xv (x_iload_n 118 d_L_orders_117 rfl rfl) ?_
            refine xv (x_aload_n 119 d_L_orders_118 rfl rfl) ?_
            refine xv (x_iconst 120 d_L_orders_119 rfl) ?_
            obtain ⟨h120, e120, P120⟩ := A_account3 (E := E)  P_117 
            refine xv (x_inv1 123 (as := [Value.int (zi 3)]) d_L_orders_120 rfl c_9_109 rfl (Nat.le_of_ble_eq_true rfl) (Nat.le_of_ble_eq_true rfl) (px_o P_117) (Nat.le_of_ble_eq_true rfl) (Nat.le_of_ble_eq_true rfl) rfl e120) ?_
            have q120 := rg_n3 hR
            show Xv E q_m_L_orders 123 [Value.ref x, Value.int (zi (oin l 0)), Value.int (zi y), b3, b4, b5, b6, b7, b8, b9, b10] [Value.int (zi (l 4)), Value.int (zi y)] h120 Q
            refine v_icmp_ge 415 126 d_L_orders_123 rfl rfl (by omega) (by omega) (by omega) (by omega) (fun k123 => ?_) (fun k123 => ?_)
            · refine xv (x_aload_n 416 d_L_orders_415 rfl rfl) ?_
              refine xv (x_iload_n 417 d_L_orders_416 rfl rfl) ?_
              obtain ⟨h417, e417, P417⟩ := A_waiting (E := E)  P120 (y := (oin l 0)) (by omega) (by omega)
              rw [show dV (wor l (oin l 0)) = -2 from by rw [wr_n hT]; rfl] at e417
              refine xv (x_ins1 420 (as := [Value.ref x, Value.int (zi (oin l 0))]) d_L_orders_417 rfl c_9_223 rfl (Nat.le_of_ble_eq_true rfl) (Nat.le_of_ble_eq_true rfl) (Nat.le_of_ble_eq_true rfl) rfl e417) ?_
              have q417 := rg_wor hR (i := (oin l 0))
              show Xv E q_m_L_orders 420 [Value.ref x, Value.int (zi (oin l 0)), Value.int (zi y), b3, b4, b5, b6, b7, b8, b9, b10] [Value.int (zi (-2))] h417 Q
              refine xv (x_bipush 422 d_L_orders_420 rfl rfl) ?_
              refine v_icmp_ne 438 425 d_L_orders_422 rfl rfl (by omega) (by omega) (by omega) (by omega) (fun k422 => ?_) (fun k422 => ?_)
              · omega
              · refine xv (x_iload_n 426 d_L_orders_425 rfl rfl) ?_
                refine xv (x_aload_n 427 d_L_orders_426 rfl rfl) ?_
                refine xv (x_iconst 428 d_L_orders_427 rfl) ?_
                obtain ⟨h428, e428, P428⟩ := A_account4 (E := E)  P417 
                refine xv (x_inv1 431 (as := [Value.int (zi 4)]) d_L_orders_428 rfl c_9_109 rfl (Nat.le_of_ble_eq_true rfl) (Nat.le_of_ble_eq_true rfl) (px_o P417) (Nat.le_of_ble_eq_true rfl) (Nat.le_of_ble_eq_true rfl) rfl e428) ?_
                have q428 := rg_n4 hR
                show Xv E q_m_L_orders 431 [Value.ref x, Value.int (zi (oin l 0)), Value.int (zi y), b3, b4, b5, b6, b7, b8, b9, b10] [Value.int (zi (oin l 0)), Value.int (zi (oin l 0))] h428 Q
                refine v_icmp_ne 438 434 d_L_orders_431 rfl rfl (by omega) (by omega) (by omega) (by omega) (fun k431 => ?_) (fun k431 => ?_)
                · omega
                · refine xv (x_iconst 435 d_L_orders_434 rfl) ?_
                  refine xv (x_goto 439 d_L_orders_435 rfl) ?_
                  refine xv_r (x_ireturn d_L_orders_439 rfl rfl) ?_
                  exact hQ _ _ ⟨rfl, px_mo P428 (by omega)⟩
            · refine xv (x_aload_n 127 d_L_orders_126 rfl rfl) ?_
              refine xv (x_iload_n 128 d_L_orders_127 rfl rfl) ?_
              refine xv (x_iconst 129 d_L_orders_128 rfl) ?_
              obtain ⟨h129, e129, P129⟩ := A_orderOf3 (E := E) (y := y) P120 ⟨by omega, by omega⟩
              refine xv (x_inv1 132 (as := [Value.int (zi y), Value.int (zi 3)]) d_L_orders_129 rfl c_9_225 rfl (Nat.le_of_ble_eq_true rfl) (Nat.le_of_ble_eq_true rfl) (px_o P120) (Nat.le_of_ble_eq_true rfl) (Nat.le_of_ble_eq_true rfl) rfl e129) ?_
              have q129 := rg_a3 hR (y := y) ⟨by omega, by omega⟩
              show Xv E q_m_L_orders 132 [Value.ref x, Value.int (zi (oin l 0)), Value.int (zi y), b3, b4, b5, b6, b7, b8, b9, b10] [Value.int (zi (stc l y))] h129 Q
              refine xv (x_istore_n 133 d_L_orders_132 rfl (Nat.le_of_ble_eq_true rfl)) ?_
              show Xv E q_m_L_orders 133 [Value.ref x, Value.int (zi (oin l 0)), Value.int (zi y), Value.int (zi (stc l y)), b4, b5, b6, b7, b8, b9, b10] [] h129 Q
              refine xv (x_aload_n 134 d_L_orders_133 rfl rfl) ?_
              refine xv (x_iload_n 135 d_L_orders_134 rfl rfl) ?_
              refine xv (x_iconst 136 d_L_orders_135 rfl) ?_
              obtain ⟨h136, e136, P136⟩ := A_orderOf4 (E := E) (y := y) P129 ⟨by omega, by omega⟩
              refine xv (x_inv1 139 (as := [Value.int (zi y), Value.int (zi 4)]) d_L_orders_136 rfl c_9_225 rfl (Nat.le_of_ble_eq_true rfl) (Nat.le_of_ble_eq_true rfl) (px_o P129) (Nat.le_of_ble_eq_true rfl) (Nat.le_of_ble_eq_true rfl) rfl e136) ?_
              have q136 := rg_a4 hR (y := y) ⟨by omega, by omega⟩
              show Xv E q_m_L_orders 139 [Value.ref x, Value.int (zi (oin l 0)), Value.int (zi y), Value.int (zi (stc l y)), b4, b5, b6, b7, b8, b9, b10] [Value.int (zi (rwo l y))] h136 Q
              refine xv (x_istore 141 d_L_orders_139 rfl (Nat.le_of_ble_eq_true rfl)) ?_
              show Xv E q_m_L_orders 141 [Value.ref x, Value.int (zi (oin l 0)), Value.int (zi y), Value.int (zi (stc l y)), Value.int (zi (rwo l y)), b5, b6, b7, b8, b9, b10] [] h136 Q
              have J250 : ∀ (h_250 : q_H), (PX x l ls nx ct kl n c hs fa kr kd_ h0 (kb + 25 + 20 * y) h_250) → Xv E q_m_L_orders 250 [Value.ref x, Value.int (zi (oin l 0)), Value.int (zi y), Value.int (zi (stc l y)), Value.int (zi (rwo l y)), Value.int (zi 1), b6, b7, b8, b9, b10] [] h_250 Q := by
                intro h_250 P_250
                refine xv (x_bipush 252 d_L_orders_250 rfl rfl) ?_
                refine xv (x_istore 254 d_L_orders_252 rfl (Nat.le_of_ble_eq_true rfl)) ?_
                show Xv E q_m_L_orders 254 [Value.ref x, Value.int (zi (oin l 0)), Value.int (zi y), Value.int (zi (stc l y)), Value.int (zi (rwo l y)), Value.int (zi 1), Value.int (zi (-2)), b7, b8, b9, b10] [] h_250 Q
                refine xv (x_iconst 255 d_L_orders_254 rfl) ?_
                refine xv (x_istore 257 d_L_orders_255 rfl (Nat.le_of_ble_eq_true rfl)) ?_
                show Xv E q_m_L_orders 257 [Value.ref x, Value.int (zi (oin l 0)), Value.int (zi y), Value.int (zi (stc l y)), Value.int (zi (rwo l y)), Value.int (zi 1), Value.int (zi (-2)), Value.int (zi 0), b8, b9, b10] [] h_250 Q
                have L257 : ∀ (n_ : Nat) (r : Int) (w : Int) (c8 : Value) (c9 : Value) (c10 : Value) (h_257 : q_H), (0 ≤ r ∧ r ≤ l 3) → (SI l y r w) → (PX x l ls nx ct kl n c hs fa kr kd_ h0 (kb + 25 + 20 * y + 2 * r) h_257) → (l 3 - r).toNat = n_ → Xv E q_m_L_orders 257 [Value.ref x, Value.int (zi (oin l 0)), Value.int (zi y), Value.int (zi (stc l y)), Value.int (zi (rwo l y)), Value.int (zi 1), Value.int (zi w), Value.int (zi r), c8, c9, c10] [] h_257 Q := by
                  intro n_
                  induction n_ using Nat.strongRecOn with
                  | _ n_ ih257 =>
                    intro r w c8 c9 c10 h_257 y257_0 y257_1 P_257 em
                    have w0 := y257_1.1
                    refine xv (x_iload 259 d_L_orders_257 rfl rfl) ?_
                    refine xv (x_aload_n 260 d_L_orders_259 rfl rfl) ?_
                    refine xv (x_iconst 261 d_L_orders_260 rfl) ?_
                    obtain ⟨h261, e261, P261⟩ := A_account2 (E := E)  P_257 
                    refine xv (x_inv1 264 (as := [Value.int (zi 2)]) d_L_orders_261 rfl c_9_109 rfl (Nat.le_of_ble_eq_true rfl) (Nat.le_of_ble_eq_true rfl) (px_o P_257) (Nat.le_of_ble_eq_true rfl) (Nat.le_of_ble_eq_true rfl) rfl e261) ?_
                    have q261 := rg_n2 hR
                    show Xv E q_m_L_orders 264 [Value.ref x, Value.int (zi (oin l 0)), Value.int (zi y), Value.int (zi (stc l y)), Value.int (zi (rwo l y)), Value.int (zi 1), Value.int (zi w), Value.int (zi r), c8, c9, c10] [Value.int (zi (l 3)), Value.int (zi r)] h261 Q
                    refine v_icmp_ge 397 267 d_L_orders_264 rfl rfl (by omega) (by omega) (by omega) (by omega) (fun k264 => ?_) (fun k264 => ?_)
                    · refine xv (x_aload_n 398 d_L_orders_397 rfl rfl) ?_
                      refine xv (x_iload_n 399 d_L_orders_398 rfl rfl) ?_
                      obtain ⟨h399, e399, P399⟩ := A_suited (E := E) (y := y) P261 ⟨by omega, by omega⟩
                      rw [show dV (suiV l y) = w from si_e y257_1 (by omega)] at e399
                      refine xv (x_ins1 402 (as := [Value.ref x, Value.int (zi y)]) d_L_orders_399 rfl c_9_231 rfl (Nat.le_of_ble_eq_true rfl) (Nat.le_of_ble_eq_true rfl) (Nat.le_of_ble_eq_true rfl) rfl e399) ?_
                      show Xv E q_m_L_orders 402 [Value.ref x, Value.int (zi (oin l 0)), Value.int (zi y), Value.int (zi (stc l y)), Value.int (zi (rwo l y)), Value.int (zi 1), Value.int (zi w), Value.int (zi r), c8, c9, c10] [Value.int (zi w)] h399 Q
                      refine xv (x_iload 404 d_L_orders_402 rfl rfl) ?_
                      refine v_icmp_eq 409 407 d_L_orders_404 rfl rfl (by omega) (by omega) (by omega) (by omega) (fun k404 => ?_) (fun k404 => ?_)
                      · refine xv (x_iinc 412 d_L_orders_409 rfl rfl) ?_
                        show Xv E q_m_L_orders 412 [Value.ref x, Value.int (zi (oin l 0)), Value.int (zi (y + 1)), Value.int (zi (stc l y)), Value.int (zi (rwo l y)), Value.int (zi 1), Value.int (zi w), Value.int (zi r), c8, c9, c10] [] h399 Q
                        refine xv (x_goto 117 d_L_orders_412 rfl) ?_
                        exact ih117 _ (by omega) (y + 1) _ _ _ _ _ _ _ _ _ (by omega) (by omega) (px_mo P399 (by omega)) rfl
                      · omega
                    · refine xv (x_aload_n 268 d_L_orders_267 rfl rfl) ?_
                      refine xv (x_iload 270 d_L_orders_268 rfl rfl) ?_
                      refine xv (x_iconst 271 d_L_orders_270 rfl) ?_
                      obtain ⟨h271, e271, P271⟩ := A_robotOf2 (E := E) (r := r) P261 ⟨by omega, by omega⟩
                      refine xv (x_inv1 274 (as := [Value.int (zi r), Value.int (zi 2)]) d_L_orders_271 rfl c_9_203 rfl (Nat.le_of_ble_eq_true rfl) (Nat.le_of_ble_eq_true rfl) (px_o P261) (Nat.le_of_ble_eq_true rfl) (Nat.le_of_ble_eq_true rfl) rfl e271) ?_
                      have q271 := rg_b2 hR (r := r) ⟨by omega, by omega⟩
                      show Xv E q_m_L_orders 274 [Value.ref x, Value.int (zi (oin l 0)), Value.int (zi y), Value.int (zi (stc l y)), Value.int (zi (rwo l y)), Value.int (zi 1), Value.int (zi w), Value.int (zi r), c8, c9, c10] [Value.int (zi (rb l r 2))] h271 Q
                      refine v_if_lt 282 277 d_L_orders_274 rfl rfl (by omega) (by omega) (fun k274 => ?_) (fun k274 => ?_)
                      · refine xv (x_aload_n 283 d_L_orders_282 rfl rfl) ?_
                        refine xv (x_aload_n 284 d_L_orders_283 rfl rfl) ?_
                        refine xv (x_iload 286 d_L_orders_284 rfl rfl) ?_
                        refine xv (x_iconst 287 d_L_orders_286 rfl) ?_
                        obtain ⟨h287, e287, P287⟩ := A_robotOf0 (E := E) (r := r) P271 ⟨by omega, by omega⟩
                        refine xv (x_inv1 290 (as := [Value.int (zi r), Value.int (zi 0)]) d_L_orders_287 rfl c_9_203 rfl (Nat.le_of_ble_eq_true rfl) (Nat.le_of_ble_eq_true rfl) (px_o P271) (Nat.le_of_ble_eq_true rfl) (Nat.le_of_ble_eq_true rfl) rfl e287) ?_
                        have q287 := rg_b0 hR (r := r) ⟨by omega, by omega⟩
                        show Xv E q_m_L_orders 290 [Value.ref x, Value.int (zi (oin l 0)), Value.int (zi y), Value.int (zi (stc l y)), Value.int (zi (rwo l y)), Value.int (zi 1), Value.int (zi w), Value.int (zi r), c8, c9, c10] [Value.int (zi (rb l r 0)), Value.ref x] h287 Q
                        refine xv (x_aload_n 291 d_L_orders_290 rfl rfl) ?_
                        refine xv (x_iload_n 292 d_L_orders_291 rfl rfl) ?_
                        refine xv (x_iconst 293 d_L_orders_292 rfl) ?_
                        obtain ⟨h293, e293, P293⟩ := A_line0 (E := E) (y := y) P287 ⟨by omega, by omega⟩ (by have := rg_a1 hR (y := y) ⟨by omega, by omega⟩; omega)
                        refine xv (x_inv1 296 (as := [Value.int (zi y), Value.int (zi 0)]) d_L_orders_293 rfl c_9_228 rfl (Nat.le_of_ble_eq_true rfl) (Nat.le_of_ble_eq_true rfl) (px_o P287) (Nat.le_of_ble_eq_true rfl) (Nat.le_of_ble_eq_true rfl) rfl e293) ?_
                        have q293 := rg_l0 hR (y := y) ⟨by omega, by omega⟩
                        show Xv E q_m_L_orders 296 [Value.ref x, Value.int (zi (oin l 0)), Value.int (zi y), Value.int (zi (stc l y)), Value.int (zi (rwo l y)), Value.int (zi 1), Value.int (zi w), Value.int (zi r), c8, c9, c10] [Value.int (zi (ob l y (5 + 0))), Value.int (zi (rb l r 0)), Value.ref x] h293 Q
                        obtain ⟨h296, e296, P296⟩ := A_distance (E := E) (y := (rb l r 0)) (z := (ob l y (5 + 0))) P293 ⟨by omega, by omega⟩ ⟨by omega, by omega⟩
                        refine xv (x_ins1 299 (as := [Value.ref x, Value.int (zi (rb l r 0)), Value.int (zi (ob l y (5 + 0)))]) d_L_orders_296 rfl c_9_201 rfl (Nat.le_of_ble_eq_true rfl) (Nat.le_of_ble_eq_true rfl) (Nat.le_of_ble_eq_true rfl) rfl e296) ?_
                        have q296 := rg_far hR (y := (rb l r 0)) (z := (ob l y (5 + 0))) ⟨by omega, by omega⟩
                        have u296 := dV_c (v := far l (rb l r 0) (ob l y (5 + 0))) (far_r hR (a := (rb l r 0)) ⟨by omega, by omega⟩ (ob l y (5 + 0))).1.1
                        show Xv E q_m_L_orders 299 [Value.ref x, Value.int (zi (oin l 0)), Value.int (zi y), Value.int (zi (stc l y)), Value.int (zi (rwo l y)), Value.int (zi 1), Value.int (zi w), Value.int (zi r), c8, c9, c10] [Value.int (zi (dV (far l (rb l r 0) (ob l y (5 + 0)))))] h296 Q
                        refine xv (x_istore 301 d_L_orders_299 rfl (Nat.le_of_ble_eq_true rfl)) ?_
                        show Xv E q_m_L_orders 301 [Value.ref x, Value.int (zi (oin l 0)), Value.int (zi y), Value.int (zi (stc l y)), Value.int (zi (rwo l y)), Value.int (zi 1), Value.int (zi w), Value.int (zi r), Value.int (zi (dV (far l (rb l r 0) (ob l y (5 + 0))))), c9, c10] [] h296 Q
                        refine xv (x_iload 303 d_L_orders_301 rfl rfl) ?_
                        refine v_if_ge 310 306 d_L_orders_303 rfl rfl (by omega) (by omega) (fun k303 => ?_) (fun k303 => ?_)
                        · refine xv (x_aload_n 311 d_L_orders_310 rfl rfl) ?_
                          refine xv (x_aload_n 312 d_L_orders_311 rfl rfl) ?_
                          refine xv (x_iload 314 d_L_orders_312 rfl rfl) ?_
                          refine xv (x_iconst 315 d_L_orders_314 rfl) ?_
                          obtain ⟨h315, e315, P315⟩ := A_robotOf0 (E := E) (r := w) P296 ⟨by omega, by omega⟩
                          refine xv (x_inv1 318 (as := [Value.int (zi w), Value.int (zi 0)]) d_L_orders_315 rfl c_9_203 rfl (Nat.le_of_ble_eq_true rfl) (Nat.le_of_ble_eq_true rfl) (px_o P296) (Nat.le_of_ble_eq_true rfl) (Nat.le_of_ble_eq_true rfl) rfl e315) ?_
                          have q315 := rg_b0 hR (r := w) ⟨by omega, by omega⟩
                          show Xv E q_m_L_orders 318 [Value.ref x, Value.int (zi (oin l 0)), Value.int (zi y), Value.int (zi (stc l y)), Value.int (zi (rwo l y)), Value.int (zi 1), Value.int (zi w), Value.int (zi r), Value.int (zi (dV (far l (rb l r 0) (ob l y (5 + 0))))), c9, c10] [Value.int (zi (rb l w 0)), Value.ref x] h315 Q
                          refine xv (x_aload_n 319 d_L_orders_318 rfl rfl) ?_
                          refine xv (x_iload_n 320 d_L_orders_319 rfl rfl) ?_
                          refine xv (x_iconst 321 d_L_orders_320 rfl) ?_
                          obtain ⟨h321, e321, P321⟩ := A_line0 (E := E) (y := y) P315 ⟨by omega, by omega⟩ (by have := rg_a1 hR (y := y) ⟨by omega, by omega⟩; omega)
                          refine xv (x_inv1 324 (as := [Value.int (zi y), Value.int (zi 0)]) d_L_orders_321 rfl c_9_228 rfl (Nat.le_of_ble_eq_true rfl) (Nat.le_of_ble_eq_true rfl) (px_o P315) (Nat.le_of_ble_eq_true rfl) (Nat.le_of_ble_eq_true rfl) rfl e321) ?_
                          have q321 := rg_l0 hR (y := y) ⟨by omega, by omega⟩
                          show Xv E q_m_L_orders 324 [Value.ref x, Value.int (zi (oin l 0)), Value.int (zi y), Value.int (zi (stc l y)), Value.int (zi (rwo l y)), Value.int (zi 1), Value.int (zi w), Value.int (zi r), Value.int (zi (dV (far l (rb l r 0) (ob l y (5 + 0))))), c9, c10] [Value.int (zi (ob l y (5 + 0))), Value.int (zi (rb l w 0)), Value.ref x] h321 Q
                          obtain ⟨h324, e324, P324⟩ := A_distance (E := E) (y := (rb l w 0)) (z := (ob l y (5 + 0))) P321 ⟨by omega, by omega⟩ ⟨by omega, by omega⟩
                          refine xv (x_ins1 327 (as := [Value.ref x, Value.int (zi (rb l w 0)), Value.int (zi (ob l y (5 + 0)))]) d_L_orders_324 rfl c_9_201 rfl (Nat.le_of_ble_eq_true rfl) (Nat.le_of_ble_eq_true rfl) (Nat.le_of_ble_eq_true rfl) rfl e324) ?_
                          have q324 := rg_far hR (y := (rb l w 0)) (z := (ob l y (5 + 0))) ⟨by omega, by omega⟩
                          have u324 := dV_c (v := far l (rb l w 0) (ob l y (5 + 0))) (far_r hR (a := (rb l w 0)) ⟨by omega, by omega⟩ (ob l y (5 + 0))).1.1
                          show Xv E q_m_L_orders 327 [Value.ref x, Value.int (zi (oin l 0)), Value.int (zi y), Value.int (zi (stc l y)), Value.int (zi (rwo l y)), Value.int (zi 1), Value.int (zi w), Value.int (zi r), Value.int (zi (dV (far l (rb l r 0) (ob l y (5 + 0))))), c9, c10] [Value.int (zi (dV (far l (rb l w 0) (ob l y (5 + 0)))))] h324 Q
                          refine xv (x_istore 329 d_L_orders_327 rfl (Nat.le_of_ble_eq_true rfl)) ?_
                          show Xv E q_m_L_orders 329 [Value.ref x, Value.int (zi (oin l 0)), Value.int (zi y), Value.int (zi (stc l y)), Value.int (zi (rwo l y)), Value.int (zi 1), Value.int (zi w), Value.int (zi r), Value.int (zi (dV (far l (rb l r 0) (ob l y (5 + 0))))), Value.int (zi (dV (far l (rb l w 0) (ob l y (5 + 0))))), c10] [] h324 Q
                          refine xv (x_iload 331 d_L_orders_329 rfl rfl) ?_
                          refine v_if_lt 374 334 d_L_orders_331 rfl rfl (by omega) (by omega) (fun k331 => ?_) (fun k331 => ?_)
                          · refine xv (x_iconst 375 d_L_orders_374 rfl) ?_
                            refine xv (x_istore 377 d_L_orders_375 rfl (Nat.le_of_ble_eq_true rfl)) ?_
                            show Xv E q_m_L_orders 377 [Value.ref x, Value.int (zi (oin l 0)), Value.int (zi y), Value.int (zi (stc l y)), Value.int (zi (rwo l y)), Value.int (zi 1), Value.int (zi w), Value.int (zi r), Value.int (zi (dV (far l (rb l r 0) (ob l y (5 + 0))))), Value.int (zi (dV (far l (rb l w 0) (ob l y (5 + 0))))), Value.int (zi 0)] [] h324 Q
                            refine xv (x_iload 379 d_L_orders_377 rfl rfl) ?_
                            refine v_if_eq 387 382 d_L_orders_379 rfl rfl (by omega) (by omega) (fun k379 => ?_) (fun k379 => ?_)
                            · refine xv (x_iload 389 d_L_orders_387 rfl rfl) ?_
                              refine xv (x_istore 391 d_L_orders_389 rfl (Nat.le_of_ble_eq_true rfl)) ?_
                              show Xv E q_m_L_orders 391 [Value.ref x, Value.int (zi (oin l 0)), Value.int (zi y), Value.int (zi (stc l y)), Value.int (zi (rwo l y)), Value.int (zi 1), Value.int (zi w), Value.int (zi r), Value.int (zi (dV (far l (rb l r 0) (ob l y (5 + 0))))), Value.int (zi (dV (far l (rb l w 0) (ob l y (5 + 0))))), Value.int (zi 0)] [] h324 Q
                              refine xv (x_iinc 394 d_L_orders_391 rfl rfl) ?_
                              show Xv E q_m_L_orders 394 [Value.ref x, Value.int (zi (oin l 0)), Value.int (zi y), Value.int (zi (stc l y)), Value.int (zi (rwo l y)), Value.int (zi 1), Value.int (zi w), Value.int (zi (r + 1)), Value.int (zi (dV (far l (rb l r 0) (ob l y (5 + 0))))), Value.int (zi (dV (far l (rb l w 0) (ob l y (5 + 0))))), Value.int (zi 0)] [] h324 Q
                              refine xv (x_goto 257 d_L_orders_394 rfl) ?_
                              have SZ := si_n y257_1 ⟨by omega, by omega⟩ (by omega)
                              exact ih257 _ (by omega) (r + 1) w _ _ _ _ (by omega) SZ (px_mo P324 (by omega)) rfl
                            · omega
                          · refine xv (x_iload 336 d_L_orders_334 rfl rfl) ?_
                            refine v_if_lt 370 339 d_L_orders_336 rfl rfl (by omega) (by omega) (fun k336 => ?_) (fun k336 => ?_)
                            · refine xv (x_iconst 371 d_L_orders_370 rfl) ?_
                              refine xv (x_goto 375 d_L_orders_371 rfl) ?_
                              refine xv (x_istore 377 d_L_orders_375 rfl (Nat.le_of_ble_eq_true rfl)) ?_
                              show Xv E q_m_L_orders 377 [Value.ref x, Value.int (zi (oin l 0)), Value.int (zi y), Value.int (zi (stc l y)), Value.int (zi (rwo l y)), Value.int (zi 1), Value.int (zi w), Value.int (zi r), Value.int (zi (dV (far l (rb l r 0) (ob l y (5 + 0))))), Value.int (zi (dV (far l (rb l w 0) (ob l y (5 + 0))))), Value.int (zi 1)] [] h324 Q
                              refine xv (x_iload 379 d_L_orders_377 rfl rfl) ?_
                              refine v_if_eq 387 382 d_L_orders_379 rfl rfl (by omega) (by omega) (fun k379 => ?_) (fun k379 => ?_)
                              · omega
                              · refine xv (x_iload 384 d_L_orders_382 rfl rfl) ?_
                                refine xv (x_goto 389 d_L_orders_384 rfl) ?_
                                refine xv (x_istore 391 d_L_orders_389 rfl (Nat.le_of_ble_eq_true rfl)) ?_
                                show Xv E q_m_L_orders 391 [Value.ref x, Value.int (zi (oin l 0)), Value.int (zi y), Value.int (zi (stc l y)), Value.int (zi (rwo l y)), Value.int (zi 1), Value.int (zi r), Value.int (zi r), Value.int (zi (dV (far l (rb l r 0) (ob l y (5 + 0))))), Value.int (zi (dV (far l (rb l w 0) (ob l y (5 + 0))))), Value.int (zi 1)] [] h324 Q
                                refine xv (x_iinc 394 d_L_orders_391 rfl rfl) ?_
                                show Xv E q_m_L_orders 394 [Value.ref x, Value.int (zi (oin l 0)), Value.int (zi y), Value.int (zi (stc l y)), Value.int (zi (rwo l y)), Value.int (zi 1), Value.int (zi r), Value.int (zi (r + 1)), Value.int (zi (dV (far l (rb l r 0) (ob l y (5 + 0))))), Value.int (zi (dV (far l (rb l w 0) (ob l y (5 + 0))))), Value.int (zi 1)] [] h324 Q
                                refine xv (x_goto 257 d_L_orders_394 rfl) ?_
                                have SZ := si_y y257_1 ⟨by omega, by omega⟩ (by omega) (by omega) (by omega)
                                exact ih257 _ (by omega) (r + 1) r _ _ _ _ (by omega) SZ (px_mo P324 (by omega)) rfl
                            · refine xv (x_iload 341 d_L_orders_339 rfl rfl) ?_
                              refine xv (x_iload 343 d_L_orders_341 rfl rfl) ?_
                              refine v_icmp_lt 370 346 d_L_orders_343 rfl rfl (by omega) (by omega) (by omega) (by omega) (fun k343 => ?_) (fun k343 => ?_)
                              · refine xv (x_iconst 371 d_L_orders_370 rfl) ?_
                                refine xv (x_goto 375 d_L_orders_371 rfl) ?_
                                refine xv (x_istore 377 d_L_orders_375 rfl (Nat.le_of_ble_eq_true rfl)) ?_
                                show Xv E q_m_L_orders 377 [Value.ref x, Value.int (zi (oin l 0)), Value.int (zi y), Value.int (zi (stc l y)), Value.int (zi (rwo l y)), Value.int (zi 1), Value.int (zi w), Value.int (zi r), Value.int (zi (dV (far l (rb l r 0) (ob l y (5 + 0))))), Value.int (zi (dV (far l (rb l w 0) (ob l y (5 + 0))))), Value.int (zi 1)] [] h324 Q
                                refine xv (x_iload 379 d_L_orders_377 rfl rfl) ?_
                                refine v_if_eq 387 382 d_L_orders_379 rfl rfl (by omega) (by omega) (fun k379 => ?_) (fun k379 => ?_)
                                · omega
                                · refine xv (x_iload 384 d_L_orders_382 rfl rfl) ?_
                                  refine xv (x_goto 389 d_L_orders_384 rfl) ?_
                                  refine xv (x_istore 391 d_L_orders_389 rfl (Nat.le_of_ble_eq_true rfl)) ?_
                                  show Xv E q_m_L_orders 391 [Value.ref x, Value.int (zi (oin l 0)), Value.int (zi y), Value.int (zi (stc l y)), Value.int (zi (rwo l y)), Value.int (zi 1), Value.int (zi r), Value.int (zi r), Value.int (zi (dV (far l (rb l r 0) (ob l y (5 + 0))))), Value.int (zi (dV (far l (rb l w 0) (ob l y (5 + 0))))), Value.int (zi 1)] [] h324 Q
                                  refine xv (x_iinc 394 d_L_orders_391 rfl rfl) ?_
                                  show Xv E q_m_L_orders 394 [Value.ref x, Value.int (zi (oin l 0)), Value.int (zi y), Value.int (zi (stc l y)), Value.int (zi (rwo l y)), Value.int (zi 1), Value.int (zi r), Value.int (zi (r + 1)), Value.int (zi (dV (far l (rb l r 0) (ob l y (5 + 0))))), Value.int (zi (dV (far l (rb l w 0) (ob l y (5 + 0))))), Value.int (zi 1)] [] h324 Q
                                  refine xv (x_goto 257 d_L_orders_394 rfl) ?_
                                  have SZ := si_y y257_1 ⟨by omega, by omega⟩ (by omega) (by omega) (by omega)
                                  exact ih257 _ (by omega) (r + 1) r _ _ _ _ (by omega) SZ (px_mo P324 (by omega)) rfl
                              · refine xv (x_iload 348 d_L_orders_346 rfl rfl) ?_
                                refine xv (x_iload 350 d_L_orders_348 rfl rfl) ?_
                                refine v_icmp_ne 374 353 d_L_orders_350 rfl rfl (by omega) (by omega) (by omega) (by omega) (fun k350 => ?_) (fun k350 => ?_)
                                · refine xv (x_iconst 375 d_L_orders_374 rfl) ?_
                                  refine xv (x_istore 377 d_L_orders_375 rfl (Nat.le_of_ble_eq_true rfl)) ?_
                                  show Xv E q_m_L_orders 377 [Value.ref x, Value.int (zi (oin l 0)), Value.int (zi y), Value.int (zi (stc l y)), Value.int (zi (rwo l y)), Value.int (zi 1), Value.int (zi w), Value.int (zi r), Value.int (zi (dV (far l (rb l r 0) (ob l y (5 + 0))))), Value.int (zi (dV (far l (rb l w 0) (ob l y (5 + 0))))), Value.int (zi 0)] [] h324 Q
                                  refine xv (x_iload 379 d_L_orders_377 rfl rfl) ?_
                                  refine v_if_eq 387 382 d_L_orders_379 rfl rfl (by omega) (by omega) (fun k379 => ?_) (fun k379 => ?_)
                                  · refine xv (x_iload 389 d_L_orders_387 rfl rfl) ?_
                                    refine xv (x_istore 391 d_L_orders_389 rfl (Nat.le_of_ble_eq_true rfl)) ?_
                                    show Xv E q_m_L_orders 391 [Value.ref x, Value.int (zi (oin l 0)), Value.int (zi y), Value.int (zi (stc l y)), Value.int (zi (rwo l y)), Value.int (zi 1), Value.int (zi w), Value.int (zi r), Value.int (zi (dV (far l (rb l r 0) (ob l y (5 + 0))))), Value.int (zi (dV (far l (rb l w 0) (ob l y (5 + 0))))), Value.int (zi 0)] [] h324 Q
                                    refine xv (x_iinc 394 d_L_orders_391 rfl rfl) ?_
                                    show Xv E q_m_L_orders 394 [Value.ref x, Value.int (zi (oin l 0)), Value.int (zi y), Value.int (zi (stc l y)), Value.int (zi (rwo l y)), Value.int (zi 1), Value.int (zi w), Value.int (zi (r + 1)), Value.int (zi (dV (far l (rb l r 0) (ob l y (5 + 0))))), Value.int (zi (dV (far l (rb l w 0) (ob l y (5 + 0))))), Value.int (zi 0)] [] h324 Q
                                    refine xv (x_goto 257 d_L_orders_394 rfl) ?_
                                    have SZ := si_n y257_1 ⟨by omega, by omega⟩ (by omega)
                                    exact ih257 _ (by omega) (r + 1) w _ _ _ _ (by omega) SZ (px_mo P324 (by omega)) rfl
                                  · omega
                                · refine xv (x_aload_n 354 d_L_orders_353 rfl rfl) ?_
                                  refine xv (x_iload 356 d_L_orders_354 rfl rfl) ?_
                                  refine xv (x_iconst 357 d_L_orders_356 rfl) ?_
                                  obtain ⟨h357, e357, P357⟩ := A_robotOf1 (E := E) (r := r) P324 ⟨by omega, by omega⟩
                                  refine xv (x_inv1 360 (as := [Value.int (zi r), Value.int (zi 1)]) d_L_orders_357 rfl c_9_203 rfl (Nat.le_of_ble_eq_true rfl) (Nat.le_of_ble_eq_true rfl) (px_o P324) (Nat.le_of_ble_eq_true rfl) (Nat.le_of_ble_eq_true rfl) rfl e357) ?_
                                  have q357 := rg_b1 hR (r := r) ⟨by omega, by omega⟩
                                  show Xv E q_m_L_orders 360 [Value.ref x, Value.int (zi (oin l 0)), Value.int (zi y), Value.int (zi (stc l y)), Value.int (zi (rwo l y)), Value.int (zi 1), Value.int (zi w), Value.int (zi r), Value.int (zi (dV (far l (rb l r 0) (ob l y (5 + 0))))), Value.int (zi (dV (far l (rb l w 0) (ob l y (5 + 0))))), c10] [Value.int (zi (rb l r 1))] h357 Q
                                  refine xv (x_aload_n 361 d_L_orders_360 rfl rfl) ?_
                                  refine xv (x_iload 363 d_L_orders_361 rfl rfl) ?_
                                  refine xv (x_iconst 364 d_L_orders_363 rfl) ?_
                                  obtain ⟨h364, e364, P364⟩ := A_robotOf1 (E := E) (r := w) P357 ⟨by omega, by omega⟩
                                  refine xv (x_inv1 367 (as := [Value.int (zi w), Value.int (zi 1)]) d_L_orders_364 rfl c_9_203 rfl (Nat.le_of_ble_eq_true rfl) (Nat.le_of_ble_eq_true rfl) (px_o P357) (Nat.le_of_ble_eq_true rfl) (Nat.le_of_ble_eq_true rfl) rfl e364) ?_
                                  have q364 := rg_b1 hR (r := w) ⟨by omega, by omega⟩
                                  show Xv E q_m_L_orders 367 [Value.ref x, Value.int (zi (oin l 0)), Value.int (zi y), Value.int (zi (stc l y)), Value.int (zi (rwo l y)), Value.int (zi 1), Value.int (zi w), Value.int (zi r), Value.int (zi (dV (far l (rb l r 0) (ob l y (5 + 0))))), Value.int (zi (dV (far l (rb l w 0) (ob l y (5 + 0))))), c10] [Value.int (zi (rb l w 1)), Value.int (zi (rb l r 1))] h364 Q
                                  refine v_icmp_le 374 370 d_L_orders_367 rfl rfl (by omega) (by omega) (by omega) (by omega) (fun k367 => ?_) (fun k367 => ?_)
                                  · refine xv (x_iconst 375 d_L_orders_374 rfl) ?_
                                    refine xv (x_istore 377 d_L_orders_375 rfl (Nat.le_of_ble_eq_true rfl)) ?_
                                    show Xv E q_m_L_orders 377 [Value.ref x, Value.int (zi (oin l 0)), Value.int (zi y), Value.int (zi (stc l y)), Value.int (zi (rwo l y)), Value.int (zi 1), Value.int (zi w), Value.int (zi r), Value.int (zi (dV (far l (rb l r 0) (ob l y (5 + 0))))), Value.int (zi (dV (far l (rb l w 0) (ob l y (5 + 0))))), Value.int (zi 0)] [] h364 Q
                                    refine xv (x_iload 379 d_L_orders_377 rfl rfl) ?_
                                    refine v_if_eq 387 382 d_L_orders_379 rfl rfl (by omega) (by omega) (fun k379 => ?_) (fun k379 => ?_)
                                    · refine xv (x_iload 389 d_L_orders_387 rfl rfl) ?_
                                      refine xv (x_istore 391 d_L_orders_389 rfl (Nat.le_of_ble_eq_true rfl)) ?_
                                      show Xv E q_m_L_orders 391 [Value.ref x, Value.int (zi (oin l 0)), Value.int (zi y), Value.int (zi (stc l y)), Value.int (zi (rwo l y)), Value.int (zi 1), Value.int (zi w), Value.int (zi r), Value.int (zi (dV (far l (rb l r 0) (ob l y (5 + 0))))), Value.int (zi (dV (far l (rb l w 0) (ob l y (5 + 0))))), Value.int (zi 0)] [] h364 Q
                                      refine xv (x_iinc 394 d_L_orders_391 rfl rfl) ?_
                                      show Xv E q_m_L_orders 394 [Value.ref x, Value.int (zi (oin l 0)), Value.int (zi y), Value.int (zi (stc l y)), Value.int (zi (rwo l y)), Value.int (zi 1), Value.int (zi w), Value.int (zi (r + 1)), Value.int (zi (dV (far l (rb l r 0) (ob l y (5 + 0))))), Value.int (zi (dV (far l (rb l w 0) (ob l y (5 + 0))))), Value.int (zi 0)] [] h364 Q
                                      refine xv (x_goto 257 d_L_orders_394 rfl) ?_
                                      have SZ := si_n y257_1 ⟨by omega, by omega⟩ (by omega)
                                      exact ih257 _ (by omega) (r + 1) w _ _ _ _ (by omega) SZ (px_mo P364 (by omega)) rfl
                                    · omega
                                  · refine xv (x_iconst 371 d_L_orders_370 rfl) ?_
                                    refine xv (x_goto 375 d_L_orders_371 rfl) ?_
                                    refine xv (x_istore 377 d_L_orders_375 rfl (Nat.le_of_ble_eq_true rfl)) ?_
                                    show Xv E q_m_L_orders 377 [Value.ref x, Value.int (zi (oin l 0)), Value.int (zi y), Value.int (zi (stc l y)), Value.int (zi (rwo l y)), Value.int (zi 1), Value.int (zi w), Value.int (zi r), Value.int (zi (dV (far l (rb l r 0) (ob l y (5 + 0))))), Value.int (zi (dV (far l (rb l w 0) (ob l y (5 + 0))))), Value.int (zi 1)] [] h364 Q
                                    refine xv (x_iload 379 d_L_orders_377 rfl rfl) ?_
                                    refine v_if_eq 387 382 d_L_orders_379 rfl rfl (by omega) (by omega) (fun k379 => ?_) (fun k379 => ?_)
                                    · omega
                                    · refine xv (x_iload 384 d_L_orders_382 rfl rfl) ?_
                                      refine xv (x_goto 389 d_L_orders_384 rfl) ?_
                                      refine xv (x_istore 391 d_L_orders_389 rfl (Nat.le_of_ble_eq_true rfl)) ?_
                                      show Xv E q_m_L_orders 391 [Value.ref x, Value.int (zi (oin l 0)), Value.int (zi y), Value.int (zi (stc l y)), Value.int (zi (rwo l y)), Value.int (zi 1), Value.int (zi r), Value.int (zi r), Value.int (zi (dV (far l (rb l r 0) (ob l y (5 + 0))))), Value.int (zi (dV (far l (rb l w 0) (ob l y (5 + 0))))), Value.int (zi 1)] [] h364 Q
                                      refine xv (x_iinc 394 d_L_orders_391 rfl rfl) ?_
                                      show Xv E q_m_L_orders 394 [Value.ref x, Value.int (zi (oin l 0)), Value.int (zi y), Value.int (zi (stc l y)), Value.int (zi (rwo l y)), Value.int (zi 1), Value.int (zi r), Value.int (zi (r + 1)), Value.int (zi (dV (far l (rb l r 0) (ob l y (5 + 0))))), Value.int (zi (dV (far l (rb l w 0) (ob l y (5 + 0))))), Value.int (zi 1)] [] h364 Q
                                      refine xv (x_goto 257 d_L_orders_394 rfl) ?_
                                      have SZ := si_y y257_1 ⟨by omega, by omega⟩ (by omega) (by omega) (by omega)
                                      exact ih257 _ (by omega) (r + 1) r _ _ _ _ (by omega) SZ (px_mo P364 (by omega)) rfl
                        · refine xv (x_iconst 307 d_L_orders_306 rfl) ?_
                          refine xv (x_goto 327 d_L_orders_307 rfl) ?_
                          refine xv (x_istore 329 d_L_orders_327 rfl (Nat.le_of_ble_eq_true rfl)) ?_
                          show Xv E q_m_L_orders 329 [Value.ref x, Value.int (zi (oin l 0)), Value.int (zi y), Value.int (zi (stc l y)), Value.int (zi (rwo l y)), Value.int (zi 1), Value.int (zi w), Value.int (zi r), Value.int (zi (dV (far l (rb l r 0) (ob l y (5 + 0))))), Value.int (zi 0), c10] [] h296 Q
                          refine xv (x_iload 331 d_L_orders_329 rfl rfl) ?_
                          refine v_if_lt 374 334 d_L_orders_331 rfl rfl (by omega) (by omega) (fun k331 => ?_) (fun k331 => ?_)
                          · refine xv (x_iconst 375 d_L_orders_374 rfl) ?_
                            refine xv (x_istore 377 d_L_orders_375 rfl (Nat.le_of_ble_eq_true rfl)) ?_
                            show Xv E q_m_L_orders 377 [Value.ref x, Value.int (zi (oin l 0)), Value.int (zi y), Value.int (zi (stc l y)), Value.int (zi (rwo l y)), Value.int (zi 1), Value.int (zi w), Value.int (zi r), Value.int (zi (dV (far l (rb l r 0) (ob l y (5 + 0))))), Value.int (zi 0), Value.int (zi 0)] [] h296 Q
                            refine xv (x_iload 379 d_L_orders_377 rfl rfl) ?_
                            refine v_if_eq 387 382 d_L_orders_379 rfl rfl (by omega) (by omega) (fun k379 => ?_) (fun k379 => ?_)
                            · refine xv (x_iload 389 d_L_orders_387 rfl rfl) ?_
                              refine xv (x_istore 391 d_L_orders_389 rfl (Nat.le_of_ble_eq_true rfl)) ?_
                              show Xv E q_m_L_orders 391 [Value.ref x, Value.int (zi (oin l 0)), Value.int (zi y), Value.int (zi (stc l y)), Value.int (zi (rwo l y)), Value.int (zi 1), Value.int (zi w), Value.int (zi r), Value.int (zi (dV (far l (rb l r 0) (ob l y (5 + 0))))), Value.int (zi 0), Value.int (zi 0)] [] h296 Q
                              refine xv (x_iinc 394 d_L_orders_391 rfl rfl) ?_
                              show Xv E q_m_L_orders 394 [Value.ref x, Value.int (zi (oin l 0)), Value.int (zi y), Value.int (zi (stc l y)), Value.int (zi (rwo l y)), Value.int (zi 1), Value.int (zi w), Value.int (zi (r + 1)), Value.int (zi (dV (far l (rb l r 0) (ob l y (5 + 0))))), Value.int (zi 0), Value.int (zi 0)] [] h296 Q
                              refine xv (x_goto 257 d_L_orders_394 rfl) ?_
                              have SZ := si_n y257_1 ⟨by omega, by omega⟩ (by omega)
                              exact ih257 _ (by omega) (r + 1) w _ _ _ _ (by omega) SZ (px_mo P296 (by omega)) rfl
                            · omega
                          · refine xv (x_iload 336 d_L_orders_334 rfl rfl) ?_
                            refine v_if_lt 370 339 d_L_orders_336 rfl rfl (by omega) (by omega) (fun k336 => ?_) (fun k336 => ?_)
                            · refine xv (x_iconst 371 d_L_orders_370 rfl) ?_
                              refine xv (x_goto 375 d_L_orders_371 rfl) ?_
                              refine xv (x_istore 377 d_L_orders_375 rfl (Nat.le_of_ble_eq_true rfl)) ?_
                              show Xv E q_m_L_orders 377 [Value.ref x, Value.int (zi (oin l 0)), Value.int (zi y), Value.int (zi (stc l y)), Value.int (zi (rwo l y)), Value.int (zi 1), Value.int (zi w), Value.int (zi r), Value.int (zi (dV (far l (rb l r 0) (ob l y (5 + 0))))), Value.int (zi 0), Value.int (zi 1)] [] h296 Q
                              refine xv (x_iload 379 d_L_orders_377 rfl rfl) ?_
                              refine v_if_eq 387 382 d_L_orders_379 rfl rfl (by omega) (by omega) (fun k379 => ?_) (fun k379 => ?_)
                              · omega
                              · refine xv (x_iload 384 d_L_orders_382 rfl rfl) ?_
                                refine xv (x_goto 389 d_L_orders_384 rfl) ?_
                                refine xv (x_istore 391 d_L_orders_389 rfl (Nat.le_of_ble_eq_true rfl)) ?_
                                show Xv E q_m_L_orders 391 [Value.ref x, Value.int (zi (oin l 0)), Value.int (zi y), Value.int (zi (stc l y)), Value.int (zi (rwo l y)), Value.int (zi 1), Value.int (zi r), Value.int (zi r), Value.int (zi (dV (far l (rb l r 0) (ob l y (5 + 0))))), Value.int (zi 0), Value.int (zi 1)] [] h296 Q
                                refine xv (x_iinc 394 d_L_orders_391 rfl rfl) ?_
                                show Xv E q_m_L_orders 394 [Value.ref x, Value.int (zi (oin l 0)), Value.int (zi y), Value.int (zi (stc l y)), Value.int (zi (rwo l y)), Value.int (zi 1), Value.int (zi r), Value.int (zi (r + 1)), Value.int (zi (dV (far l (rb l r 0) (ob l y (5 + 0))))), Value.int (zi 0), Value.int (zi 1)] [] h296 Q
                                refine xv (x_goto 257 d_L_orders_394 rfl) ?_
                                have SZ := si_y y257_1 ⟨by omega, by omega⟩ (by omega) (by omega) (by omega)
                                exact ih257 _ (by omega) (r + 1) r _ _ _ _ (by omega) SZ (px_mo P296 (by omega)) rfl
                            · refine xv (x_iload 341 d_L_orders_339 rfl rfl) ?_
                              refine xv (x_iload 343 d_L_orders_341 rfl rfl) ?_
                              refine v_icmp_lt 370 346 d_L_orders_343 rfl rfl (by omega) (by omega) (by omega) (by omega) (fun k343 => ?_) (fun k343 => ?_)
                              · refine xv (x_iconst 371 d_L_orders_370 rfl) ?_
                                refine xv (x_goto 375 d_L_orders_371 rfl) ?_
                                refine xv (x_istore 377 d_L_orders_375 rfl (Nat.le_of_ble_eq_true rfl)) ?_
                                show Xv E q_m_L_orders 377 [Value.ref x, Value.int (zi (oin l 0)), Value.int (zi y), Value.int (zi (stc l y)), Value.int (zi (rwo l y)), Value.int (zi 1), Value.int (zi w), Value.int (zi r), Value.int (zi (dV (far l (rb l r 0) (ob l y (5 + 0))))), Value.int (zi 0), Value.int (zi 1)] [] h296 Q
                                refine xv (x_iload 379 d_L_orders_377 rfl rfl) ?_
                                refine v_if_eq 387 382 d_L_orders_379 rfl rfl (by omega) (by omega) (fun k379 => ?_) (fun k379 => ?_)
                                · omega
                                · refine xv (x_iload 384 d_L_orders_382 rfl rfl) ?_
                                  refine xv (x_goto 389 d_L_orders_384 rfl) ?_
                                  refine xv (x_istore 391 d_L_orders_389 rfl (Nat.le_of_ble_eq_true rfl)) ?_
                                  show Xv E q_m_L_orders 391 [Value.ref x, Value.int (zi (oin l 0)), Value.int (zi y), Value.int (zi (stc l y)), Value.int (zi (rwo l y)), Value.int (zi 1), Value.int (zi r), Value.int (zi r), Value.int (zi (dV (far l (rb l r 0) (ob l y (5 + 0))))), Value.int (zi 0), Value.int (zi 1)] [] h296 Q
                                  refine xv (x_iinc 394 d_L_orders_391 rfl rfl) ?_
                                  show Xv E q_m_L_orders 394 [Value.ref x, Value.int (zi (oin l 0)), Value.int (zi y), Value.int (zi (stc l y)), Value.int (zi (rwo l y)), Value.int (zi 1), Value.int (zi r), Value.int (zi (r + 1)), Value.int (zi (dV (far l (rb l r 0) (ob l y (5 + 0))))), Value.int (zi 0), Value.int (zi 1)] [] h296 Q
                                  refine xv (x_goto 257 d_L_orders_394 rfl) ?_
                                  have SZ := si_y y257_1 ⟨by omega, by omega⟩ (by omega) (by omega) (by omega)
                                  exact ih257 _ (by omega) (r + 1) r _ _ _ _ (by omega) SZ (px_mo P296 (by omega)) rfl
                              · refine xv (x_iload 348 d_L_orders_346 rfl rfl) ?_
                                refine xv (x_iload 350 d_L_orders_348 rfl rfl) ?_
                                refine v_icmp_ne 374 353 d_L_orders_350 rfl rfl (by omega) (by omega) (by omega) (by omega) (fun k350 => ?_) (fun k350 => ?_)
                                · refine xv (x_iconst 375 d_L_orders_374 rfl) ?_
                                  refine xv (x_istore 377 d_L_orders_375 rfl (Nat.le_of_ble_eq_true rfl)) ?_
                                  show Xv E q_m_L_orders 377 [Value.ref x, Value.int (zi (oin l 0)), Value.int (zi y), Value.int (zi (stc l y)), Value.int (zi (rwo l y)), Value.int (zi 1), Value.int (zi w), Value.int (zi r), Value.int (zi (dV (far l (rb l r 0) (ob l y (5 + 0))))), Value.int (zi 0), Value.int (zi 0)] [] h296 Q
                                  refine xv (x_iload 379 d_L_orders_377 rfl rfl) ?_
                                  refine v_if_eq 387 382 d_L_orders_379 rfl rfl (by omega) (by omega) (fun k379 => ?_) (fun k379 => ?_)
                                  · refine xv (x_iload 389 d_L_orders_387 rfl rfl) ?_
                                    refine xv (x_istore 391 d_L_orders_389 rfl (Nat.le_of_ble_eq_true rfl)) ?_
                                    show Xv E q_m_L_orders 391 [Value.ref x, Value.int (zi (oin l 0)), Value.int (zi y), Value.int (zi (stc l y)), Value.int (zi (rwo l y)), Value.int (zi 1), Value.int (zi w), Value.int (zi r), Value.int (zi (dV (far l (rb l r 0) (ob l y (5 + 0))))), Value.int (zi 0), Value.int (zi 0)] [] h296 Q
                                    refine xv (x_iinc 394 d_L_orders_391 rfl rfl) ?_
                                    show Xv E q_m_L_orders 394 [Value.ref x, Value.int (zi (oin l 0)), Value.int (zi y), Value.int (zi (stc l y)), Value.int (zi (rwo l y)), Value.int (zi 1), Value.int (zi w), Value.int (zi (r + 1)), Value.int (zi (dV (far l (rb l r 0) (ob l y (5 + 0))))), Value.int (zi 0), Value.int (zi 0)] [] h296 Q
                                    refine xv (x_goto 257 d_L_orders_394 rfl) ?_
                                    have SZ := si_n y257_1 ⟨by omega, by omega⟩ (by omega)
                                    exact ih257 _ (by omega) (r + 1) w _ _ _ _ (by omega) SZ (px_mo P296 (by omega)) rfl
                                  · omega
                                · refine xv (x_aload_n 354 d_L_orders_353 rfl rfl) ?_
                                  refine xv (x_iload 356 d_L_orders_354 rfl rfl) ?_
                                  refine xv (x_iconst 357 d_L_orders_356 rfl) ?_
                                  obtain ⟨h357, e357, P357⟩ := A_robotOf1 (E := E) (r := r) P296 ⟨by omega, by omega⟩
                                  refine xv (x_inv1 360 (as := [Value.int (zi r), Value.int (zi 1)]) d_L_orders_357 rfl c_9_203 rfl (Nat.le_of_ble_eq_true rfl) (Nat.le_of_ble_eq_true rfl) (px_o P296) (Nat.le_of_ble_eq_true rfl) (Nat.le_of_ble_eq_true rfl) rfl e357) ?_
                                  have q357 := rg_b1 hR (r := r) ⟨by omega, by omega⟩
                                  show Xv E q_m_L_orders 360 [Value.ref x, Value.int (zi (oin l 0)), Value.int (zi y), Value.int (zi (stc l y)), Value.int (zi (rwo l y)), Value.int (zi 1), Value.int (zi w), Value.int (zi r), Value.int (zi (dV (far l (rb l r 0) (ob l y (5 + 0))))), Value.int (zi 0), c10] [Value.int (zi (rb l r 1))] h357 Q
                                  refine xv (x_aload_n 361 d_L_orders_360 rfl rfl) ?_
                                  refine xv (x_iload 363 d_L_orders_361 rfl rfl) ?_
                                  refine xv (x_iconst 364 d_L_orders_363 rfl) ?_
                                  obtain ⟨h364, e364, P364⟩ := A_robotOf1 (E := E) (r := w) P357 ⟨by omega, by omega⟩
                                  refine xv (x_inv1 367 (as := [Value.int (zi w), Value.int (zi 1)]) d_L_orders_364 rfl c_9_203 rfl (Nat.le_of_ble_eq_true rfl) (Nat.le_of_ble_eq_true rfl) (px_o P357) (Nat.le_of_ble_eq_true rfl) (Nat.le_of_ble_eq_true rfl) rfl e364) ?_
                                  have q364 := rg_b1 hR (r := w) ⟨by omega, by omega⟩
                                  show Xv E q_m_L_orders 367 [Value.ref x, Value.int (zi (oin l 0)), Value.int (zi y), Value.int (zi (stc l y)), Value.int (zi (rwo l y)), Value.int (zi 1), Value.int (zi w), Value.int (zi r), Value.int (zi (dV (far l (rb l r 0) (ob l y (5 + 0))))), Value.int (zi 0), c10] [Value.int (zi (rb l w 1)), Value.int (zi (rb l r 1))] h364 Q
                                  refine v_icmp_le 374 370 d_L_orders_367 rfl rfl (by omega) (by omega) (by omega) (by omega) (fun k367 => ?_) (fun k367 => ?_)
                                  · refine xv (x_iconst 375 d_L_orders_374 rfl) ?_
                                    refine xv (x_istore 377 d_L_orders_375 rfl (Nat.le_of_ble_eq_true rfl)) ?_
                                    show Xv E q_m_L_orders 377 [Value.ref x, Value.int (zi (oin l 0)), Value.int (zi y), Value.int (zi (stc l y)), Value.int (zi (rwo l y)), Value.int (zi 1), Value.int (zi w), Value.int (zi r), Value.int (zi (dV (far l (rb l r 0) (ob l y (5 + 0))))), Value.int (zi 0), Value.int (zi 0)] [] h364 Q
                                    refine xv (x_iload 379 d_L_orders_377 rfl rfl) ?_
                                    refine v_if_eq 387 382 d_L_orders_379 rfl rfl (by omega) (by omega) (fun k379 => ?_) (fun k379 => ?_)
                                    · refine xv (x_iload 389 d_L_orders_387 rfl rfl) ?_
                                      refine xv (x_istore 391 d_L_orders_389 rfl (Nat.le_of_ble_eq_true rfl)) ?_
                                      show Xv E q_m_L_orders 391 [Value.ref x, Value.int (zi (oin l 0)), Value.int (zi y), Value.int (zi (stc l y)), Value.int (zi (rwo l y)), Value.int (zi 1), Value.int (zi w), Value.int (zi r), Value.int (zi (dV (far l (rb l r 0) (ob l y (5 + 0))))), Value.int (zi 0), Value.int (zi 0)] [] h364 Q
                                      refine xv (x_iinc 394 d_L_orders_391 rfl rfl) ?_
                                      show Xv E q_m_L_orders 394 [Value.ref x, Value.int (zi (oin l 0)), Value.int (zi y), Value.int (zi (stc l y)), Value.int (zi (rwo l y)), Value.int (zi 1), Value.int (zi w), Value.int (zi (r + 1)), Value.int (zi (dV (far l (rb l r 0) (ob l y (5 + 0))))), Value.int (zi 0), Value.int (zi 0)] [] h364 Q
                                      refine xv (x_goto 257 d_L_orders_394 rfl) ?_
                                      have SZ := si_n y257_1 ⟨by omega, by omega⟩ (by omega)
                                      exact ih257 _ (by omega) (r + 1) w _ _ _ _ (by omega) SZ (px_mo P364 (by omega)) rfl
                                    · omega
                                  · refine xv (x_iconst 371 d_L_orders_370 rfl) ?_
                                    refine xv (x_goto 375 d_L_orders_371 rfl) ?_
                                    refine xv (x_istore 377 d_L_orders_375 rfl (Nat.le_of_ble_eq_true rfl)) ?_
                                    show Xv E q_m_L_orders 377 [Value.ref x, Value.int (zi (oin l 0)), Value.int (zi y), Value.int (zi (stc l y)), Value.int (zi (rwo l y)), Value.int (zi 1), Value.int (zi w), Value.int (zi r), Value.int (zi (dV (far l (rb l r 0) (ob l y (5 + 0))))), Value.int (zi 0), Value.int (zi 1)] [] h364 Q
                                    refine xv (x_iload 379 d_L_orders_377 rfl rfl) ?_
                                    refine v_if_eq 387 382 d_L_orders_379 rfl rfl (by omega) (by omega) (fun k379 => ?_) (fun k379 => ?_)
                                    · omega
                                    · refine xv (x_iload 384 d_L_orders_382 rfl rfl) ?_
                                      refine xv (x_goto 389 d_L_orders_384 rfl) ?_
                                      refine xv (x_istore 391 d_L_orders_389 rfl (Nat.le_of_ble_eq_true rfl)) ?_
                                      show Xv E q_m_L_orders 391 [Value.ref x, Value.int (zi (oin l 0)), Value.int (zi y), Value.int (zi (stc l y)), Value.int (zi (rwo l y)), Value.int (zi 1), Value.int (zi r), Value.int (zi r), Value.int (zi (dV (far l (rb l r 0) (ob l y (5 + 0))))), Value.int (zi 0), Value.int (zi 1)] [] h364 Q
                                      refine xv (x_iinc 394 d_L_orders_391 rfl rfl) ?_
                                      show Xv E q_m_L_orders 394 [Value.ref x, Value.int (zi (oin l 0)), Value.int (zi y), Value.int (zi (stc l y)), Value.int (zi (rwo l y)), Value.int (zi 1), Value.int (zi r), Value.int (zi (r + 1)), Value.int (zi (dV (far l (rb l r 0) (ob l y (5 + 0))))), Value.int (zi 0), Value.int (zi 1)] [] h364 Q
                                      refine xv (x_goto 257 d_L_orders_394 rfl) ?_
                                      have SZ := si_y y257_1 ⟨by omega, by omega⟩ (by omega) (by omega) (by omega)
                                      exact ih257 _ (by omega) (r + 1) r _ _ _ _ (by omega) SZ (px_mo P364 (by omega)) rfl
                      · refine xv (x_bipush 279 d_L_orders_277 rfl rfl) ?_
                        refine xv (x_goto 299 d_L_orders_279 rfl) ?_
                        refine xv (x_istore 301 d_L_orders_299 rfl (Nat.le_of_ble_eq_true rfl)) ?_
                        show Xv E q_m_L_orders 301 [Value.ref x, Value.int (zi (oin l 0)), Value.int (zi y), Value.int (zi (stc l y)), Value.int (zi (rwo l y)), Value.int (zi 1), Value.int (zi w), Value.int (zi r), Value.int (zi (-2)), c9, c10] [] h271 Q
                        refine xv (x_iload 303 d_L_orders_301 rfl rfl) ?_
                        refine v_if_ge 310 306 d_L_orders_303 rfl rfl (by omega) (by omega) (fun k303 => ?_) (fun k303 => ?_)
                        · refine xv (x_aload_n 311 d_L_orders_310 rfl rfl) ?_
                          refine xv (x_aload_n 312 d_L_orders_311 rfl rfl) ?_
                          refine xv (x_iload 314 d_L_orders_312 rfl rfl) ?_
                          refine xv (x_iconst 315 d_L_orders_314 rfl) ?_
                          obtain ⟨h315, e315, P315⟩ := A_robotOf0 (E := E) (r := w) P271 ⟨by omega, by omega⟩
                          refine xv (x_inv1 318 (as := [Value.int (zi w), Value.int (zi 0)]) d_L_orders_315 rfl c_9_203 rfl (Nat.le_of_ble_eq_true rfl) (Nat.le_of_ble_eq_true rfl) (px_o P271) (Nat.le_of_ble_eq_true rfl) (Nat.le_of_ble_eq_true rfl) rfl e315) ?_
                          have q315 := rg_b0 hR (r := w) ⟨by omega, by omega⟩
                          show Xv E q_m_L_orders 318 [Value.ref x, Value.int (zi (oin l 0)), Value.int (zi y), Value.int (zi (stc l y)), Value.int (zi (rwo l y)), Value.int (zi 1), Value.int (zi w), Value.int (zi r), Value.int (zi (-2)), c9, c10] [Value.int (zi (rb l w 0)), Value.ref x] h315 Q
                          refine xv (x_aload_n 319 d_L_orders_318 rfl rfl) ?_
                          refine xv (x_iload_n 320 d_L_orders_319 rfl rfl) ?_
                          refine xv (x_iconst 321 d_L_orders_320 rfl) ?_
                          obtain ⟨h321, e321, P321⟩ := A_line0 (E := E) (y := y) P315 ⟨by omega, by omega⟩ (by have := rg_a1 hR (y := y) ⟨by omega, by omega⟩; omega)
                          refine xv (x_inv1 324 (as := [Value.int (zi y), Value.int (zi 0)]) d_L_orders_321 rfl c_9_228 rfl (Nat.le_of_ble_eq_true rfl) (Nat.le_of_ble_eq_true rfl) (px_o P315) (Nat.le_of_ble_eq_true rfl) (Nat.le_of_ble_eq_true rfl) rfl e321) ?_
                          have q321 := rg_l0 hR (y := y) ⟨by omega, by omega⟩
                          show Xv E q_m_L_orders 324 [Value.ref x, Value.int (zi (oin l 0)), Value.int (zi y), Value.int (zi (stc l y)), Value.int (zi (rwo l y)), Value.int (zi 1), Value.int (zi w), Value.int (zi r), Value.int (zi (-2)), c9, c10] [Value.int (zi (ob l y (5 + 0))), Value.int (zi (rb l w 0)), Value.ref x] h321 Q
                          obtain ⟨h324, e324, P324⟩ := A_distance (E := E) (y := (rb l w 0)) (z := (ob l y (5 + 0))) P321 ⟨by omega, by omega⟩ ⟨by omega, by omega⟩
                          refine xv (x_ins1 327 (as := [Value.ref x, Value.int (zi (rb l w 0)), Value.int (zi (ob l y (5 + 0)))]) d_L_orders_324 rfl c_9_201 rfl (Nat.le_of_ble_eq_true rfl) (Nat.le_of_ble_eq_true rfl) (Nat.le_of_ble_eq_true rfl) rfl e324) ?_
                          have q324 := rg_far hR (y := (rb l w 0)) (z := (ob l y (5 + 0))) ⟨by omega, by omega⟩
                          have u324 := dV_c (v := far l (rb l w 0) (ob l y (5 + 0))) (far_r hR (a := (rb l w 0)) ⟨by omega, by omega⟩ (ob l y (5 + 0))).1.1
                          show Xv E q_m_L_orders 327 [Value.ref x, Value.int (zi (oin l 0)), Value.int (zi y), Value.int (zi (stc l y)), Value.int (zi (rwo l y)), Value.int (zi 1), Value.int (zi w), Value.int (zi r), Value.int (zi (-2)), c9, c10] [Value.int (zi (dV (far l (rb l w 0) (ob l y (5 + 0)))))] h324 Q
                          refine xv (x_istore 329 d_L_orders_327 rfl (Nat.le_of_ble_eq_true rfl)) ?_
                          show Xv E q_m_L_orders 329 [Value.ref x, Value.int (zi (oin l 0)), Value.int (zi y), Value.int (zi (stc l y)), Value.int (zi (rwo l y)), Value.int (zi 1), Value.int (zi w), Value.int (zi r), Value.int (zi (-2)), Value.int (zi (dV (far l (rb l w 0) (ob l y (5 + 0))))), c10] [] h324 Q
                          refine xv (x_iload 331 d_L_orders_329 rfl rfl) ?_
                          refine v_if_lt 374 334 d_L_orders_331 rfl rfl (by omega) (by omega) (fun k331 => ?_) (fun k331 => ?_)
                          · refine xv (x_iconst 375 d_L_orders_374 rfl) ?_
                            refine xv (x_istore 377 d_L_orders_375 rfl (Nat.le_of_ble_eq_true rfl)) ?_
                            show Xv E q_m_L_orders 377 [Value.ref x, Value.int (zi (oin l 0)), Value.int (zi y), Value.int (zi (stc l y)), Value.int (zi (rwo l y)), Value.int (zi 1), Value.int (zi w), Value.int (zi r), Value.int (zi (-2)), Value.int (zi (dV (far l (rb l w 0) (ob l y (5 + 0))))), Value.int (zi 0)] [] h324 Q
                            refine xv (x_iload 379 d_L_orders_377 rfl rfl) ?_
                            refine v_if_eq 387 382 d_L_orders_379 rfl rfl (by omega) (by omega) (fun k379 => ?_) (fun k379 => ?_)
                            · refine xv (x_iload 389 d_L_orders_387 rfl rfl) ?_
                              refine xv (x_istore 391 d_L_orders_389 rfl (Nat.le_of_ble_eq_true rfl)) ?_
                              show Xv E q_m_L_orders 391 [Value.ref x, Value.int (zi (oin l 0)), Value.int (zi y), Value.int (zi (stc l y)), Value.int (zi (rwo l y)), Value.int (zi 1), Value.int (zi w), Value.int (zi r), Value.int (zi (-2)), Value.int (zi (dV (far l (rb l w 0) (ob l y (5 + 0))))), Value.int (zi 0)] [] h324 Q
                              refine xv (x_iinc 394 d_L_orders_391 rfl rfl) ?_
                              show Xv E q_m_L_orders 394 [Value.ref x, Value.int (zi (oin l 0)), Value.int (zi y), Value.int (zi (stc l y)), Value.int (zi (rwo l y)), Value.int (zi 1), Value.int (zi w), Value.int (zi (r + 1)), Value.int (zi (-2)), Value.int (zi (dV (far l (rb l w 0) (ob l y (5 + 0))))), Value.int (zi 0)] [] h324 Q
                              refine xv (x_goto 257 d_L_orders_394 rfl) ?_
                              have SZ := si_n y257_1 ⟨by omega, by omega⟩ (by omega)
                              exact ih257 _ (by omega) (r + 1) w _ _ _ _ (by omega) SZ (px_mo P324 (by omega)) rfl
                            · omega
                          · refine xv (x_iload 336 d_L_orders_334 rfl rfl) ?_
                            refine v_if_lt 370 339 d_L_orders_336 rfl rfl (by omega) (by omega) (fun k336 => ?_) (fun k336 => ?_)
                            · refine xv (x_iconst 371 d_L_orders_370 rfl) ?_
                              refine xv (x_goto 375 d_L_orders_371 rfl) ?_
                              refine xv (x_istore 377 d_L_orders_375 rfl (Nat.le_of_ble_eq_true rfl)) ?_
                              show Xv E q_m_L_orders 377 [Value.ref x, Value.int (zi (oin l 0)), Value.int (zi y), Value.int (zi (stc l y)), Value.int (zi (rwo l y)), Value.int (zi 1), Value.int (zi w), Value.int (zi r), Value.int (zi (-2)), Value.int (zi (dV (far l (rb l w 0) (ob l y (5 + 0))))), Value.int (zi 1)] [] h324 Q
                              refine xv (x_iload 379 d_L_orders_377 rfl rfl) ?_
                              refine v_if_eq 387 382 d_L_orders_379 rfl rfl (by omega) (by omega) (fun k379 => ?_) (fun k379 => ?_)
                              · omega
                              · refine xv (x_iload 384 d_L_orders_382 rfl rfl) ?_
                                refine xv (x_goto 389 d_L_orders_384 rfl) ?_
                                refine xv (x_istore 391 d_L_orders_389 rfl (Nat.le_of_ble_eq_true rfl)) ?_
                                show Xv E q_m_L_orders 391 [Value.ref x, Value.int (zi (oin l 0)), Value.int (zi y), Value.int (zi (stc l y)), Value.int (zi (rwo l y)), Value.int (zi 1), Value.int (zi r), Value.int (zi r), Value.int (zi (-2)), Value.int (zi (dV (far l (rb l w 0) (ob l y (5 + 0))))), Value.int (zi 1)] [] h324 Q
                                refine xv (x_iinc 394 d_L_orders_391 rfl rfl) ?_
                                show Xv E q_m_L_orders 394 [Value.ref x, Value.int (zi (oin l 0)), Value.int (zi y), Value.int (zi (stc l y)), Value.int (zi (rwo l y)), Value.int (zi 1), Value.int (zi r), Value.int (zi (r + 1)), Value.int (zi (-2)), Value.int (zi (dV (far l (rb l w 0) (ob l y (5 + 0))))), Value.int (zi 1)] [] h324 Q
                                refine xv (x_goto 257 d_L_orders_394 rfl) ?_
                                have SZ := si_y y257_1 ⟨by omega, by omega⟩ (by omega) (by omega) (by omega)
                                exact ih257 _ (by omega) (r + 1) r _ _ _ _ (by omega) SZ (px_mo P324 (by omega)) rfl
                            · refine xv (x_iload 341 d_L_orders_339 rfl rfl) ?_
                              refine xv (x_iload 343 d_L_orders_341 rfl rfl) ?_
                              refine v_icmp_lt 370 346 d_L_orders_343 rfl rfl (by omega) (by omega) (by omega) (by omega) (fun k343 => ?_) (fun k343 => ?_)
                              · refine xv (x_iconst 371 d_L_orders_370 rfl) ?_
                                refine xv (x_goto 375 d_L_orders_371 rfl) ?_
                                refine xv (x_istore 377 d_L_orders_375 rfl (Nat.le_of_ble_eq_true rfl)) ?_
                                show Xv E q_m_L_orders 377 [Value.ref x, Value.int (zi (oin l 0)), Value.int (zi y), Value.int (zi (stc l y)), Value.int (zi (rwo l y)), Value.int (zi 1), Value.int (zi w), Value.int (zi r), Value.int (zi (-2)), Value.int (zi (dV (far l (rb l w 0) (ob l y (5 + 0))))), Value.int (zi 1)] [] h324 Q
                                refine xv (x_iload 379 d_L_orders_377 rfl rfl) ?_
                                refine v_if_eq 387 382 d_L_orders_379 rfl rfl (by omega) (by omega) (fun k379 => ?_) (fun k379 => ?_)
                                · omega
                                · refine xv (x_iload 384 d_L_orders_382 rfl rfl) ?_
                                  refine xv (x_goto 389 d_L_orders_384 rfl) ?_
                                  refine xv (x_istore 391 d_L_orders_389 rfl (Nat.le_of_ble_eq_true rfl)) ?_
                                  show Xv E q_m_L_orders 391 [Value.ref x, Value.int (zi (oin l 0)), Value.int (zi y), Value.int (zi (stc l y)), Value.int (zi (rwo l y)), Value.int (zi 1), Value.int (zi r), Value.int (zi r), Value.int (zi (-2)), Value.int (zi (dV (far l (rb l w 0) (ob l y (5 + 0))))), Value.int (zi 1)] [] h324 Q
                                  refine xv (x_iinc 394 d_L_orders_391 rfl rfl) ?_
                                  show Xv E q_m_L_orders 394 [Value.ref x, Value.int (zi (oin l 0)), Value.int (zi y), Value.int (zi (stc l y)), Value.int (zi (rwo l y)), Value.int (zi 1), Value.int (zi r), Value.int (zi (r + 1)), Value.int (zi (-2)), Value.int (zi (dV (far l (rb l w 0) (ob l y (5 + 0))))), Value.int (zi 1)] [] h324 Q
                                  refine xv (x_goto 257 d_L_orders_394 rfl) ?_
                                  have SZ := si_y y257_1 ⟨by omega, by omega⟩ (by omega) (by omega) (by omega)
                                  exact ih257 _ (by omega) (r + 1) r _ _ _ _ (by omega) SZ (px_mo P324 (by omega)) rfl
                              · refine xv (x_iload 348 d_L_orders_346 rfl rfl) ?_
                                refine xv (x_iload 350 d_L_orders_348 rfl rfl) ?_
                                refine v_icmp_ne 374 353 d_L_orders_350 rfl rfl (by omega) (by omega) (by omega) (by omega) (fun k350 => ?_) (fun k350 => ?_)
                                · refine xv (x_iconst 375 d_L_orders_374 rfl) ?_
                                  refine xv (x_istore 377 d_L_orders_375 rfl (Nat.le_of_ble_eq_true rfl)) ?_
                                  show Xv E q_m_L_orders 377 [Value.ref x, Value.int (zi (oin l 0)), Value.int (zi y), Value.int (zi (stc l y)), Value.int (zi (rwo l y)), Value.int (zi 1), Value.int (zi w), Value.int (zi r), Value.int (zi (-2)), Value.int (zi (dV (far l (rb l w 0) (ob l y (5 + 0))))), Value.int (zi 0)] [] h324 Q
                                  refine xv (x_iload 379 d_L_orders_377 rfl rfl) ?_
                                  refine v_if_eq 387 382 d_L_orders_379 rfl rfl (by omega) (by omega) (fun k379 => ?_) (fun k379 => ?_)
                                  · refine xv (x_iload 389 d_L_orders_387 rfl rfl) ?_
                                    refine xv (x_istore 391 d_L_orders_389 rfl (Nat.le_of_ble_eq_true rfl)) ?_
                                    show Xv E q_m_L_orders 391 [Value.ref x, Value.int (zi (oin l 0)), Value.int (zi y), Value.int (zi (stc l y)), Value.int (zi (rwo l y)), Value.int (zi 1), Value.int (zi w), Value.int (zi r), Value.int (zi (-2)), Value.int (zi (dV (far l (rb l w 0) (ob l y (5 + 0))))), Value.int (zi 0)] [] h324 Q
                                    refine xv (x_iinc 394 d_L_orders_391 rfl rfl) ?_
                                    show Xv E q_m_L_orders 394 [Value.ref x, Value.int (zi (oin l 0)), Value.int (zi y), Value.int (zi (stc l y)), Value.int (zi (rwo l y)), Value.int (zi 1), Value.int (zi w), Value.int (zi (r + 1)), Value.int (zi (-2)), Value.int (zi (dV (far l (rb l w 0) (ob l y (5 + 0))))), Value.int (zi 0)] [] h324 Q
                                    refine xv (x_goto 257 d_L_orders_394 rfl) ?_
                                    have SZ := si_n y257_1 ⟨by omega, by omega⟩ (by omega)
                                    exact ih257 _ (by omega) (r + 1) w _ _ _ _ (by omega) SZ (px_mo P324 (by omega)) rfl
                                  · omega
                                · refine xv (x_aload_n 354 d_L_orders_353 rfl rfl) ?_
                                  refine xv (x_iload 356 d_L_orders_354 rfl rfl) ?_
                                  refine xv (x_iconst 357 d_L_orders_356 rfl) ?_
                                  obtain ⟨h357, e357, P357⟩ := A_robotOf1 (E := E) (r := r) P324 ⟨by omega, by omega⟩
                                  refine xv (x_inv1 360 (as := [Value.int (zi r), Value.int (zi 1)]) d_L_orders_357 rfl c_9_203 rfl (Nat.le_of_ble_eq_true rfl) (Nat.le_of_ble_eq_true rfl) (px_o P324) (Nat.le_of_ble_eq_true rfl) (Nat.le_of_ble_eq_true rfl) rfl e357) ?_
                                  have q357 := rg_b1 hR (r := r) ⟨by omega, by omega⟩
                                  show Xv E q_m_L_orders 360 [Value.ref x, Value.int (zi (oin l 0)), Value.int (zi y), Value.int (zi (stc l y)), Value.int (zi (rwo l y)), Value.int (zi 1), Value.int (zi w), Value.int (zi r), Value.int (zi (-2)), Value.int (zi (dV (far l (rb l w 0) (ob l y (5 + 0))))), c10] [Value.int (zi (rb l r 1))] h357 Q
                                  refine xv (x_aload_n 361 d_L_orders_360 rfl rfl) ?_
                                  refine xv (x_iload 363 d_L_orders_361 rfl rfl) ?_
                                  refine xv (x_iconst 364 d_L_orders_363 rfl) ?_
                                  obtain ⟨h364, e364, P364⟩ := A_robotOf1 (E := E) (r := w) P357 ⟨by omega, by omega⟩
                                  refine xv (x_inv1 367 (as := [Value.int (zi w), Value.int (zi 1)]) d_L_orders_364 rfl c_9_203 rfl (Nat.le_of_ble_eq_true rfl) (Nat.le_of_ble_eq_true rfl) (px_o P357) (Nat.le_of_ble_eq_true rfl) (Nat.le_of_ble_eq_true rfl) rfl e364) ?_
                                  have q364 := rg_b1 hR (r := w) ⟨by omega, by omega⟩
                                  show Xv E q_m_L_orders 367 [Value.ref x, Value.int (zi (oin l 0)), Value.int (zi y), Value.int (zi (stc l y)), Value.int (zi (rwo l y)), Value.int (zi 1), Value.int (zi w), Value.int (zi r), Value.int (zi (-2)), Value.int (zi (dV (far l (rb l w 0) (ob l y (5 + 0))))), c10] [Value.int (zi (rb l w 1)), Value.int (zi (rb l r 1))] h364 Q
                                  refine v_icmp_le 374 370 d_L_orders_367 rfl rfl (by omega) (by omega) (by omega) (by omega) (fun k367 => ?_) (fun k367 => ?_)
                                  · refine xv (x_iconst 375 d_L_orders_374 rfl) ?_
                                    refine xv (x_istore 377 d_L_orders_375 rfl (Nat.le_of_ble_eq_true rfl)) ?_
                                    show Xv E q_m_L_orders 377 [Value.ref x, Value.int (zi (oin l 0)), Value.int (zi y), Value.int (zi (stc l y)), Value.int (zi (rwo l y)), Value.int (zi 1), Value.int (zi w), Value.int (zi r), Value.int (zi (-2)), Value.int (zi (dV (far l (rb l w 0) (ob l y (5 + 0))))), Value.int (zi 0)] [] h364 Q
                                    refine xv (x_iload 379 d_L_orders_377 rfl rfl) ?_
                                    refine v_if_eq 387 382 d_L_orders_379 rfl rfl (by omega) (by omega) (fun k379 => ?_) (fun k379 => ?_)
                                    · refine xv (x_iload 389 d_L_orders_387 rfl rfl) ?_
                                      refine xv (x_istore 391 d_L_orders_389 rfl (Nat.le_of_ble_eq_true rfl)) ?_
                                      show Xv E q_m_L_orders 391 [Value.ref x, Value.int (zi (oin l 0)), Value.int (zi y), Value.int (zi (stc l y)), Value.int (zi (rwo l y)), Value.int (zi 1), Value.int (zi w), Value.int (zi r), Value.int (zi (-2)), Value.int (zi (dV (far l (rb l w 0) (ob l y (5 + 0))))), Value.int (zi 0)] [] h364 Q
                                      refine xv (x_iinc 394 d_L_orders_391 rfl rfl) ?_
                                      show Xv E q_m_L_orders 394 [Value.ref x, Value.int (zi (oin l 0)), Value.int (zi y), Value.int (zi (stc l y)), Value.int (zi (rwo l y)), Value.int (zi 1), Value.int (zi w), Value.int (zi (r + 1)), Value.int (zi (-2)), Value.int (zi (dV (far l (rb l w 0) (ob l y (5 + 0))))), Value.int (zi 0)] [] h364 Q
                                      refine xv (x_goto 257 d_L_orders_394 rfl) ?_
                                      have SZ := si_n y257_1 ⟨by omega, by omega⟩ (by omega)
                                      exact ih257 _ (by omega) (r + 1) w _ _ _ _ (by omega) SZ (px_mo P364 (by omega)) rfl
                                    · omega
                                  · refine xv (x_iconst 371 d_L_orders_370 rfl) ?_
                                    refine xv (x_goto 375 d_L_orders_371 rfl) ?_
                                    refine xv (x_istore 377 d_L_orders_375 rfl (Nat.le_of_ble_eq_true rfl)) ?_
                                    show Xv E q_m_L_orders 377 [Value.ref x, Value.int (zi (oin l 0)), Value.int (zi y), Value.int (zi (stc l y)), Value.int (zi (rwo l y)), Value.int (zi 1), Value.int (zi w), Value.int (zi r), Value.int (zi (-2)), Value.int (zi (dV (far l (rb l w 0) (ob l y (5 + 0))))), Value.int (zi 1)] [] h364 Q
                                    refine xv (x_iload 379 d_L_orders_377 rfl rfl) ?_
                                    refine v_if_eq 387 382 d_L_orders_379 rfl rfl (by omega) (by omega) (fun k379 => ?_) (fun k379 => ?_)
                                    · omega
                                    · refine xv (x_iload 384 d_L_orders_382 rfl rfl) ?_
                                      refine xv (x_goto 389 d_L_orders_384 rfl) ?_
                                      refine xv (x_istore 391 d_L_orders_389 rfl (Nat.le_of_ble_eq_true rfl)) ?_
                                      show Xv E q_m_L_orders 391 [Value.ref x, Value.int (zi (oin l 0)), Value.int (zi y), Value.int (zi (stc l y)), Value.int (zi (rwo l y)), Value.int (zi 1), Value.int (zi r), Value.int (zi r), Value.int (zi (-2)), Value.int (zi (dV (far l (rb l w 0) (ob l y (5 + 0))))), Value.int (zi 1)] [] h364 Q
                                      refine xv (x_iinc 394 d_L_orders_391 rfl rfl) ?_
                                      show Xv E q_m_L_orders 394 [Value.ref x, Value.int (zi (oin l 0)), Value.int (zi y), Value.int (zi (stc l y)), Value.int (zi (rwo l y)), Value.int (zi 1), Value.int (zi r), Value.int (zi (r + 1)), Value.int (zi (-2)), Value.int (zi (dV (far l (rb l w 0) (ob l y (5 + 0))))), Value.int (zi 1)] [] h364 Q
                                      refine xv (x_goto 257 d_L_orders_394 rfl) ?_
                                      have SZ := si_y y257_1 ⟨by omega, by omega⟩ (by omega) (by omega) (by omega)
                                      exact ih257 _ (by omega) (r + 1) r _ _ _ _ (by omega) SZ (px_mo P364 (by omega)) rfl
                        · refine xv (x_iconst 307 d_L_orders_306 rfl) ?_
                          refine xv (x_goto 327 d_L_orders_307 rfl) ?_
                          refine xv (x_istore 329 d_L_orders_327 rfl (Nat.le_of_ble_eq_true rfl)) ?_
                          show Xv E q_m_L_orders 329 [Value.ref x, Value.int (zi (oin l 0)), Value.int (zi y), Value.int (zi (stc l y)), Value.int (zi (rwo l y)), Value.int (zi 1), Value.int (zi w), Value.int (zi r), Value.int (zi (-2)), Value.int (zi 0), c10] [] h271 Q
                          refine xv (x_iload 331 d_L_orders_329 rfl rfl) ?_
                          refine v_if_lt 374 334 d_L_orders_331 rfl rfl (by omega) (by omega) (fun k331 => ?_) (fun k331 => ?_)
                          · refine xv (x_iconst 375 d_L_orders_374 rfl) ?_
                            refine xv (x_istore 377 d_L_orders_375 rfl (Nat.le_of_ble_eq_true rfl)) ?_
                            show Xv E q_m_L_orders 377 [Value.ref x, Value.int (zi (oin l 0)), Value.int (zi y), Value.int (zi (stc l y)), Value.int (zi (rwo l y)), Value.int (zi 1), Value.int (zi w), Value.int (zi r), Value.int (zi (-2)), Value.int (zi 0), Value.int (zi 0)] [] h271 Q
                            refine xv (x_iload 379 d_L_orders_377 rfl rfl) ?_
                            refine v_if_eq 387 382 d_L_orders_379 rfl rfl (by omega) (by omega) (fun k379 => ?_) (fun k379 => ?_)
                            · refine xv (x_iload 389 d_L_orders_387 rfl rfl) ?_
                              refine xv (x_istore 391 d_L_orders_389 rfl (Nat.le_of_ble_eq_true rfl)) ?_
                              show Xv E q_m_L_orders 391 [Value.ref x, Value.int (zi (oin l 0)), Value.int (zi y), Value.int (zi (stc l y)), Value.int (zi (rwo l y)), Value.int (zi 1), Value.int (zi w), Value.int (zi r), Value.int (zi (-2)), Value.int (zi 0), Value.int (zi 0)] [] h271 Q
                              refine xv (x_iinc 394 d_L_orders_391 rfl rfl) ?_
                              show Xv E q_m_L_orders 394 [Value.ref x, Value.int (zi (oin l 0)), Value.int (zi y), Value.int (zi (stc l y)), Value.int (zi (rwo l y)), Value.int (zi 1), Value.int (zi w), Value.int (zi (r + 1)), Value.int (zi (-2)), Value.int (zi 0), Value.int (zi 0)] [] h271 Q
                              refine xv (x_goto 257 d_L_orders_394 rfl) ?_
                              have SZ := si_n y257_1 ⟨by omega, by omega⟩ (by omega)
                              exact ih257 _ (by omega) (r + 1) w _ _ _ _ (by omega) SZ (px_mo P271 (by omega)) rfl
                            · omega
                          · refine xv (x_iload 336 d_L_orders_334 rfl rfl) ?_
                            refine v_if_lt 370 339 d_L_orders_336 rfl rfl (by omega) (by omega) (fun k336 => ?_) (fun k336 => ?_)
                            · refine xv (x_iconst 371 d_L_orders_370 rfl) ?_
                              refine xv (x_goto 375 d_L_orders_371 rfl) ?_
                              refine xv (x_istore 377 d_L_orders_375 rfl (Nat.le_of_ble_eq_true rfl)) ?_
                              show Xv E q_m_L_orders 377 [Value.ref x, Value.int (zi (oin l 0)), Value.int (zi y), Value.int (zi (stc l y)), Value.int (zi (rwo l y)), Value.int (zi 1), Value.int (zi w), Value.int (zi r), Value.int (zi (-2)), Value.int (zi 0), Value.int (zi 1)] [] h271 Q
                              refine xv (x_iload 379 d_L_orders_377 rfl rfl) ?_
                              refine v_if_eq 387 382 d_L_orders_379 rfl rfl (by omega) (by omega) (fun k379 => ?_) (fun k379 => ?_)
                              · omega
                              · refine xv (x_iload 384 d_L_orders_382 rfl rfl) ?_
                                refine xv (x_goto 389 d_L_orders_384 rfl) ?_
                                refine xv (x_istore 391 d_L_orders_389 rfl (Nat.le_of_ble_eq_true rfl)) ?_
                                show Xv E q_m_L_orders 391 [Value.ref x, Value.int (zi (oin l 0)), Value.int (zi y), Value.int (zi (stc l y)), Value.int (zi (rwo l y)), Value.int (zi 1), Value.int (zi r), Value.int (zi r), Value.int (zi (-2)), Value.int (zi 0), Value.int (zi 1)] [] h271 Q
                                refine xv (x_iinc 394 d_L_orders_391 rfl rfl) ?_
                                show Xv E q_m_L_orders 394 [Value.ref x, Value.int (zi (oin l 0)), Value.int (zi y), Value.int (zi (stc l y)), Value.int (zi (rwo l y)), Value.int (zi 1), Value.int (zi r), Value.int (zi (r + 1)), Value.int (zi (-2)), Value.int (zi 0), Value.int (zi 1)] [] h271 Q
                                refine xv (x_goto 257 d_L_orders_394 rfl) ?_
                                have SZ := si_y y257_1 ⟨by omega, by omega⟩ (by omega) (by omega) (by omega)
                                exact ih257 _ (by omega) (r + 1) r _ _ _ _ (by omega) SZ (px_mo P271 (by omega)) rfl
                            · refine xv (x_iload 341 d_L_orders_339 rfl rfl) ?_
                              refine xv (x_iload 343 d_L_orders_341 rfl rfl) ?_
                              refine v_icmp_lt 370 346 d_L_orders_343 rfl rfl (by omega) (by omega) (by omega) (by omega) (fun k343 => ?_) (fun k343 => ?_)
                              · refine xv (x_iconst 371 d_L_orders_370 rfl) ?_
                                refine xv (x_goto 375 d_L_orders_371 rfl) ?_
                                refine xv (x_istore 377 d_L_orders_375 rfl (Nat.le_of_ble_eq_true rfl)) ?_
                                show Xv E q_m_L_orders 377 [Value.ref x, Value.int (zi (oin l 0)), Value.int (zi y), Value.int (zi (stc l y)), Value.int (zi (rwo l y)), Value.int (zi 1), Value.int (zi w), Value.int (zi r), Value.int (zi (-2)), Value.int (zi 0), Value.int (zi 1)] [] h271 Q
                                refine xv (x_iload 379 d_L_orders_377 rfl rfl) ?_
                                refine v_if_eq 387 382 d_L_orders_379 rfl rfl (by omega) (by omega) (fun k379 => ?_) (fun k379 => ?_)
                                · omega
                                · refine xv (x_iload 384 d_L_orders_382 rfl rfl) ?_
                                  refine xv (x_goto 389 d_L_orders_384 rfl) ?_
                                  refine xv (x_istore 391 d_L_orders_389 rfl (Nat.le_of_ble_eq_true rfl)) ?_
                                  show Xv E q_m_L_orders 391 [Value.ref x, Value.int (zi (oin l 0)), Value.int (zi y), Value.int (zi (stc l y)), Value.int (zi (rwo l y)), Value.int (zi 1), Value.int (zi r), Value.int (zi r), Value.int (zi (-2)), Value.int (zi 0), Value.int (zi 1)] [] h271 Q
                                  refine xv (x_iinc 394 d_L_orders_391 rfl rfl) ?_
                                  show Xv E q_m_L_orders 394 [Value.ref x, Value.int (zi (oin l 0)), Value.int (zi y), Value.int (zi (stc l y)), Value.int (zi (rwo l y)), Value.int (zi 1), Value.int (zi r), Value.int (zi (r + 1)), Value.int (zi (-2)), Value.int (zi 0), Value.int (zi 1)] [] h271 Q
                                  refine xv (x_goto 257 d_L_orders_394 rfl) ?_
                                  have SZ := si_y y257_1 ⟨by omega, by omega⟩ (by omega) (by omega) (by omega)
                                  exact ih257 _ (by omega) (r + 1) r _ _ _ _ (by omega) SZ (px_mo P271 (by omega)) rfl
                              · refine xv (x_iload 348 d_L_orders_346 rfl rfl) ?_
                                refine xv (x_iload 350 d_L_orders_348 rfl rfl) ?_
                                refine v_icmp_ne 374 353 d_L_orders_350 rfl rfl (by omega) (by omega) (by omega) (by omega) (fun k350 => ?_) (fun k350 => ?_)
                                · refine xv (x_iconst 375 d_L_orders_374 rfl) ?_
                                  refine xv (x_istore 377 d_L_orders_375 rfl (Nat.le_of_ble_eq_true rfl)) ?_
                                  show Xv E q_m_L_orders 377 [Value.ref x, Value.int (zi (oin l 0)), Value.int (zi y), Value.int (zi (stc l y)), Value.int (zi (rwo l y)), Value.int (zi 1), Value.int (zi w), Value.int (zi r), Value.int (zi (-2)), Value.int (zi 0), Value.int (zi 0)] [] h271 Q
                                  refine xv (x_iload 379 d_L_orders_377 rfl rfl) ?_
                                  refine v_if_eq 387 382 d_L_orders_379 rfl rfl (by omega) (by omega) (fun k379 => ?_) (fun k379 => ?_)
                                  · refine xv (x_iload 389 d_L_orders_387 rfl rfl) ?_
                                    refine xv (x_istore 391 d_L_orders_389 rfl (Nat.le_of_ble_eq_true rfl)) ?_
                                    show Xv E q_m_L_orders 391 [Value.ref x, Value.int (zi (oin l 0)), Value.int (zi y), Value.int (zi (stc l y)), Value.int (zi (rwo l y)), Value.int (zi 1), Value.int (zi w), Value.int (zi r), Value.int (zi (-2)), Value.int (zi 0), Value.int (zi 0)] [] h271 Q
                                    refine xv (x_iinc 394 d_L_orders_391 rfl rfl) ?_
                                    show Xv E q_m_L_orders 394 [Value.ref x, Value.int (zi (oin l 0)), Value.int (zi y), Value.int (zi (stc l y)), Value.int (zi (rwo l y)), Value.int (zi 1), Value.int (zi w), Value.int (zi (r + 1)), Value.int (zi (-2)), Value.int (zi 0), Value.int (zi 0)] [] h271 Q
                                    refine xv (x_goto 257 d_L_orders_394 rfl) ?_
                                    have SZ := si_n y257_1 ⟨by omega, by omega⟩ (by omega)
                                    exact ih257 _ (by omega) (r + 1) w _ _ _ _ (by omega) SZ (px_mo P271 (by omega)) rfl
                                  · omega
                                · refine xv (x_aload_n 354 d_L_orders_353 rfl rfl) ?_
                                  refine xv (x_iload 356 d_L_orders_354 rfl rfl) ?_
                                  refine xv (x_iconst 357 d_L_orders_356 rfl) ?_
                                  obtain ⟨h357, e357, P357⟩ := A_robotOf1 (E := E) (r := r) P271 ⟨by omega, by omega⟩
                                  refine xv (x_inv1 360 (as := [Value.int (zi r), Value.int (zi 1)]) d_L_orders_357 rfl c_9_203 rfl (Nat.le_of_ble_eq_true rfl) (Nat.le_of_ble_eq_true rfl) (px_o P271) (Nat.le_of_ble_eq_true rfl) (Nat.le_of_ble_eq_true rfl) rfl e357) ?_
                                  have q357 := rg_b1 hR (r := r) ⟨by omega, by omega⟩
                                  show Xv E q_m_L_orders 360 [Value.ref x, Value.int (zi (oin l 0)), Value.int (zi y), Value.int (zi (stc l y)), Value.int (zi (rwo l y)), Value.int (zi 1), Value.int (zi w), Value.int (zi r), Value.int (zi (-2)), Value.int (zi 0), c10] [Value.int (zi (rb l r 1))] h357 Q
                                  refine xv (x_aload_n 361 d_L_orders_360 rfl rfl) ?_
                                  refine xv (x_iload 363 d_L_orders_361 rfl rfl) ?_
                                  refine xv (x_iconst 364 d_L_orders_363 rfl) ?_
                                  obtain ⟨h364, e364, P364⟩ := A_robotOf1 (E := E) (r := w) P357 ⟨by omega, by omega⟩
                                  refine xv (x_inv1 367 (as := [Value.int (zi w), Value.int (zi 1)]) d_L_orders_364 rfl c_9_203 rfl (Nat.le_of_ble_eq_true rfl) (Nat.le_of_ble_eq_true rfl) (px_o P357) (Nat.le_of_ble_eq_true rfl) (Nat.le_of_ble_eq_true rfl) rfl e364) ?_
                                  have q364 := rg_b1 hR (r := w) ⟨by omega, by omega⟩
                                  show Xv E q_m_L_orders 367 [Value.ref x, Value.int (zi (oin l 0)), Value.int (zi y), Value.int (zi (stc l y)), Value.int (zi (rwo l y)), Value.int (zi 1), Value.int (zi w), Value.int (zi r), Value.int (zi (-2)), Value.int (zi 0), c10] [Value.int (zi (rb l w 1)), Value.int (zi (rb l r 1))] h364 Q
                                  refine v_icmp_le 374 370 d_L_orders_367 rfl rfl (by omega) (by omega) (by omega) (by omega) (fun k367 => ?_) (fun k367 => ?_)
                                  · refine xv (x_iconst 375 d_L_orders_374 rfl) ?_
                                    refine xv (x_istore 377 d_L_orders_375 rfl (Nat.le_of_ble_eq_true rfl)) ?_
                                    show Xv E q_m_L_orders 377 [Value.ref x, Value.int (zi (oin l 0)), Value.int (zi y), Value.int (zi (stc l y)), Value.int (zi (rwo l y)), Value.int (zi 1), Value.int (zi w), Value.int (zi r), Value.int (zi (-2)), Value.int (zi 0), Value.int (zi 0)] [] h364 Q
                                    refine xv (x_iload 379 d_L_orders_377 rfl rfl) ?_
                                    refine v_if_eq 387 382 d_L_orders_379 rfl rfl (by omega) (by omega) (fun k379 => ?_) (fun k379 => ?_)
                                    · refine xv (x_iload 389 d_L_orders_387 rfl rfl) ?_
                                      refine xv (x_istore 391 d_L_orders_389 rfl (Nat.le_of_ble_eq_true rfl)) ?_
                                      show Xv E q_m_L_orders 391 [Value.ref x, Value.int (zi (oin l 0)), Value.int (zi y), Value.int (zi (stc l y)), Value.int (zi (rwo l y)), Value.int (zi 1), Value.int (zi w), Value.int (zi r), Value.int (zi (-2)), Value.int (zi 0), Value.int (zi 0)] [] h364 Q
                                      refine xv (x_iinc 394 d_L_orders_391 rfl rfl) ?_
                                      show Xv E q_m_L_orders 394 [Value.ref x, Value.int (zi (oin l 0)), Value.int (zi y), Value.int (zi (stc l y)), Value.int (zi (rwo l y)), Value.int (zi 1), Value.int (zi w), Value.int (zi (r + 1)), Value.int (zi (-2)), Value.int (zi 0), Value.int (zi 0)] [] h364 Q
                                      refine xv (x_goto 257 d_L_orders_394 rfl) ?_
                                      have SZ := si_n y257_1 ⟨by omega, by omega⟩ (by omega)
                                      exact ih257 _ (by omega) (r + 1) w _ _ _ _ (by omega) SZ (px_mo P364 (by omega)) rfl
                                    · omega
                                  · refine xv (x_iconst 371 d_L_orders_370 rfl) ?_
                                    refine xv (x_goto 375 d_L_orders_371 rfl) ?_
                                    refine xv (x_istore 377 d_L_orders_375 rfl (Nat.le_of_ble_eq_true rfl)) ?_
                                    show Xv E q_m_L_orders 377 [Value.ref x, Value.int (zi (oin l 0)), Value.int (zi y), Value.int (zi (stc l y)), Value.int (zi (rwo l y)), Value.int (zi 1), Value.int (zi w), Value.int (zi r), Value.int (zi (-2)), Value.int (zi 0), Value.int (zi 1)] [] h364 Q
                                    refine xv (x_iload 379 d_L_orders_377 rfl rfl) ?_
                                    refine v_if_eq 387 382 d_L_orders_379 rfl rfl (by omega) (by omega) (fun k379 => ?_) (fun k379 => ?_)
                                    · omega
                                    · refine xv (x_iload 384 d_L_orders_382 rfl rfl) ?_
                                      refine xv (x_goto 389 d_L_orders_384 rfl) ?_
                                      refine xv (x_istore 391 d_L_orders_389 rfl (Nat.le_of_ble_eq_true rfl)) ?_
                                      show Xv E q_m_L_orders 391 [Value.ref x, Value.int (zi (oin l 0)), Value.int (zi y), Value.int (zi (stc l y)), Value.int (zi (rwo l y)), Value.int (zi 1), Value.int (zi r), Value.int (zi r), Value.int (zi (-2)), Value.int (zi 0), Value.int (zi 1)] [] h364 Q
                                      refine xv (x_iinc 394 d_L_orders_391 rfl rfl) ?_
                                      show Xv E q_m_L_orders 394 [Value.ref x, Value.int (zi (oin l 0)), Value.int (zi y), Value.int (zi (stc l y)), Value.int (zi (rwo l y)), Value.int (zi 1), Value.int (zi r), Value.int (zi (r + 1)), Value.int (zi (-2)), Value.int (zi 0), Value.int (zi 1)] [] h364 Q
                                      refine xv (x_goto 257 d_L_orders_394 rfl) ?_
                                      have SZ := si_y y257_1 ⟨by omega, by omega⟩ (by omega) (by omega) (by omega)
                                      exact ih257 _ (by omega) (r + 1) r _ _ _ _ (by omega) SZ (px_mo P364 (by omega)) rfl
                exact L257 _ 0 (-2) _ _ _ _ (by omega) si_0 (px_mo P_250 (by omega)) rfl
              have F := or_all hT hO (y := y) ⟨by omega, by omega⟩
              obtain ⟨⟨F1, F2⟩, F3, F4, F5⟩ := F
              refine xv (x_iload_n 142 d_L_orders_141 rfl rfl) ?_
              refine xv (x_iconst 143 d_L_orders_142 rfl) ?_
              refine v_icmp_ne 170 146 d_L_orders_143 rfl rfl (by omega) (by omega) (by omega) (by omega) (fun k143 => ?_) (fun k143 => ?_)
              · refine xv (x_iload 172 d_L_orders_170 rfl rfl) ?_
                refine xv (x_iconst 173 d_L_orders_172 rfl) ?_
                refine v_icmp_ne 180 176 d_L_orders_173 rfl rfl (by omega) (by omega) (by omega) (by omega) (fun k173 => ?_) (fun k173 => ?_)
                · omega
                · refine xv (x_iconst 177 d_L_orders_176 rfl) ?_
                  refine xv (x_goto 181 d_L_orders_177 rfl) ?_
                  refine xv (x_istore 183 d_L_orders_181 rfl (Nat.le_of_ble_eq_true rfl)) ?_
                  show Xv E q_m_L_orders 183 [Value.ref x, Value.int (zi (oin l 0)), Value.int (zi y), Value.int (zi (stc l y)), Value.int (zi (rwo l y)), Value.int (zi 1), b6, b7, b8, b9, b10] [] h136 Q
                  refine xv (x_iload 185 d_L_orders_183 rfl rfl) ?_
                  refine v_if_eq 248 188 d_L_orders_185 rfl rfl (by omega) (by omega) (fun k185 => ?_) (fun k185 => ?_)
                  · omega
                  · refine xv (x_iload_n 189 d_L_orders_188 rfl rfl) ?_
                    refine v_if_ne 201 192 d_L_orders_189 rfl rfl (by omega) (by omega) (fun k189 => ?_) (fun k189 => ?_)
                    · refine xv (x_iload_n 202 d_L_orders_201 rfl rfl) ?_
                      refine xv (x_iconst 203 d_L_orders_202 rfl) ?_
                      refine v_icmp_ne 210 206 d_L_orders_203 rfl rfl (by omega) (by omega) (by omega) (by omega) (fun k203 => ?_) (fun k203 => ?_)
                      · refine xv (x_iconst 211 d_L_orders_210 rfl) ?_
                        refine xv (x_aload_n 212 d_L_orders_211 rfl rfl) ?_
                        refine xv (x_iload_n 213 d_L_orders_212 rfl rfl) ?_
                        refine xv (x_iconst 214 d_L_orders_213 rfl) ?_
                        obtain ⟨h214, e214, P214⟩ := A_orderOf5 (E := E) (y := y) P136 ⟨by omega, by omega⟩
                        refine xv (x_inv1 217 (as := [Value.int (zi y), Value.int (zi 5)]) d_L_orders_214 rfl c_9_225 rfl (Nat.le_of_ble_eq_true rfl) (Nat.le_of_ble_eq_true rfl) (px_o P136) (Nat.le_of_ble_eq_true rfl) (Nat.le_of_ble_eq_true rfl) rfl e214) ?_
                        have q214 := rg_a5 hR (y := y) ⟨by omega, by omega⟩
                        show Xv E q_m_L_orders 217 [Value.ref x, Value.int (zi (oin l 0)), Value.int (zi y), Value.int (zi (stc l y)), Value.int (zi (rwo l y)), Value.int (zi 1), b6, b7, b8, b9, b10] [Value.int (zi (ob l y 4)), Value.int (zi 0)] h214 Q
                        refine v_if_lt 224 220 d_L_orders_217 rfl rfl (by omega) (by omega) (fun k217 => ?_) (fun k217 => ?_)
                        · refine xv (x_iconst 225 d_L_orders_224 rfl) ?_
                          refine v_icmp_ne 248 228 d_L_orders_225 rfl rfl (by omega) (by omega) (by omega) (by omega) (fun k225 => ?_) (fun k225 => ?_)
                          · omega
                          · refine xv (x_iload_n 229 d_L_orders_228 rfl rfl) ?_
                            refine xv (x_iconst 230 d_L_orders_229 rfl) ?_
                            refine v_icmp_ne 250 233 d_L_orders_230 rfl rfl (by omega) (by omega) (by omega) (by omega) (fun k230 => ?_) (fun k230 => ?_)
                            · exact J250 _ (px_mo P214 (by omega))
                            · refine xv (x_aload_n 234 d_L_orders_233 rfl rfl) ?_
                              refine xv (x_iload_n 235 d_L_orders_234 rfl rfl) ?_
                              refine xv (x_iconst 236 d_L_orders_235 rfl) ?_
                              obtain ⟨h236, e236, P236⟩ := A_orderOf2 (E := E) (y := y) P214 ⟨by omega, by omega⟩
                              refine xv (x_inv1 239 (as := [Value.int (zi y), Value.int (zi 2)]) d_L_orders_236 rfl c_9_225 rfl (Nat.le_of_ble_eq_true rfl) (Nat.le_of_ble_eq_true rfl) (px_o P214) (Nat.le_of_ble_eq_true rfl) (Nat.le_of_ble_eq_true rfl) rfl e236) ?_
                              have q236 := rg_a2 hR (y := y) ⟨by omega, by omega⟩
                              show Xv E q_m_L_orders 239 [Value.ref x, Value.int (zi (oin l 0)), Value.int (zi y), Value.int (zi (stc l y)), Value.int (zi (rwo l y)), Value.int (zi 1), b6, b7, b8, b9, b10] [Value.int (zi (ob l y 2))] h236 Q
                              refine xv (x_aload_n 240 d_L_orders_239 rfl rfl) ?_
                              refine xv (x_iload_n 241 d_L_orders_240 rfl rfl) ?_
                              refine xv (x_iconst 242 d_L_orders_241 rfl) ?_
                              obtain ⟨h242, e242, P242⟩ := A_orderOf1 (E := E) (y := y) P236 ⟨by omega, by omega⟩
                              refine xv (x_inv1 245 (as := [Value.int (zi y), Value.int (zi 1)]) d_L_orders_242 rfl c_9_225 rfl (Nat.le_of_ble_eq_true rfl) (Nat.le_of_ble_eq_true rfl) (px_o P236) (Nat.le_of_ble_eq_true rfl) (Nat.le_of_ble_eq_true rfl) rfl e242) ?_
                              have q242 := rg_a1 hR (y := y) ⟨by omega, by omega⟩
                              show Xv E q_m_L_orders 245 [Value.ref x, Value.int (zi (oin l 0)), Value.int (zi y), Value.int (zi (stc l y)), Value.int (zi (rwo l y)), Value.int (zi 1), b6, b7, b8, b9, b10] [Value.int (zi (ob l y 1)), Value.int (zi (ob l y 2))] h242 Q
                              refine v_icmp_eq 250 248 d_L_orders_245 rfl rfl (by omega) (by omega) (by omega) (by omega) (fun k245 => ?_) (fun k245 => ?_)
                              · exact J250 _ (px_mo P242 (by omega))
                              · omega
                        · omega
                      · refine xv (x_iconst 207 d_L_orders_206 rfl) ?_
                        refine xv (x_goto 211 d_L_orders_207 rfl) ?_
                        refine xv (x_aload_n 212 d_L_orders_211 rfl rfl) ?_
                        refine xv (x_iload_n 213 d_L_orders_212 rfl rfl) ?_
                        refine xv (x_iconst 214 d_L_orders_213 rfl) ?_
                        obtain ⟨h214, e214, P214⟩ := A_orderOf5 (E := E) (y := y) P136 ⟨by omega, by omega⟩
                        refine xv (x_inv1 217 (as := [Value.int (zi y), Value.int (zi 5)]) d_L_orders_214 rfl c_9_225 rfl (Nat.le_of_ble_eq_true rfl) (Nat.le_of_ble_eq_true rfl) (px_o P136) (Nat.le_of_ble_eq_true rfl) (Nat.le_of_ble_eq_true rfl) rfl e214) ?_
                        have q214 := rg_a5 hR (y := y) ⟨by omega, by omega⟩
                        show Xv E q_m_L_orders 217 [Value.ref x, Value.int (zi (oin l 0)), Value.int (zi y), Value.int (zi (stc l y)), Value.int (zi (rwo l y)), Value.int (zi 1), b6, b7, b8, b9, b10] [Value.int (zi (ob l y 4)), Value.int (zi 1)] h214 Q
                        refine v_if_lt 224 220 d_L_orders_217 rfl rfl (by omega) (by omega) (fun k217 => ?_) (fun k217 => ?_)
                        · omega
                        · refine xv (x_iconst 221 d_L_orders_220 rfl) ?_
                          refine xv (x_goto 225 d_L_orders_221 rfl) ?_
                          refine v_icmp_ne 248 228 d_L_orders_225 rfl rfl (by omega) (by omega) (by omega) (by omega) (fun k225 => ?_) (fun k225 => ?_)
                          · omega
                          · refine xv (x_iload_n 229 d_L_orders_228 rfl rfl) ?_
                            refine xv (x_iconst 230 d_L_orders_229 rfl) ?_
                            refine v_icmp_ne 250 233 d_L_orders_230 rfl rfl (by omega) (by omega) (by omega) (by omega) (fun k230 => ?_) (fun k230 => ?_)
                            · exact J250 _ (px_mo P214 (by omega))
                            · refine xv (x_aload_n 234 d_L_orders_233 rfl rfl) ?_
                              refine xv (x_iload_n 235 d_L_orders_234 rfl rfl) ?_
                              refine xv (x_iconst 236 d_L_orders_235 rfl) ?_
                              obtain ⟨h236, e236, P236⟩ := A_orderOf2 (E := E) (y := y) P214 ⟨by omega, by omega⟩
                              refine xv (x_inv1 239 (as := [Value.int (zi y), Value.int (zi 2)]) d_L_orders_236 rfl c_9_225 rfl (Nat.le_of_ble_eq_true rfl) (Nat.le_of_ble_eq_true rfl) (px_o P214) (Nat.le_of_ble_eq_true rfl) (Nat.le_of_ble_eq_true rfl) rfl e236) ?_
                              have q236 := rg_a2 hR (y := y) ⟨by omega, by omega⟩
                              show Xv E q_m_L_orders 239 [Value.ref x, Value.int (zi (oin l 0)), Value.int (zi y), Value.int (zi (stc l y)), Value.int (zi (rwo l y)), Value.int (zi 1), b6, b7, b8, b9, b10] [Value.int (zi (ob l y 2))] h236 Q
                              refine xv (x_aload_n 240 d_L_orders_239 rfl rfl) ?_
                              refine xv (x_iload_n 241 d_L_orders_240 rfl rfl) ?_
                              refine xv (x_iconst 242 d_L_orders_241 rfl) ?_
                              obtain ⟨h242, e242, P242⟩ := A_orderOf1 (E := E) (y := y) P236 ⟨by omega, by omega⟩
                              refine xv (x_inv1 245 (as := [Value.int (zi y), Value.int (zi 1)]) d_L_orders_242 rfl c_9_225 rfl (Nat.le_of_ble_eq_true rfl) (Nat.le_of_ble_eq_true rfl) (px_o P236) (Nat.le_of_ble_eq_true rfl) (Nat.le_of_ble_eq_true rfl) rfl e242) ?_
                              have q242 := rg_a1 hR (y := y) ⟨by omega, by omega⟩
                              show Xv E q_m_L_orders 245 [Value.ref x, Value.int (zi (oin l 0)), Value.int (zi y), Value.int (zi (stc l y)), Value.int (zi (rwo l y)), Value.int (zi 1), b6, b7, b8, b9, b10] [Value.int (zi (ob l y 1)), Value.int (zi (ob l y 2))] h242 Q
                              refine v_icmp_eq 250 248 d_L_orders_245 rfl rfl (by omega) (by omega) (by omega) (by omega) (fun k245 => ?_) (fun k245 => ?_)
                              · exact J250 _ (px_mo P242 (by omega))
                              · omega
                    · refine xv (x_aload_n 193 d_L_orders_192 rfl rfl) ?_
                      refine xv (x_iload_n 194 d_L_orders_193 rfl rfl) ?_
                      refine xv (x_iconst 195 d_L_orders_194 rfl) ?_
                      obtain ⟨h195, e195, P195⟩ := A_orderOf2 (E := E) (y := y) P136 ⟨by omega, by omega⟩
                      refine xv (x_inv1 198 (as := [Value.int (zi y), Value.int (zi 2)]) d_L_orders_195 rfl c_9_225 rfl (Nat.le_of_ble_eq_true rfl) (Nat.le_of_ble_eq_true rfl) (px_o P136) (Nat.le_of_ble_eq_true rfl) (Nat.le_of_ble_eq_true rfl) rfl e195) ?_
                      have q195 := rg_a2 hR (y := y) ⟨by omega, by omega⟩
                      show Xv E q_m_L_orders 198 [Value.ref x, Value.int (zi (oin l 0)), Value.int (zi y), Value.int (zi (stc l y)), Value.int (zi (rwo l y)), Value.int (zi 1), b6, b7, b8, b9, b10] [Value.int (zi (ob l y 2))] h195 Q
                      refine v_if_ne 248 201 d_L_orders_198 rfl rfl (by omega) (by omega) (fun k198 => ?_) (fun k198 => ?_)
                      · omega
                      · refine xv (x_iload_n 202 d_L_orders_201 rfl rfl) ?_
                        refine xv (x_iconst 203 d_L_orders_202 rfl) ?_
                        refine v_icmp_ne 210 206 d_L_orders_203 rfl rfl (by omega) (by omega) (by omega) (by omega) (fun k203 => ?_) (fun k203 => ?_)
                        · refine xv (x_iconst 211 d_L_orders_210 rfl) ?_
                          refine xv (x_aload_n 212 d_L_orders_211 rfl rfl) ?_
                          refine xv (x_iload_n 213 d_L_orders_212 rfl rfl) ?_
                          refine xv (x_iconst 214 d_L_orders_213 rfl) ?_
                          obtain ⟨h214, e214, P214⟩ := A_orderOf5 (E := E) (y := y) P195 ⟨by omega, by omega⟩
                          refine xv (x_inv1 217 (as := [Value.int (zi y), Value.int (zi 5)]) d_L_orders_214 rfl c_9_225 rfl (Nat.le_of_ble_eq_true rfl) (Nat.le_of_ble_eq_true rfl) (px_o P195) (Nat.le_of_ble_eq_true rfl) (Nat.le_of_ble_eq_true rfl) rfl e214) ?_
                          have q214 := rg_a5 hR (y := y) ⟨by omega, by omega⟩
                          show Xv E q_m_L_orders 217 [Value.ref x, Value.int (zi (oin l 0)), Value.int (zi y), Value.int (zi (stc l y)), Value.int (zi (rwo l y)), Value.int (zi 1), b6, b7, b8, b9, b10] [Value.int (zi (ob l y 4)), Value.int (zi 0)] h214 Q
                          refine v_if_lt 224 220 d_L_orders_217 rfl rfl (by omega) (by omega) (fun k217 => ?_) (fun k217 => ?_)
                          · refine xv (x_iconst 225 d_L_orders_224 rfl) ?_
                            refine v_icmp_ne 248 228 d_L_orders_225 rfl rfl (by omega) (by omega) (by omega) (by omega) (fun k225 => ?_) (fun k225 => ?_)
                            · omega
                            · refine xv (x_iload_n 229 d_L_orders_228 rfl rfl) ?_
                              refine xv (x_iconst 230 d_L_orders_229 rfl) ?_
                              refine v_icmp_ne 250 233 d_L_orders_230 rfl rfl (by omega) (by omega) (by omega) (by omega) (fun k230 => ?_) (fun k230 => ?_)
                              · exact J250 _ (px_mo P214 (by omega))
                              · refine xv (x_aload_n 234 d_L_orders_233 rfl rfl) ?_
                                refine xv (x_iload_n 235 d_L_orders_234 rfl rfl) ?_
                                refine xv (x_iconst 236 d_L_orders_235 rfl) ?_
                                obtain ⟨h236, e236, P236⟩ := A_orderOf2 (E := E) (y := y) P214 ⟨by omega, by omega⟩
                                refine xv (x_inv1 239 (as := [Value.int (zi y), Value.int (zi 2)]) d_L_orders_236 rfl c_9_225 rfl (Nat.le_of_ble_eq_true rfl) (Nat.le_of_ble_eq_true rfl) (px_o P214) (Nat.le_of_ble_eq_true rfl) (Nat.le_of_ble_eq_true rfl) rfl e236) ?_
                                have q236 := rg_a2 hR (y := y) ⟨by omega, by omega⟩
                                show Xv E q_m_L_orders 239 [Value.ref x, Value.int (zi (oin l 0)), Value.int (zi y), Value.int (zi (stc l y)), Value.int (zi (rwo l y)), Value.int (zi 1), b6, b7, b8, b9, b10] [Value.int (zi (ob l y 2))] h236 Q
                                refine xv (x_aload_n 240 d_L_orders_239 rfl rfl) ?_
                                refine xv (x_iload_n 241 d_L_orders_240 rfl rfl) ?_
                                refine xv (x_iconst 242 d_L_orders_241 rfl) ?_
                                obtain ⟨h242, e242, P242⟩ := A_orderOf1 (E := E) (y := y) P236 ⟨by omega, by omega⟩
                                refine xv (x_inv1 245 (as := [Value.int (zi y), Value.int (zi 1)]) d_L_orders_242 rfl c_9_225 rfl (Nat.le_of_ble_eq_true rfl) (Nat.le_of_ble_eq_true rfl) (px_o P236) (Nat.le_of_ble_eq_true rfl) (Nat.le_of_ble_eq_true rfl) rfl e242) ?_
                                have q242 := rg_a1 hR (y := y) ⟨by omega, by omega⟩
                                show Xv E q_m_L_orders 245 [Value.ref x, Value.int (zi (oin l 0)), Value.int (zi y), Value.int (zi (stc l y)), Value.int (zi (rwo l y)), Value.int (zi 1), b6, b7, b8, b9, b10] [Value.int (zi (ob l y 1)), Value.int (zi (ob l y 2))] h242 Q
                                refine v_icmp_eq 250 248 d_L_orders_245 rfl rfl (by omega) (by omega) (by omega) (by omega) (fun k245 => ?_) (fun k245 => ?_)
                                · exact J250 _ (px_mo P242 (by omega))
                                · omega
                          · omega
                        · refine xv (x_iconst 207 d_L_orders_206 rfl) ?_
                          refine xv (x_goto 211 d_L_orders_207 rfl) ?_
                          refine xv (x_aload_n 212 d_L_orders_211 rfl rfl) ?_
                          refine xv (x_iload_n 213 d_L_orders_212 rfl rfl) ?_
                          refine xv (x_iconst 214 d_L_orders_213 rfl) ?_
                          obtain ⟨h214, e214, P214⟩ := A_orderOf5 (E := E) (y := y) P195 ⟨by omega, by omega⟩
                          refine xv (x_inv1 217 (as := [Value.int (zi y), Value.int (zi 5)]) d_L_orders_214 rfl c_9_225 rfl (Nat.le_of_ble_eq_true rfl) (Nat.le_of_ble_eq_true rfl) (px_o P195) (Nat.le_of_ble_eq_true rfl) (Nat.le_of_ble_eq_true rfl) rfl e214) ?_
                          have q214 := rg_a5 hR (y := y) ⟨by omega, by omega⟩
                          show Xv E q_m_L_orders 217 [Value.ref x, Value.int (zi (oin l 0)), Value.int (zi y), Value.int (zi (stc l y)), Value.int (zi (rwo l y)), Value.int (zi 1), b6, b7, b8, b9, b10] [Value.int (zi (ob l y 4)), Value.int (zi 1)] h214 Q
                          refine v_if_lt 224 220 d_L_orders_217 rfl rfl (by omega) (by omega) (fun k217 => ?_) (fun k217 => ?_)
                          · omega
                          · refine xv (x_iconst 221 d_L_orders_220 rfl) ?_
                            refine xv (x_goto 225 d_L_orders_221 rfl) ?_
                            refine v_icmp_ne 248 228 d_L_orders_225 rfl rfl (by omega) (by omega) (by omega) (by omega) (fun k225 => ?_) (fun k225 => ?_)
                            · omega
                            · refine xv (x_iload_n 229 d_L_orders_228 rfl rfl) ?_
                              refine xv (x_iconst 230 d_L_orders_229 rfl) ?_
                              refine v_icmp_ne 250 233 d_L_orders_230 rfl rfl (by omega) (by omega) (by omega) (by omega) (fun k230 => ?_) (fun k230 => ?_)
                              · exact J250 _ (px_mo P214 (by omega))
                              · refine xv (x_aload_n 234 d_L_orders_233 rfl rfl) ?_
                                refine xv (x_iload_n 235 d_L_orders_234 rfl rfl) ?_
                                refine xv (x_iconst 236 d_L_orders_235 rfl) ?_
                                obtain ⟨h236, e236, P236⟩ := A_orderOf2 (E := E) (y := y) P214 ⟨by omega, by omega⟩
                                refine xv (x_inv1 239 (as := [Value.int (zi y), Value.int (zi 2)]) d_L_orders_236 rfl c_9_225 rfl (Nat.le_of_ble_eq_true rfl) (Nat.le_of_ble_eq_true rfl) (px_o P214) (Nat.le_of_ble_eq_true rfl) (Nat.le_of_ble_eq_true rfl) rfl e236) ?_
                                have q236 := rg_a2 hR (y := y) ⟨by omega, by omega⟩
                                show Xv E q_m_L_orders 239 [Value.ref x, Value.int (zi (oin l 0)), Value.int (zi y), Value.int (zi (stc l y)), Value.int (zi (rwo l y)), Value.int (zi 1), b6, b7, b8, b9, b10] [Value.int (zi (ob l y 2))] h236 Q
                                refine xv (x_aload_n 240 d_L_orders_239 rfl rfl) ?_
                                refine xv (x_iload_n 241 d_L_orders_240 rfl rfl) ?_
                                refine xv (x_iconst 242 d_L_orders_241 rfl) ?_
                                obtain ⟨h242, e242, P242⟩ := A_orderOf1 (E := E) (y := y) P236 ⟨by omega, by omega⟩
                                refine xv (x_inv1 245 (as := [Value.int (zi y), Value.int (zi 1)]) d_L_orders_242 rfl c_9_225 rfl (Nat.le_of_ble_eq_true rfl) (Nat.le_of_ble_eq_true rfl) (px_o P236) (Nat.le_of_ble_eq_true rfl) (Nat.le_of_ble_eq_true rfl) rfl e242) ?_
                                have q242 := rg_a1 hR (y := y) ⟨by omega, by omega⟩
                                show Xv E q_m_L_orders 245 [Value.ref x, Value.int (zi (oin l 0)), Value.int (zi y), Value.int (zi (stc l y)), Value.int (zi (rwo l y)), Value.int (zi 1), b6, b7, b8, b9, b10] [Value.int (zi (ob l y 1)), Value.int (zi (ob l y 2))] h242 Q
                                refine v_icmp_eq 250 248 d_L_orders_245 rfl rfl (by omega) (by omega) (by omega) (by omega) (fun k245 => ?_) (fun k245 => ?_)
                                · exact J250 _ (px_mo P242 (by omega))
                                · omega
              · refine xv (x_iload 148 d_L_orders_146 rfl rfl) ?_
                refine v_if_lt 166 151 d_L_orders_148 rfl rfl (by omega) (by omega) (fun k148 => ?_) (fun k148 => ?_)
                · omega
                · refine xv (x_aload_n 152 d_L_orders_151 rfl rfl) ?_
                  refine xv (x_iload 154 d_L_orders_152 rfl rfl) ?_
                  refine xv (x_iconst 155 d_L_orders_154 rfl) ?_
                  obtain ⟨h155, e155, P155⟩ := A_robotOf2 (E := E) (r := (rwo l y)) P136 ⟨by omega, by omega⟩
                  refine xv (x_inv1 158 (as := [Value.int (zi (rwo l y)), Value.int (zi 2)]) d_L_orders_155 rfl c_9_203 rfl (Nat.le_of_ble_eq_true rfl) (Nat.le_of_ble_eq_true rfl) (px_o P136) (Nat.le_of_ble_eq_true rfl) (Nat.le_of_ble_eq_true rfl) rfl e155) ?_
                  have q155 := rg_b2 hR (r := (rwo l y)) ⟨by omega, by omega⟩
                  show Xv E q_m_L_orders 158 [Value.ref x, Value.int (zi (oin l 0)), Value.int (zi y), Value.int (zi (stc l y)), Value.int (zi (rwo l y)), b5, b6, b7, b8, b9, b10] [Value.int (zi (rb l (rwo l y) 2))] h155 Q
                  refine xv (x_iload_n 159 d_L_orders_158 rfl rfl) ?_
                  refine v_icmp_ne 166 162 d_L_orders_159 rfl rfl (by omega) (by omega) (by omega) (by omega) (fun k159 => ?_) (fun k159 => ?_)
                  · have := F1 k143; omega
                  · refine xv (x_iconst 163 d_L_orders_162 rfl) ?_
                    refine xv (x_goto 181 d_L_orders_163 rfl) ?_
                    refine xv (x_istore 183 d_L_orders_181 rfl (Nat.le_of_ble_eq_true rfl)) ?_
                    show Xv E q_m_L_orders 183 [Value.ref x, Value.int (zi (oin l 0)), Value.int (zi y), Value.int (zi (stc l y)), Value.int (zi (rwo l y)), Value.int (zi 1), b6, b7, b8, b9, b10] [] h155 Q
                    refine xv (x_iload 185 d_L_orders_183 rfl rfl) ?_
                    refine v_if_eq 248 188 d_L_orders_185 rfl rfl (by omega) (by omega) (fun k185 => ?_) (fun k185 => ?_)
                    · omega
                    · refine xv (x_iload_n 189 d_L_orders_188 rfl rfl) ?_
                      refine v_if_ne 201 192 d_L_orders_189 rfl rfl (by omega) (by omega) (fun k189 => ?_) (fun k189 => ?_)
                      · refine xv (x_iload_n 202 d_L_orders_201 rfl rfl) ?_
                        refine xv (x_iconst 203 d_L_orders_202 rfl) ?_
                        refine v_icmp_ne 210 206 d_L_orders_203 rfl rfl (by omega) (by omega) (by omega) (by omega) (fun k203 => ?_) (fun k203 => ?_)
                        · refine xv (x_iconst 211 d_L_orders_210 rfl) ?_
                          refine xv (x_aload_n 212 d_L_orders_211 rfl rfl) ?_
                          refine xv (x_iload_n 213 d_L_orders_212 rfl rfl) ?_
                          refine xv (x_iconst 214 d_L_orders_213 rfl) ?_
                          obtain ⟨h214, e214, P214⟩ := A_orderOf5 (E := E) (y := y) P155 ⟨by omega, by omega⟩
                          refine xv (x_inv1 217 (as := [Value.int (zi y), Value.int (zi 5)]) d_L_orders_214 rfl c_9_225 rfl (Nat.le_of_ble_eq_true rfl) (Nat.le_of_ble_eq_true rfl) (px_o P155) (Nat.le_of_ble_eq_true rfl) (Nat.le_of_ble_eq_true rfl) rfl e214) ?_
                          have q214 := rg_a5 hR (y := y) ⟨by omega, by omega⟩
                          show Xv E q_m_L_orders 217 [Value.ref x, Value.int (zi (oin l 0)), Value.int (zi y), Value.int (zi (stc l y)), Value.int (zi (rwo l y)), Value.int (zi 1), b6, b7, b8, b9, b10] [Value.int (zi (ob l y 4)), Value.int (zi 0)] h214 Q
                          refine v_if_lt 224 220 d_L_orders_217 rfl rfl (by omega) (by omega) (fun k217 => ?_) (fun k217 => ?_)
                          · refine xv (x_iconst 225 d_L_orders_224 rfl) ?_
                            refine v_icmp_ne 248 228 d_L_orders_225 rfl rfl (by omega) (by omega) (by omega) (by omega) (fun k225 => ?_) (fun k225 => ?_)
                            · omega
                            · refine xv (x_iload_n 229 d_L_orders_228 rfl rfl) ?_
                              refine xv (x_iconst 230 d_L_orders_229 rfl) ?_
                              refine v_icmp_ne 250 233 d_L_orders_230 rfl rfl (by omega) (by omega) (by omega) (by omega) (fun k230 => ?_) (fun k230 => ?_)
                              · exact J250 _ (px_mo P214 (by omega))
                              · refine xv (x_aload_n 234 d_L_orders_233 rfl rfl) ?_
                                refine xv (x_iload_n 235 d_L_orders_234 rfl rfl) ?_
                                refine xv (x_iconst 236 d_L_orders_235 rfl) ?_
                                obtain ⟨h236, e236, P236⟩ := A_orderOf2 (E := E) (y := y) P214 ⟨by omega, by omega⟩
                                refine xv (x_inv1 239 (as := [Value.int (zi y), Value.int (zi 2)]) d_L_orders_236 rfl c_9_225 rfl (Nat.le_of_ble_eq_true rfl) (Nat.le_of_ble_eq_true rfl) (px_o P214) (Nat.le_of_ble_eq_true rfl) (Nat.le_of_ble_eq_true rfl) rfl e236) ?_
                                have q236 := rg_a2 hR (y := y) ⟨by omega, by omega⟩
                                show Xv E q_m_L_orders 239 [Value.ref x, Value.int (zi (oin l 0)), Value.int (zi y), Value.int (zi (stc l y)), Value.int (zi (rwo l y)), Value.int (zi 1), b6, b7, b8, b9, b10] [Value.int (zi (ob l y 2))] h236 Q
                                refine xv (x_aload_n 240 d_L_orders_239 rfl rfl) ?_
                                refine xv (x_iload_n 241 d_L_orders_240 rfl rfl) ?_
                                refine xv (x_iconst 242 d_L_orders_241 rfl) ?_
                                obtain ⟨h242, e242, P242⟩ := A_orderOf1 (E := E) (y := y) P236 ⟨by omega, by omega⟩
                                refine xv (x_inv1 245 (as := [Value.int (zi y), Value.int (zi 1)]) d_L_orders_242 rfl c_9_225 rfl (Nat.le_of_ble_eq_true rfl) (Nat.le_of_ble_eq_true rfl) (px_o P236) (Nat.le_of_ble_eq_true rfl) (Nat.le_of_ble_eq_true rfl) rfl e242) ?_
                                have q242 := rg_a1 hR (y := y) ⟨by omega, by omega⟩
                                show Xv E q_m_L_orders 245 [Value.ref x, Value.int (zi (oin l 0)), Value.int (zi y), Value.int (zi (stc l y)), Value.int (zi (rwo l y)), Value.int (zi 1), b6, b7, b8, b9, b10] [Value.int (zi (ob l y 1)), Value.int (zi (ob l y 2))] h242 Q
                                refine v_icmp_eq 250 248 d_L_orders_245 rfl rfl (by omega) (by omega) (by omega) (by omega) (fun k245 => ?_) (fun k245 => ?_)
                                · exact J250 _ (px_mo P242 (by omega))
                                · omega
                          · omega
                        · refine xv (x_iconst 207 d_L_orders_206 rfl) ?_
                          refine xv (x_goto 211 d_L_orders_207 rfl) ?_
                          refine xv (x_aload_n 212 d_L_orders_211 rfl rfl) ?_
                          refine xv (x_iload_n 213 d_L_orders_212 rfl rfl) ?_
                          refine xv (x_iconst 214 d_L_orders_213 rfl) ?_
                          obtain ⟨h214, e214, P214⟩ := A_orderOf5 (E := E) (y := y) P155 ⟨by omega, by omega⟩
                          refine xv (x_inv1 217 (as := [Value.int (zi y), Value.int (zi 5)]) d_L_orders_214 rfl c_9_225 rfl (Nat.le_of_ble_eq_true rfl) (Nat.le_of_ble_eq_true rfl) (px_o P155) (Nat.le_of_ble_eq_true rfl) (Nat.le_of_ble_eq_true rfl) rfl e214) ?_
                          have q214 := rg_a5 hR (y := y) ⟨by omega, by omega⟩
                          show Xv E q_m_L_orders 217 [Value.ref x, Value.int (zi (oin l 0)), Value.int (zi y), Value.int (zi (stc l y)), Value.int (zi (rwo l y)), Value.int (zi 1), b6, b7, b8, b9, b10] [Value.int (zi (ob l y 4)), Value.int (zi 1)] h214 Q
                          refine v_if_lt 224 220 d_L_orders_217 rfl rfl (by omega) (by omega) (fun k217 => ?_) (fun k217 => ?_)
                          · omega
                          · refine xv (x_iconst 221 d_L_orders_220 rfl) ?_
                            refine xv (x_goto 225 d_L_orders_221 rfl) ?_
                            refine v_icmp_ne 248 228 d_L_orders_225 rfl rfl (by omega) (by omega) (by omega) (by omega) (fun k225 => ?_) (fun k225 => ?_)
                            · omega
                            · refine xv (x_iload_n 229 d_L_orders_228 rfl rfl) ?_
                              refine xv (x_iconst 230 d_L_orders_229 rfl) ?_
                              refine v_icmp_ne 250 233 d_L_orders_230 rfl rfl (by omega) (by omega) (by omega) (by omega) (fun k230 => ?_) (fun k230 => ?_)
                              · exact J250 _ (px_mo P214 (by omega))
                              · refine xv (x_aload_n 234 d_L_orders_233 rfl rfl) ?_
                                refine xv (x_iload_n 235 d_L_orders_234 rfl rfl) ?_
                                refine xv (x_iconst 236 d_L_orders_235 rfl) ?_
                                obtain ⟨h236, e236, P236⟩ := A_orderOf2 (E := E) (y := y) P214 ⟨by omega, by omega⟩
                                refine xv (x_inv1 239 (as := [Value.int (zi y), Value.int (zi 2)]) d_L_orders_236 rfl c_9_225 rfl (Nat.le_of_ble_eq_true rfl) (Nat.le_of_ble_eq_true rfl) (px_o P214) (Nat.le_of_ble_eq_true rfl) (Nat.le_of_ble_eq_true rfl) rfl e236) ?_
                                have q236 := rg_a2 hR (y := y) ⟨by omega, by omega⟩
                                show Xv E q_m_L_orders 239 [Value.ref x, Value.int (zi (oin l 0)), Value.int (zi y), Value.int (zi (stc l y)), Value.int (zi (rwo l y)), Value.int (zi 1), b6, b7, b8, b9, b10] [Value.int (zi (ob l y 2))] h236 Q
                                refine xv (x_aload_n 240 d_L_orders_239 rfl rfl) ?_
                                refine xv (x_iload_n 241 d_L_orders_240 rfl rfl) ?_
                                refine xv (x_iconst 242 d_L_orders_241 rfl) ?_
                                obtain ⟨h242, e242, P242⟩ := A_orderOf1 (E := E) (y := y) P236 ⟨by omega, by omega⟩
                                refine xv (x_inv1 245 (as := [Value.int (zi y), Value.int (zi 1)]) d_L_orders_242 rfl c_9_225 rfl (Nat.le_of_ble_eq_true rfl) (Nat.le_of_ble_eq_true rfl) (px_o P236) (Nat.le_of_ble_eq_true rfl) (Nat.le_of_ble_eq_true rfl) rfl e242) ?_
                                have q242 := rg_a1 hR (y := y) ⟨by omega, by omega⟩
                                show Xv E q_m_L_orders 245 [Value.ref x, Value.int (zi (oin l 0)), Value.int (zi y), Value.int (zi (stc l y)), Value.int (zi (rwo l y)), Value.int (zi 1), b6, b7, b8, b9, b10] [Value.int (zi (ob l y 1)), Value.int (zi (ob l y 2))] h242 Q
                                refine v_icmp_eq 250 248 d_L_orders_245 rfl rfl (by omega) (by omega) (by omega) (by omega) (fun k245 => ?_) (fun k245 => ?_)
                                · exact J250 _ (px_mo P242 (by omega))
                                · omega
                      · refine xv (x_aload_n 193 d_L_orders_192 rfl rfl) ?_
                        refine xv (x_iload_n 194 d_L_orders_193 rfl rfl) ?_
                        refine xv (x_iconst 195 d_L_orders_194 rfl) ?_
                        obtain ⟨h195, e195, P195⟩ := A_orderOf2 (E := E) (y := y) P155 ⟨by omega, by omega⟩
                        refine xv (x_inv1 198 (as := [Value.int (zi y), Value.int (zi 2)]) d_L_orders_195 rfl c_9_225 rfl (Nat.le_of_ble_eq_true rfl) (Nat.le_of_ble_eq_true rfl) (px_o P155) (Nat.le_of_ble_eq_true rfl) (Nat.le_of_ble_eq_true rfl) rfl e195) ?_
                        have q195 := rg_a2 hR (y := y) ⟨by omega, by omega⟩
                        show Xv E q_m_L_orders 198 [Value.ref x, Value.int (zi (oin l 0)), Value.int (zi y), Value.int (zi (stc l y)), Value.int (zi (rwo l y)), Value.int (zi 1), b6, b7, b8, b9, b10] [Value.int (zi (ob l y 2))] h195 Q
                        refine v_if_ne 248 201 d_L_orders_198 rfl rfl (by omega) (by omega) (fun k198 => ?_) (fun k198 => ?_)
                        · omega
                        · refine xv (x_iload_n 202 d_L_orders_201 rfl rfl) ?_
                          refine xv (x_iconst 203 d_L_orders_202 rfl) ?_
                          refine v_icmp_ne 210 206 d_L_orders_203 rfl rfl (by omega) (by omega) (by omega) (by omega) (fun k203 => ?_) (fun k203 => ?_)
                          · refine xv (x_iconst 211 d_L_orders_210 rfl) ?_
                            refine xv (x_aload_n 212 d_L_orders_211 rfl rfl) ?_
                            refine xv (x_iload_n 213 d_L_orders_212 rfl rfl) ?_
                            refine xv (x_iconst 214 d_L_orders_213 rfl) ?_
                            obtain ⟨h214, e214, P214⟩ := A_orderOf5 (E := E) (y := y) P195 ⟨by omega, by omega⟩
                            refine xv (x_inv1 217 (as := [Value.int (zi y), Value.int (zi 5)]) d_L_orders_214 rfl c_9_225 rfl (Nat.le_of_ble_eq_true rfl) (Nat.le_of_ble_eq_true rfl) (px_o P195) (Nat.le_of_ble_eq_true rfl) (Nat.le_of_ble_eq_true rfl) rfl e214) ?_
                            have q214 := rg_a5 hR (y := y) ⟨by omega, by omega⟩
                            show Xv E q_m_L_orders 217 [Value.ref x, Value.int (zi (oin l 0)), Value.int (zi y), Value.int (zi (stc l y)), Value.int (zi (rwo l y)), Value.int (zi 1), b6, b7, b8, b9, b10] [Value.int (zi (ob l y 4)), Value.int (zi 0)] h214 Q
                            refine v_if_lt 224 220 d_L_orders_217 rfl rfl (by omega) (by omega) (fun k217 => ?_) (fun k217 => ?_)
                            · refine xv (x_iconst 225 d_L_orders_224 rfl) ?_
                              refine v_icmp_ne 248 228 d_L_orders_225 rfl rfl (by omega) (by omega) (by omega) (by omega) (fun k225 => ?_) (fun k225 => ?_)
                              · omega
                              · refine xv (x_iload_n 229 d_L_orders_228 rfl rfl) ?_
                                refine xv (x_iconst 230 d_L_orders_229 rfl) ?_
                                refine v_icmp_ne 250 233 d_L_orders_230 rfl rfl (by omega) (by omega) (by omega) (by omega) (fun k230 => ?_) (fun k230 => ?_)
                                · exact J250 _ (px_mo P214 (by omega))
                                · refine xv (x_aload_n 234 d_L_orders_233 rfl rfl) ?_
                                  refine xv (x_iload_n 235 d_L_orders_234 rfl rfl) ?_
                                  refine xv (x_iconst 236 d_L_orders_235 rfl) ?_
                                  obtain ⟨h236, e236, P236⟩ := A_orderOf2 (E := E) (y := y) P214 ⟨by omega, by omega⟩
                                  refine xv (x_inv1 239 (as := [Value.int (zi y), Value.int (zi 2)]) d_L_orders_236 rfl c_9_225 rfl (Nat.le_of_ble_eq_true rfl) (Nat.le_of_ble_eq_true rfl) (px_o P214) (Nat.le_of_ble_eq_true rfl) (Nat.le_of_ble_eq_true rfl) rfl e236) ?_
                                  have q236 := rg_a2 hR (y := y) ⟨by omega, by omega⟩
                                  show Xv E q_m_L_orders 239 [Value.ref x, Value.int (zi (oin l 0)), Value.int (zi y), Value.int (zi (stc l y)), Value.int (zi (rwo l y)), Value.int (zi 1), b6, b7, b8, b9, b10] [Value.int (zi (ob l y 2))] h236 Q
                                  refine xv (x_aload_n 240 d_L_orders_239 rfl rfl) ?_
                                  refine xv (x_iload_n 241 d_L_orders_240 rfl rfl) ?_
                                  refine xv (x_iconst 242 d_L_orders_241 rfl) ?_
                                  obtain ⟨h242, e242, P242⟩ := A_orderOf1 (E := E) (y := y) P236 ⟨by omega, by omega⟩
                                  refine xv (x_inv1 245 (as := [Value.int (zi y), Value.int (zi 1)]) d_L_orders_242 rfl c_9_225 rfl (Nat.le_of_ble_eq_true rfl) (Nat.le_of_ble_eq_true rfl) (px_o P236) (Nat.le_of_ble_eq_true rfl) (Nat.le_of_ble_eq_true rfl) rfl e242) ?_
                                  have q242 := rg_a1 hR (y := y) ⟨by omega, by omega⟩
                                  show Xv E q_m_L_orders 245 [Value.ref x, Value.int (zi (oin l 0)), Value.int (zi y), Value.int (zi (stc l y)), Value.int (zi (rwo l y)), Value.int (zi 1), b6, b7, b8, b9, b10] [Value.int (zi (ob l y 1)), Value.int (zi (ob l y 2))] h242 Q
                                  refine v_icmp_eq 250 248 d_L_orders_245 rfl rfl (by omega) (by omega) (by omega) (by omega) (fun k245 => ?_) (fun k245 => ?_)
                                  · exact J250 _ (px_mo P242 (by omega))
                                  · omega
                            · omega
                          · refine xv (x_iconst 207 d_L_orders_206 rfl) ?_
                            refine xv (x_goto 211 d_L_orders_207 rfl) ?_
                            refine xv (x_aload_n 212 d_L_orders_211 rfl rfl) ?_
                            refine xv (x_iload_n 213 d_L_orders_212 rfl rfl) ?_
                            refine xv (x_iconst 214 d_L_orders_213 rfl) ?_
                            obtain ⟨h214, e214, P214⟩ := A_orderOf5 (E := E) (y := y) P195 ⟨by omega, by omega⟩
                            refine xv (x_inv1 217 (as := [Value.int (zi y), Value.int (zi 5)]) d_L_orders_214 rfl c_9_225 rfl (Nat.le_of_ble_eq_true rfl) (Nat.le_of_ble_eq_true rfl) (px_o P195) (Nat.le_of_ble_eq_true rfl) (Nat.le_of_ble_eq_true rfl) rfl e214) ?_
                            have q214 := rg_a5 hR (y := y) ⟨by omega, by omega⟩
                            show Xv E q_m_L_orders 217 [Value.ref x, Value.int (zi (oin l 0)), Value.int (zi y), Value.int (zi (stc l y)), Value.int (zi (rwo l y)), Value.int (zi 1), b6, b7, b8, b9, b10] [Value.int (zi (ob l y 4)), Value.int (zi 1)] h214 Q
                            refine v_if_lt 224 220 d_L_orders_217 rfl rfl (by omega) (by omega) (fun k217 => ?_) (fun k217 => ?_)
                            · omega
                            · refine xv (x_iconst 221 d_L_orders_220 rfl) ?_
                              refine xv (x_goto 225 d_L_orders_221 rfl) ?_
                              refine v_icmp_ne 248 228 d_L_orders_225 rfl rfl (by omega) (by omega) (by omega) (by omega) (fun k225 => ?_) (fun k225 => ?_)
                              · omega
                              · refine xv (x_iload_n 229 d_L_orders_228 rfl rfl) ?_
                                refine xv (x_iconst 230 d_L_orders_229 rfl) ?_
                                refine v_icmp_ne 250 233 d_L_orders_230 rfl rfl (by omega) (by omega) (by omega) (by omega) (fun k230 => ?_) (fun k230 => ?_)
                                · exact J250 _ (px_mo P214 (by omega))
                                · refine xv (x_aload_n 234 d_L_orders_233 rfl rfl) ?_
                                  refine xv (x_iload_n 235 d_L_orders_234 rfl rfl) ?_
                                  refine xv (x_iconst 236 d_L_orders_235 rfl) ?_
                                  obtain ⟨h236, e236, P236⟩ := A_orderOf2 (E := E) (y := y) P214 ⟨by omega, by omega⟩
                                  refine xv (x_inv1 239 (as := [Value.int (zi y), Value.int (zi 2)]) d_L_orders_236 rfl c_9_225 rfl (Nat.le_of_ble_eq_true rfl) (Nat.le_of_ble_eq_true rfl) (px_o P214) (Nat.le_of_ble_eq_true rfl) (Nat.le_of_ble_eq_true rfl) rfl e236) ?_
                                  have q236 := rg_a2 hR (y := y) ⟨by omega, by omega⟩
                                  show Xv E q_m_L_orders 239 [Value.ref x, Value.int (zi (oin l 0)), Value.int (zi y), Value.int (zi (stc l y)), Value.int (zi (rwo l y)), Value.int (zi 1), b6, b7, b8, b9, b10] [Value.int (zi (ob l y 2))] h236 Q
                                  refine xv (x_aload_n 240 d_L_orders_239 rfl rfl) ?_
                                  refine xv (x_iload_n 241 d_L_orders_240 rfl rfl) ?_
                                  refine xv (x_iconst 242 d_L_orders_241 rfl) ?_
                                  obtain ⟨h242, e242, P242⟩ := A_orderOf1 (E := E) (y := y) P236 ⟨by omega, by omega⟩
                                  refine xv (x_inv1 245 (as := [Value.int (zi y), Value.int (zi 1)]) d_L_orders_242 rfl c_9_225 rfl (Nat.le_of_ble_eq_true rfl) (Nat.le_of_ble_eq_true rfl) (px_o P236) (Nat.le_of_ble_eq_true rfl) (Nat.le_of_ble_eq_true rfl) rfl e242) ?_
                                  have q242 := rg_a1 hR (y := y) ⟨by omega, by omega⟩
                                  show Xv E q_m_L_orders 245 [Value.ref x, Value.int (zi (oin l 0)), Value.int (zi y), Value.int (zi (stc l y)), Value.int (zi (rwo l y)), Value.int (zi 1), b6, b7, b8, b9, b10] [Value.int (zi (ob l y 1)), Value.int (zi (ob l y 2))] h242 Q
                                  refine v_icmp_eq 250 248 d_L_orders_245 rfl rfl (by omega) (by omega) (by omega) (by omega) (fun k245 => ?_) (fun k245 => ?_)
                                  · exact J250 _ (px_mo P242 (by omega))
                                  · omega
        exact L117 _ 0 _ _ _ _ _ _ _ _ _ (by omega) (by omega) (px_mo P_8 (by omega)) rfl
      · refine xv (x_aload_n 16 d_L_orders_15 rfl rfl) ?_
        refine xv (x_iload_n 17 d_L_orders_16 rfl rfl) ?_
        obtain ⟨h17, e17, P17⟩ := A_waiting (E := E)  P_8 (y := k) (by omega) (by omega)
        obtain ⟨a, wa, ha, pa, ta, ba⟩ := wr_k (k := k) hT (by omega) (by omega)
        have a0 := ha.1
        have a1 := ha.2
        rw [show dV (wor l k) = a from by rw [wa]; exact if_neg (by omega)] at e17
        refine xv (x_ins1 20 (as := [Value.ref x, Value.int (zi k)]) d_L_orders_17 rfl c_9_223 rfl (Nat.le_of_ble_eq_true rfl) (Nat.le_of_ble_eq_true rfl) (Nat.le_of_ble_eq_true rfl) rfl e17) ?_
        have q17 := rg_wor hR (i := k)
        show Xv E q_m_L_orders 20 [Value.ref x, Value.int (zi (oin l 0)), Value.int (zi k), a3, a4, a5, Value.null, Value.null, Value.null, Value.null, Value.null] [Value.int (zi a)] h17 Q
        refine xv (x_istore_n 21 d_L_orders_20 rfl (Nat.le_of_ble_eq_true rfl)) ?_
        show Xv E q_m_L_orders 21 [Value.ref x, Value.int (zi (oin l 0)), Value.int (zi k), Value.int (zi a), a4, a5, Value.null, Value.null, Value.null, Value.null, Value.null] [] h17 Q
        refine xv (x_aload_n 22 d_L_orders_21 rfl rfl) ?_
        refine xv (x_iload_n 23 d_L_orders_22 rfl rfl) ?_
        refine xv (x_iconst 24 d_L_orders_23 rfl) ?_
        refine xv (x_iadd 25 d_L_orders_24 rfl) ?_
        obtain ⟨h25, e25, P25⟩ := A_waiting (E := E)  P17 (y := (k + 1)) (by omega) (by omega)
        obtain ⟨b, wb, hb, pb, tb, bb⟩ := wr_k (k := k + 1) hT (by omega) (by omega)
        have b0 := hb.1
        have b1 := hb.2
        have rab := wr_lt hT ta tb ba bb
        rw [show dV (wor l (k + 1)) = b from by rw [wb]; exact if_neg (by omega)] at e25
        refine xv (x_ins1 28 (as := [Value.ref x, Value.int (zi (k + 1))]) d_L_orders_25 rfl c_9_223 rfl (Nat.le_of_ble_eq_true rfl) (Nat.le_of_ble_eq_true rfl) (Nat.le_of_ble_eq_true rfl) rfl e25) ?_
        have q25 := rg_wor hR (i := (k + 1))
        show Xv E q_m_L_orders 28 [Value.ref x, Value.int (zi (oin l 0)), Value.int (zi k), Value.int (zi a), a4, a5, Value.null, Value.null, Value.null, Value.null, Value.null] [Value.int (zi b)] h25 Q
        refine xv (x_istore 30 d_L_orders_28 rfl (Nat.le_of_ble_eq_true rfl)) ?_
        show Xv E q_m_L_orders 30 [Value.ref x, Value.int (zi (oin l 0)), Value.int (zi k), Value.int (zi a), Value.int (zi b), a5, Value.null, Value.null, Value.null, Value.null, Value.null] [] h25 Q
        refine xv (x_aload_n 31 d_L_orders_30 rfl rfl) ?_
        refine xv (x_iload_n 32 d_L_orders_31 rfl rfl) ?_
        refine xv (x_iconst 33 d_L_orders_32 rfl) ?_
        obtain ⟨h33, e33, P33⟩ := A_orderOf0 (E := E) (y := a) P25 ⟨by omega, by omega⟩
        refine xv (x_inv1 36 (as := [Value.int (zi a), Value.int (zi 0)]) d_L_orders_33 rfl c_9_225 rfl (Nat.le_of_ble_eq_true rfl) (Nat.le_of_ble_eq_true rfl) (px_o P25) (Nat.le_of_ble_eq_true rfl) (Nat.le_of_ble_eq_true rfl) rfl e33) ?_
        have q33 := rg_a0 hR (y := a) ⟨by omega, by omega⟩
        show Xv E q_m_L_orders 36 [Value.ref x, Value.int (zi (oin l 0)), Value.int (zi k), Value.int (zi a), Value.int (zi b), a5, Value.null, Value.null, Value.null, Value.null, Value.null] [Value.int (zi (ob l a 0))] h33 Q
        refine xv (x_aload_n 37 d_L_orders_36 rfl rfl) ?_
        refine xv (x_iload 39 d_L_orders_37 rfl rfl) ?_
        refine xv (x_iconst 40 d_L_orders_39 rfl) ?_
        obtain ⟨h40, e40, P40⟩ := A_orderOf0 (E := E) (y := b) P33 ⟨by omega, by omega⟩
        refine xv (x_inv1 43 (as := [Value.int (zi b), Value.int (zi 0)]) d_L_orders_40 rfl c_9_225 rfl (Nat.le_of_ble_eq_true rfl) (Nat.le_of_ble_eq_true rfl) (px_o P33) (Nat.le_of_ble_eq_true rfl) (Nat.le_of_ble_eq_true rfl) rfl e40) ?_
        have q40 := rg_a0 hR (y := b) ⟨by omega, by omega⟩
        show Xv E q_m_L_orders 43 [Value.ref x, Value.int (zi (oin l 0)), Value.int (zi k), Value.int (zi a), Value.int (zi b), a5, Value.null, Value.null, Value.null, Value.null, Value.null] [Value.int (zi (ob l b 0)), Value.int (zi (ob l a 0))] h40 Q
        refine v_icmp_eq 63 46 d_L_orders_43 rfl rfl (by omega) (by omega) (by omega) (by omega) (fun k43 => ?_) (fun k43 => ?_)
        · refine xv (x_aload_n 64 d_L_orders_63 rfl rfl) ?_
          refine xv (x_iload_n 65 d_L_orders_64 rfl rfl) ?_
          refine xv (x_iconst 66 d_L_orders_65 rfl) ?_
          obtain ⟨h66, e66, P66⟩ := A_orderOf1 (E := E) (y := a) P40 ⟨by omega, by omega⟩
          refine xv (x_inv1 69 (as := [Value.int (zi a), Value.int (zi 1)]) d_L_orders_66 rfl c_9_225 rfl (Nat.le_of_ble_eq_true rfl) (Nat.le_of_ble_eq_true rfl) (px_o P40) (Nat.le_of_ble_eq_true rfl) (Nat.le_of_ble_eq_true rfl) rfl e66) ?_
          have q66 := rg_a1 hR (y := a) ⟨by omega, by omega⟩
          show Xv E q_m_L_orders 69 [Value.ref x, Value.int (zi (oin l 0)), Value.int (zi k), Value.int (zi a), Value.int (zi b), a5, Value.null, Value.null, Value.null, Value.null, Value.null] [Value.int (zi (ob l a 1))] h66 Q
          refine xv (x_aload_n 70 d_L_orders_69 rfl rfl) ?_
          refine xv (x_iload 72 d_L_orders_70 rfl rfl) ?_
          refine xv (x_iconst 73 d_L_orders_72 rfl) ?_
          obtain ⟨h73, e73, P73⟩ := A_orderOf1 (E := E) (y := b) P66 ⟨by omega, by omega⟩
          refine xv (x_inv1 76 (as := [Value.int (zi b), Value.int (zi 1)]) d_L_orders_73 rfl c_9_225 rfl (Nat.le_of_ble_eq_true rfl) (Nat.le_of_ble_eq_true rfl) (px_o P66) (Nat.le_of_ble_eq_true rfl) (Nat.le_of_ble_eq_true rfl) rfl e73) ?_
          have q73 := rg_a1 hR (y := b) ⟨by omega, by omega⟩
          show Xv E q_m_L_orders 76 [Value.ref x, Value.int (zi (oin l 0)), Value.int (zi k), Value.int (zi a), Value.int (zi b), a5, Value.null, Value.null, Value.null, Value.null, Value.null] [Value.int (zi (ob l b 1)), Value.int (zi (ob l a 1))] h73 Q
          refine v_icmp_eq 96 79 d_L_orders_76 rfl rfl (by omega) (by omega) (by omega) (by omega) (fun k76 => ?_) (fun k76 => ?_)
          · refine xv (x_iload 98 d_L_orders_96 rfl rfl) ?_
            refine xv (x_iload_n 99 d_L_orders_98 rfl rfl) ?_
            refine xv (x_isub 100 d_L_orders_99 rfl) ?_
            refine xv (x_istore 102 d_L_orders_100 rfl (Nat.le_of_ble_eq_true rfl)) ?_
            show Xv E q_m_L_orders 102 [Value.ref x, Value.int (zi (oin l 0)), Value.int (zi k), Value.int (zi a), Value.int (zi b), Value.int (zi (b - a)), Value.null, Value.null, Value.null, Value.null, Value.null] [] h73 Q
            refine xv (x_iload 104 d_L_orders_102 rfl rfl) ?_
            refine v_if_gt 109 107 d_L_orders_104 rfl rfl (by omega) (by omega) (fun k104 => ?_) (fun k104 => ?_)
            · refine xv (x_iinc 112 d_L_orders_109 rfl rfl) ?_
              show Xv E q_m_L_orders 112 [Value.ref x, Value.int (zi (oin l 0)), Value.int (zi (k + 1)), Value.int (zi a), Value.int (zi b), Value.int (zi (b - a)), Value.null, Value.null, Value.null, Value.null, Value.null] [] h73 Q
              refine xv (x_goto 8 d_L_orders_112 rfl) ?_
              exact ih8 _ (by omega) (k + 1) _ _ _ _ (by omega) (by omega) (px_mo P73 (by omega)) rfl
            · omega
          · refine xv (x_aload_n 80 d_L_orders_79 rfl rfl) ?_
            refine xv (x_iload_n 81 d_L_orders_80 rfl rfl) ?_
            refine xv (x_iconst 82 d_L_orders_81 rfl) ?_
            obtain ⟨h82, e82, P82⟩ := A_orderOf1 (E := E) (y := a) P73 ⟨by omega, by omega⟩
            refine xv (x_inv1 85 (as := [Value.int (zi a), Value.int (zi 1)]) d_L_orders_82 rfl c_9_225 rfl (Nat.le_of_ble_eq_true rfl) (Nat.le_of_ble_eq_true rfl) (px_o P73) (Nat.le_of_ble_eq_true rfl) (Nat.le_of_ble_eq_true rfl) rfl e82) ?_
            have q82 := rg_a1 hR (y := a) ⟨by omega, by omega⟩
            show Xv E q_m_L_orders 85 [Value.ref x, Value.int (zi (oin l 0)), Value.int (zi k), Value.int (zi a), Value.int (zi b), a5, Value.null, Value.null, Value.null, Value.null, Value.null] [Value.int (zi (ob l a 1))] h82 Q
            refine xv (x_aload_n 86 d_L_orders_85 rfl rfl) ?_
            refine xv (x_iload 88 d_L_orders_86 rfl rfl) ?_
            refine xv (x_iconst 89 d_L_orders_88 rfl) ?_
            obtain ⟨h89, e89, P89⟩ := A_orderOf1 (E := E) (y := b) P82 ⟨by omega, by omega⟩
            refine xv (x_inv1 92 (as := [Value.int (zi b), Value.int (zi 1)]) d_L_orders_89 rfl c_9_225 rfl (Nat.le_of_ble_eq_true rfl) (Nat.le_of_ble_eq_true rfl) (px_o P82) (Nat.le_of_ble_eq_true rfl) (Nat.le_of_ble_eq_true rfl) rfl e89) ?_
            have q89 := rg_a1 hR (y := b) ⟨by omega, by omega⟩
            show Xv E q_m_L_orders 92 [Value.ref x, Value.int (zi (oin l 0)), Value.int (zi k), Value.int (zi a), Value.int (zi b), a5, Value.null, Value.null, Value.null, Value.null, Value.null] [Value.int (zi (ob l b 1)), Value.int (zi (ob l a 1))] h89 Q
            refine xv (x_isub 93 d_L_orders_92 rfl) ?_
            refine xv (x_goto 100 d_L_orders_93 rfl) ?_
            refine xv (x_istore 102 d_L_orders_100 rfl (Nat.le_of_ble_eq_true rfl)) ?_
            show Xv E q_m_L_orders 102 [Value.ref x, Value.int (zi (oin l 0)), Value.int (zi k), Value.int (zi a), Value.int (zi b), Value.int (zi ((ob l a 1) - (ob l b 1))), Value.null, Value.null, Value.null, Value.null, Value.null] [] h89 Q
            refine xv (x_iload 104 d_L_orders_102 rfl rfl) ?_
            refine v_if_gt 109 107 d_L_orders_104 rfl rfl (by omega) (by omega) (fun k104 => ?_) (fun k104 => ?_)
            · refine xv (x_iinc 112 d_L_orders_109 rfl rfl) ?_
              show Xv E q_m_L_orders 112 [Value.ref x, Value.int (zi (oin l 0)), Value.int (zi (k + 1)), Value.int (zi a), Value.int (zi b), Value.int (zi ((ob l a 1) - (ob l b 1))), Value.null, Value.null, Value.null, Value.null, Value.null] [] h89 Q
              refine xv (x_goto 8 d_L_orders_112 rfl) ?_
              exact ih8 _ (by omega) (k + 1) _ _ _ _ (by omega) (by omega) (px_mo P89 (by omega)) rfl
            · omega
        · refine xv (x_aload_n 47 d_L_orders_46 rfl rfl) ?_
          refine xv (x_iload 49 d_L_orders_47 rfl rfl) ?_
          refine xv (x_iconst 50 d_L_orders_49 rfl) ?_
          obtain ⟨h50, e50, P50⟩ := A_orderOf0 (E := E) (y := b) P40 ⟨by omega, by omega⟩
          refine xv (x_inv1 53 (as := [Value.int (zi b), Value.int (zi 0)]) d_L_orders_50 rfl c_9_225 rfl (Nat.le_of_ble_eq_true rfl) (Nat.le_of_ble_eq_true rfl) (px_o P40) (Nat.le_of_ble_eq_true rfl) (Nat.le_of_ble_eq_true rfl) rfl e50) ?_
          have q50 := rg_a0 hR (y := b) ⟨by omega, by omega⟩
          show Xv E q_m_L_orders 53 [Value.ref x, Value.int (zi (oin l 0)), Value.int (zi k), Value.int (zi a), Value.int (zi b), a5, Value.null, Value.null, Value.null, Value.null, Value.null] [Value.int (zi (ob l b 0))] h50 Q
          refine xv (x_aload_n 54 d_L_orders_53 rfl rfl) ?_
          refine xv (x_iload_n 55 d_L_orders_54 rfl rfl) ?_
          refine xv (x_iconst 56 d_L_orders_55 rfl) ?_
          obtain ⟨h56, e56, P56⟩ := A_orderOf0 (E := E) (y := a) P50 ⟨by omega, by omega⟩
          refine xv (x_inv1 59 (as := [Value.int (zi a), Value.int (zi 0)]) d_L_orders_56 rfl c_9_225 rfl (Nat.le_of_ble_eq_true rfl) (Nat.le_of_ble_eq_true rfl) (px_o P50) (Nat.le_of_ble_eq_true rfl) (Nat.le_of_ble_eq_true rfl) rfl e56) ?_
          have q56 := rg_a0 hR (y := a) ⟨by omega, by omega⟩
          show Xv E q_m_L_orders 59 [Value.ref x, Value.int (zi (oin l 0)), Value.int (zi k), Value.int (zi a), Value.int (zi b), a5, Value.null, Value.null, Value.null, Value.null, Value.null] [Value.int (zi (ob l a 0)), Value.int (zi (ob l b 0))] h56 Q
          refine xv (x_isub 60 d_L_orders_59 rfl) ?_
          refine xv (x_goto 100 d_L_orders_60 rfl) ?_
          refine xv (x_istore 102 d_L_orders_100 rfl (Nat.le_of_ble_eq_true rfl)) ?_
          show Xv E q_m_L_orders 102 [Value.ref x, Value.int (zi (oin l 0)), Value.int (zi k), Value.int (zi a), Value.int (zi b), Value.int (zi ((ob l b 0) - (ob l a 0))), Value.null, Value.null, Value.null, Value.null, Value.null] [] h56 Q
          refine xv (x_iload 104 d_L_orders_102 rfl rfl) ?_
          refine v_if_gt 109 107 d_L_orders_104 rfl rfl (by omega) (by omega) (fun k104 => ?_) (fun k104 => ?_)
          · refine xv (x_iinc 112 d_L_orders_109 rfl rfl) ?_
            show Xv E q_m_L_orders 112 [Value.ref x, Value.int (zi (oin l 0)), Value.int (zi (k + 1)), Value.int (zi a), Value.int (zi b), Value.int (zi ((ob l b 0) - (ob l a 0))), Value.null, Value.null, Value.null, Value.null, Value.null] [] h56 Q
            refine xv (x_goto 8 d_L_orders_112 rfl) ?_
            exact ih8 _ (by omega) (k + 1) _ _ _ _ (by omega) (by omega) (px_mo P56 (by omega)) rfl
          · omega
  exact L8 _ 0 _ _ _ _ (by omega) (by omega) (px_mo P2 (by omega)) rfl
end DOR
