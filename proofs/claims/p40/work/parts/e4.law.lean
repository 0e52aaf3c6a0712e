/-! the law's check of letters (printed by program) -/
section E4
variable {E : q_E} {M : q_M} {h h' h0 : q_H} {x N b L : Nat} {ys : Nat → Int32} {l ls c : Int → Int} {kl : Int → Int → Int} {nx ct n hs fa kr kd_ kb k k' v y z r t i g w : Int}
variable {p q f a : Int} {m : Int → Int}
theorem txt_lo {ta tb : Nat} {n : Nat} {f : Int → Int} (H : TXT E h ta tb n f) (h1 : ta < x) (h2 : tb < x) (hL : Lo h x) (hL' : Lo h' x) : TXT E h' ta tb n f := txt_eq ((hL' _ h1).trans (hL _ h1).symm) ((hL' _ h2).trans (hL _ h2).symm) H
theorem P_letters (hE : q_EN E x) (hN : NDl l) (hC : ∀ c, isC l c → l (56 + c) = 0) (P : PX x l ls nx ct kl n c hs fa kr kd_ h0 (kb) h) : ∃ r_ h', q_cl E q_m_L_letters [Value.ref x] h = some (r_, h') ∧ (r_ = .inl (some (.int (zi 1))) ∧ PX x l ls nx ct kl n c hs fa kr kd_ h0 (kb) h') := by
  suffices K : ∀ Q : q_R → q_H → Prop, (∀ r_ h', (r_ = .inl (some (.int (zi 1))) ∧ PX x l ls nx ct kl n c hs fa kr kd_ h0 (kb) h') → Q r_ h') → Xv E q_m_L_letters 0 [Value.ref x, Value.null, Value.null, Value.null, Value.null] [] h Q from K _ fun _ _ p => p
  intro Q hQ
  have hR := P.2.1
  have gc := rg_c hR
  have gr := rg_r hR
  have go := rg_o hR
  obtain ⟨ta, tb, et, ⟨ta0, tb0⟩, TT⟩ := txt_cst (E := E) (h := h) (i := 6) hE (px_lo P) (by decide)
  refine xv (x_iconst 1 d_L_letters_0 rfl) ?_
  refine xv (x_istore_n 2 d_L_letters_1 rfl (Nat.le_of_ble_eq_true rfl)) ?_
  show Xv E q_m_L_letters 2 [Value.ref x, Value.int (zi 0), Value.null, Value.null, Value.null] [] h Q
  refine xv (x_iconst 3 d_L_letters_2 rfl) ?_
  refine xv (x_istore_n 4 d_L_letters_3 rfl (Nat.le_of_ble_eq_true rfl)) ?_
  show Xv E q_m_L_letters 4 [Value.ref x, Value.int (zi 0), Value.int (zi 0), Value.null, Value.null] [] h Q
  have L4 : ∀ (n_ : Nat) (y : Int) (p : Int) (a3 : Value) (a4 : Value) (h_4 : q_H), (0 ≤ y ∧ y ≤ cs l) → (p = spP (fRo l) y) → (PX x l ls nx ct kl n c hs fa kr kd_ h0 (kb) h_4) → (cs l - y).toNat = n_ → Xv E q_m_L_letters 4 [Value.ref x, Value.int (zi p), Value.int (zi y), a3, a4] [] h_4 Q := by
    intro n_
    induction n_ using Nat.strongRecOn with
    | _ n_ ih4 =>
      intro y p a3 a4 h_4 y4_0 y4_1 P_4 em
      have c1 := b_ro (l := l) y4_0.1
      have d1 := spP_s (f := fRo l) y4_0.1
      have i1 : fRo l y = bI (0 ≤ rin l y 0) := rfl
      refine xv (x_iload_n 5 d_L_letters_4 rfl rfl) ?_
      refine xv (x_aload_n 6 d_L_letters_5 rfl rfl) ?_
      obtain ⟨h6, e6, P6⟩ := A_cells (E := E)  P_4 
      refine xv (x_ins1 9 (as := [Value.ref x]) d_L_letters_6 rfl c_9_145 rfl (Nat.le_of_ble_eq_true rfl) (Nat.le_of_ble_eq_true rfl) (Nat.le_of_ble_eq_true rfl) rfl e6) ?_
      show Xv E q_m_L_letters 9 [Value.ref x, Value.int (zi p), Value.int (zi y), a3, a4] [Value.int (zi (cs l)), Value.int (zi y)] h6 Q
      refine v_icmp_ge 89 12 d_L_letters_9 rfl rfl (by omega) (by omega) (by omega) (by omega) (fun k9 => ?_) (fun k9 => ?_)
      · have F := e_rob hR hN
        rw [show cs l = y by omega, ← y4_1] at F
        refine xv (x_iload_n 90 d_L_letters_89 rfl rfl) ?_
        refine xv (x_aload_n 91 d_L_letters_90 rfl rfl) ?_
        refine xv (x_iconst 92 d_L_letters_91 rfl) ?_
        obtain ⟨h92, e92, P92⟩ := A_account2 (E := E)  P6 
        refine xv (x_inv1 95 (as := [Value.int (zi 2)]) d_L_letters_92 rfl c_9_109 rfl (Nat.le_of_ble_eq_true rfl) (Nat.le_of_ble_eq_true rfl) (px_o P6) (Nat.le_of_ble_eq_true rfl) (Nat.le_of_ble_eq_true rfl) rfl e92) ?_
        have q92 := rg_n2 hR
        show Xv E q_m_L_letters 95 [Value.ref x, Value.int (zi p), Value.int (zi y), a3, a4] [Value.int (zi (l 3)), Value.int (zi p)] h92 Q
        refine v_icmp_ne 102 98 d_L_letters_95 rfl rfl (by omega) (by omega) (by omega) (by omega) (fun k95 => ?_) (fun k95 => ?_)
        · omega
        · refine xv (x_iconst 99 d_L_letters_98 rfl) ?_
          refine xv (x_goto 103 d_L_letters_99 rfl) ?_
          refine xv_r (x_ireturn d_L_letters_103 rfl rfl) ?_
          exact hQ _ _ ⟨rfl, px_mo P92 (by omega)⟩
      · refine xv (x_aload_n 13 d_L_letters_12 rfl rfl) ?_
        refine xv (x_iload_n 14 d_L_letters_13 rfl rfl) ?_
        refine xv (x_iconst 15 d_L_letters_14 rfl) ?_
        obtain ⟨h15, e15, P15⟩ := A_cell2 (E := E) (y := y) P6 ⟨by omega, by omega⟩
        refine xv (x_inv1 18 (as := [Value.int (zi y), Value.int (zi 2)]) d_L_letters_15 rfl c_9_196 rfl (Nat.le_of_ble_eq_true rfl) (Nat.le_of_ble_eq_true rfl) (px_o P6) (Nat.le_of_ble_eq_true rfl) (Nat.le_of_ble_eq_true rfl) rfl e15) ?_
        have q15 := rg_in hR (y := y) (t := 0)
        show Xv E q_m_L_letters 18 [Value.ref x, Value.int (zi p), Value.int (zi y), a3, a4] [Value.int (zi (rin l y 0))] h15 Q
        refine xv (x_istore_n 19 d_L_letters_18 rfl (Nat.le_of_ble_eq_true rfl)) ?_
        show Xv E q_m_L_letters 19 [Value.ref x, Value.int (zi p), Value.int (zi y), Value.int (zi (rin l y 0)), a4] [] h15 Q
        refine xv (x_aload_n 20 d_L_letters_19 rfl rfl) ?_
        refine xv (x_iload_n 21 d_L_letters_20 rfl rfl) ?_
        obtain ⟨h21, e21, P21⟩ := A_letter (E := E) (y := y) P15 hE ⟨by omega, by omega⟩
        refine xv (x_inv1 24 (as := [Value.int (zi y)]) d_L_letters_21 rfl c_9_241 rfl (Nat.le_of_ble_eq_true rfl) (Nat.le_of_ble_eq_true rfl) (px_o P15) (Nat.le_of_ble_eq_true rfl) (Nat.le_of_ble_eq_true rfl) rfl e21) ?_
        have q21 := rg_let hR (y := y) ⟨by omega, by omega⟩
        show Xv E q_m_L_letters 24 [Value.ref x, Value.int (zi p), Value.int (zi y), Value.int (zi (rin l y 0)), a4] [Value.int (zi (letV l y))] h21 Q
        refine xv (x_istore 26 d_L_letters_24 rfl (Nat.le_of_ble_eq_true rfl)) ?_
        show Xv E q_m_L_letters 26 [Value.ref x, Value.int (zi p), Value.int (zi y), Value.int (zi (rin l y 0)), Value.int (zi (letV l y))] [] h21 Q
        refine xv (x_iload_n 27 d_L_letters_26 rfl rfl) ?_
        refine xv (x_iload_n 28 d_L_letters_27 rfl rfl) ?_
        refine v_if_lt 35 31 d_L_letters_28 rfl rfl (by omega) (by omega) (fun k28 => ?_) (fun k28 => ?_)
        · refine xv (x_iconst 36 d_L_letters_35 rfl) ?_
          refine xv (x_iadd 37 d_L_letters_36 rfl) ?_
          refine xv (x_istore_n 38 d_L_letters_37 rfl (Nat.le_of_ble_eq_true rfl)) ?_
          show Xv E q_m_L_letters 38 [Value.ref x, Value.int (zi (p + 0)), Value.int (zi y), Value.int (zi (rin l y 0)), Value.int (zi (letV l y))] [] h21 Q
          have F1 : 0 ≤ rin l y 0 → fRo l y = 1 := fun h => bI_t h
          have F2 : ¬ 0 ≤ rin l y 0 → fRo l y = 0 := fun h => bI_f h
          have F3 : 0 ≤ rin l y 0 → letV l y = 48 + rin l y 0 := let_r
          have F4 : 0 ≤ rin l y 0 → rb l (rin l y 0) 0 = y := fun h => (rin_at h).2
          have F5 : ¬ 0 ≤ rin l y 0 → letV l y = (q_stb 6).getD (l (8 + y)).toNat 0 := let_k hR (y := y) ⟨by omega, by omega⟩ (hC y ⟨by omega, by omega⟩)
          refine xv (x_iload_n 39 d_L_letters_38 rfl rfl) ?_
          refine v_if_lt 65 42 d_L_letters_39 rfl rfl (by omega) (by omega) (fun k39 => ?_) (fun k39 => ?_)
          · refine xv (x_iload 67 d_L_letters_65 rfl rfl) ?_
            refine xv (x_ldcs 69 d_L_letters_67 rfl rfl (Nat.le_of_ble_eq_true rfl) (show E.1 (6 + 2 * 6) = some (.ref ta) from et)) ?_
            refine xv (x_aload_n 70 d_L_letters_69 rfl rfl) ?_
            refine xv (x_iload_n 71 d_L_letters_70 rfl rfl) ?_
            refine xv (x_iconst 72 d_L_letters_71 rfl) ?_
            obtain ⟨h72, e72, P72⟩ := A_cell0 (E := E) (y := y) P21 ⟨by omega, by omega⟩
            refine xv (x_inv1 75 (as := [Value.int (zi y), Value.int (zi 0)]) d_L_letters_72 rfl c_9_196 rfl (Nat.le_of_ble_eq_true rfl) (Nat.le_of_ble_eq_true rfl) (px_o P21) (Nat.le_of_ble_eq_true rfl) (Nat.le_of_ble_eq_true rfl) rfl e72) ?_
            have q72 := rg_k hR (y := y) ⟨by omega, by omega⟩
            show Xv E q_m_L_letters 75 [Value.ref x, Value.int (zi (p + 0)), Value.int (zi y), Value.int (zi (rin l y 0)), Value.int (zi (letV l y))] [Value.int (zi (l (8 + y))), Value.ref ta, Value.int (zi (letV l y))] h72 Q
            have T75 := txt_lo TT ta0 tb0 (px_lo P) (px_lo P72)
            refine xv (x_invS 78 (as := [Value.int (zi (l (8 + y)))]) d_L_letters_75 rfl c_9_27 rfl rfl (Nat.le_of_ble_eq_true rfl) T75.2.1 (Nat.le_of_ble_eq_true rfl) (Nat.le_of_ble_eq_true rfl) rfl (S_J0_charAt hE T75 (k := l (8 + y)) (by show 0 ≤ (l (8 + y)) ∧ (l (8 + y)) < ((4 : Nat) : Int); omega))) ?_
            have qc75 := T75.1.2 (l (8 + y)) (by omega) (by show (l (8 + y)) < ((4 : Nat) : Int); omega)
            replace qc75 : 0 ≤ (q_stb 6).getD (l (8 + y)).toNat 0 ∧ (q_stb 6).getD (l (8 + y)).toNat 0 ≤ 127 := qc75
            show Xv E q_m_L_letters 78 [Value.ref x, Value.int (zi (p + 0)), Value.int (zi y), Value.int (zi (rin l y 0)), Value.int (zi (letV l y))] [Value.int (zi ((q_stb 6).getD (l (8 + y)).toNat 0)), Value.int (zi (letV l y))] h72 Q
            refine v_icmp_eq 83 81 d_L_letters_78 rfl rfl (by omega) (by omega) (by omega) (by omega) (fun k78 => ?_) (fun k78 => ?_)
            · refine xv (x_iinc 86 d_L_letters_83 rfl rfl) ?_
              show Xv E q_m_L_letters 86 [Value.ref x, Value.int (zi (p + 0)), Value.int (zi (y + 1)), Value.int (zi (rin l y 0)), Value.int (zi (letV l y))] [] h72 Q
              refine xv (x_goto 4 d_L_letters_86 rfl) ?_
              exact ih4 _ (by omega) (y + 1) (p + 0) _ _ _ (by omega) (by omega) (px_mo P72 (by omega)) rfl
            · omega
          · omega
        · refine xv (x_iconst 32 d_L_letters_31 rfl) ?_
          refine xv (x_goto 36 d_L_letters_32 rfl) ?_
          refine xv (x_iadd 37 d_L_letters_36 rfl) ?_
          refine xv (x_istore_n 38 d_L_letters_37 rfl (Nat.le_of_ble_eq_true rfl)) ?_
          show Xv E q_m_L_letters 38 [Value.ref x, Value.int (zi (p + 1)), Value.int (zi y), Value.int (zi (rin l y 0)), Value.int (zi (letV l y))] [] h21 Q
          have F1 : 0 ≤ rin l y 0 → fRo l y = 1 := fun h => bI_t h
          have F2 : ¬ 0 ≤ rin l y 0 → fRo l y = 0 := fun h => bI_f h
          have F3 : 0 ≤ rin l y 0 → letV l y = 48 + rin l y 0 := let_r
          have F4 : 0 ≤ rin l y 0 → rb l (rin l y 0) 0 = y := fun h => (rin_at h).2
          have F5 : ¬ 0 ≤ rin l y 0 → letV l y = (q_stb 6).getD (l (8 + y)).toNat 0 := let_k hR (y := y) ⟨by omega, by omega⟩ (hC y ⟨by omega, by omega⟩)
          refine xv (x_iload_n 39 d_L_letters_38 rfl rfl) ?_
          refine v_if_lt 65 42 d_L_letters_39 rfl rfl (by omega) (by omega) (fun k39 => ?_) (fun k39 => ?_)
          · omega
          · refine xv (x_iload 44 d_L_letters_42 rfl rfl) ?_
            refine xv (x_bipush 46 d_L_letters_44 rfl rfl) ?_
            refine xv (x_iload_n 47 d_L_letters_46 rfl rfl) ?_
            refine xv (x_iadd 48 d_L_letters_47 rfl) ?_
            refine xv (x_i2c 49 d_L_letters_48 rfl) ?_
            rw [zc_c (by omega) (by omega)]
            show Xv E q_m_L_letters 49 [Value.ref x, Value.int (zi (p + 1)), Value.int (zi y), Value.int (zi (rin l y 0)), Value.int (zi (letV l y))] [Value.int (zi (48 + (rin l y 0))), Value.int (zi (letV l y))] h21 Q
            refine v_icmp_ne 81 52 d_L_letters_49 rfl rfl (by omega) (by omega) (by omega) (by omega) (fun k49 => ?_) (fun k49 => ?_)
            · omega
            · refine xv (x_aload_n 53 d_L_letters_52 rfl rfl) ?_
              refine xv (x_iload_n 54 d_L_letters_53 rfl rfl) ?_
              refine xv (x_iconst 55 d_L_letters_54 rfl) ?_
              obtain ⟨h55, e55, P55⟩ := A_robotOf0 (E := E) (r := (rin l y 0)) P21 ⟨by omega, by omega⟩
              refine xv (x_inv1 58 (as := [Value.int (zi (rin l y 0)), Value.int (zi 0)]) d_L_letters_55 rfl c_9_203 rfl (Nat.le_of_ble_eq_true rfl) (Nat.le_of_ble_eq_true rfl) (px_o P21) (Nat.le_of_ble_eq_true rfl) (Nat.le_of_ble_eq_true rfl) rfl e55) ?_
              have q55 := rg_b0 hR (r := (rin l y 0)) ⟨by omega, by omega⟩
              show Xv E q_m_L_letters 58 [Value.ref x, Value.int (zi (p + 1)), Value.int (zi y), Value.int (zi (rin l y 0)), Value.int (zi (letV l y))] [Value.int (zi (rb l (rin l y 0) 0))] h55 Q
              refine xv (x_iload_n 59 d_L_letters_58 rfl rfl) ?_
              refine v_icmp_eq 83 62 d_L_letters_59 rfl rfl (by omega) (by omega) (by omega) (by omega) (fun k59 => ?_) (fun k59 => ?_)
              · refine xv (x_iinc 86 d_L_letters_83 rfl rfl) ?_
                show Xv E q_m_L_letters 86 [Value.ref x, Value.int (zi (p + 1)), Value.int (zi (y + 1)), Value.int (zi (rin l y 0)), Value.int (zi (letV l y))] [] h55 Q
                refine xv (x_goto 4 d_L_letters_86 rfl) ?_
                exact ih4 _ (by omega) (y + 1) (p + 1) _ _ _ (by omega) (by omega) (px_mo P55 (by omega)) rfl
              · omega
  exact L4 _ 0 0 _ _ _ (by omega) rfl (px_mo P (by omega)) rfl
end E4
