/-! THE LAW'S RUN (printed by program) -/
section F9
variable {E : q_E} {h : q_H} {x b L : Nat} {ys : Nat → Int32}
theorem P_law (hE : q_EN E x) (hb : b < x) (hS : E.2 b = some (.int, L, fun j => .int (ys j))) (hL : L ≤ 260) (hLo : Lo h x) (hs : h.2 = (some x, 0, 0)) : ∃ r_ h', q_cl E q_m_L_law [Value.ref b] h = some (r_, h') ∧ (r_ = .inl (some (.int (zi 1))) ∧ h'.2.2.1 ≤ 3000 ∧ h'.2.2.2 ≤ 200000) := by
  suffices K : ∀ Q : q_R → q_H → Prop, (∀ r_ h', (r_ = .inl (some (.int (zi 1))) ∧ h'.2.2.1 ≤ 3000 ∧ h'.2.2.2 ≤ 200000) → Q r_ h') → Xv E q_m_L_law 0 [Value.ref b, Value.null] [] h Q from K _ fun _ _ p => p
  intro Q hQ
  refine xv (x_aload_n 1 d_L_law_0 rfl rfl) ?_
  obtain ⟨r1, h1, e1, x1, l, kr, T, ⟨hT0, hT1⟩, D1⟩ := P_drawn (E := E) hE hb hS hL hLo hs
  subst x1
  obtain ⟨nx, ct, kl, c, fa, kd_, m, P1, hT, hJ, BB⟩ := D1
  refine xv (x_ins1 4 (as := [Value.ref b]) d_L_law_1 rfl c_9_163 rfl (Nat.le_of_ble_eq_true rfl) (Nat.le_of_ble_eq_true rfl) (Nat.le_of_ble_eq_true rfl) rfl e1) ?_
  show Xv E q_m_L_law 4 [Value.ref b, Value.null] [Value.ref x] h1 Q
  refine xv (x_astore_n 5 d_L_law_4 rfl (Nat.le_of_ble_eq_true rfl)) ?_
  show Xv E q_m_L_law 5 [Value.ref b, Value.ref x] [] h1 Q
  refine xv (x_aload_n 6 d_L_law_5 rfl rfl) ?_
  refine xv (x_ifnull 9 d_L_law_6 rfl) ?_
  refine xv (x_aload_n 10 d_L_law_9 rfl rfl) ?_
  obtain ⟨r10, h10, e10, x10, P10⟩ := P_plans (E := E) (st_ndl hT) (st_enl hT) hJ.1 hJ.2.1 P1
  subst x10
  refine xv (x_ins1 13 (as := [Value.ref x]) d_L_law_10 rfl c_9_167 rfl (Nat.le_of_ble_eq_true rfl) (Nat.le_of_ble_eq_true rfl) (Nat.le_of_ble_eq_true rfl) rfl e10) ?_
  show Xv E q_m_L_law 13 [Value.ref b, Value.ref x] [Value.int (zi 1)] h10 Q
  refine v_if_eq 72 16 d_L_law_13 rfl rfl (by omega) (by omega) (fun k13 => ?_) (fun k13 => ?_)
  · omega
  · refine xv (x_aload_n 17 d_L_law_16 rfl rfl) ?_
    refine xv (x_aload_n 18 d_L_law_17 rfl rfl) ?_
    obtain ⟨r18, h18, e18, x18, P18⟩ := P_distances (E := E) hb hS hL P10
    subst x18
    refine xv (x_ins1 21 (as := [Value.ref b, Value.ref x]) d_L_law_18 rfl c_9_171 rfl (Nat.le_of_ble_eq_true rfl) (Nat.le_of_ble_eq_true rfl) (Nat.le_of_ble_eq_true rfl) rfl e18) ?_
    show Xv E q_m_L_law 21 [Value.ref b, Value.ref x] [Value.int (zi 1)] h18 Q
    refine v_if_eq 72 24 d_L_law_21 rfl rfl (by omega) (by omega) (fun k21 => ?_) (fun k21 => ?_)
    · omega
    · refine xv (x_aload_n 25 d_L_law_24 rfl rfl) ?_
      refine xv (x_aload_n 26 d_L_law_25 rfl rfl) ?_
      obtain ⟨r26, h26, e26, x26, P26⟩ := P_arrivals (E := E) hb hS hL (st_enl hT) P18
      subst x26
      refine xv (x_ins1 29 (as := [Value.ref b, Value.ref x]) d_L_law_26 rfl c_9_175 rfl (Nat.le_of_ble_eq_true rfl) (Nat.le_of_ble_eq_true rfl) (Nat.le_of_ble_eq_true rfl) rfl e26) ?_
      show Xv E q_m_L_law 29 [Value.ref b, Value.ref x] [Value.int (zi 1)] h26 Q
      refine v_if_eq 72 32 d_L_law_29 rfl rfl (by omega) (by omega) (fun k29 => ?_) (fun k29 => ?_)
      · omega
      · refine xv (x_aload_n 33 d_L_law_32 rfl rfl) ?_
        obtain ⟨r33, h33, e33, x33, P33⟩ := P_orders (E := E) hT hJ.2.2.1 P26
        subst x33
        refine xv (x_ins1 36 (as := [Value.ref x]) d_L_law_33 rfl c_9_178 rfl (Nat.le_of_ble_eq_true rfl) (Nat.le_of_ble_eq_true rfl) (Nat.le_of_ble_eq_true rfl) rfl e33) ?_
        show Xv E q_m_L_law 36 [Value.ref b, Value.ref x] [Value.int (zi 1)] h33 Q
        refine v_if_eq 72 39 d_L_law_36 rfl rfl (by omega) (by omega) (fun k36 => ?_) (fun k36 => ?_)
        · omega
        · refine xv (x_aload_n 40 d_L_law_39 rfl rfl) ?_
          obtain ⟨r40, h40, e40, x40, P40⟩ := P_accounts (E := E) hT hJ.2.2.1 P33
          subst x40
          refine xv (x_ins1 43 (as := [Value.ref x]) d_L_law_40 rfl c_9_181 rfl (Nat.le_of_ble_eq_true rfl) (Nat.le_of_ble_eq_true rfl) (Nat.le_of_ble_eq_true rfl) rfl e40) ?_
          show Xv E q_m_L_law 43 [Value.ref b, Value.ref x] [Value.int (zi 1)] h40 Q
          refine v_if_eq 72 46 d_L_law_43 rfl rfl (by omega) (by omega) (fun k43 => ?_) (fun k43 => ?_)
          · omega
          · refine xv (x_aload_n 47 d_L_law_46 rfl rfl) ?_
            obtain ⟨r47, h47, e47, x47, P47⟩ := P_letters (E := E) hE (st_ndl hT) hJ.2.2.2.1 P40
            subst x47
            refine xv (x_ins1 50 (as := [Value.ref x]) d_L_law_47 rfl c_9_184 rfl (Nat.le_of_ble_eq_true rfl) (Nat.le_of_ble_eq_true rfl) (Nat.le_of_ble_eq_true rfl) rfl e47) ?_
            show Xv E q_m_L_law 50 [Value.ref b, Value.ref x] [Value.int (zi 1)] h47 Q
            refine v_if_eq 72 53 d_L_law_50 rfl rfl (by omega) (by omega) (fun k50 => ?_) (fun k50 => ?_)
            · omega
            · refine xv (x_aload_n 54 d_L_law_53 rfl rfl) ?_
              obtain ⟨r54, h54, e54, x54, l2, nx2, ct2, kl2, P54, c54, B54⟩ := P_goesOn (E := E) hT hT0 (by omega) hJ BB (by omega) (by omega) (by omega) P47
              subst x54
              refine xv (x_ins1 57 (as := [Value.ref x]) d_L_law_54 rfl c_9_187 rfl (Nat.le_of_ble_eq_true rfl) (Nat.le_of_ble_eq_true rfl) (Nat.le_of_ble_eq_true rfl) rfl e54) ?_
              show Xv E q_m_L_law 57 [Value.ref b, Value.ref x] [Value.int (zi 1)] h54 Q
              refine v_if_eq 72 60 d_L_law_57 rfl rfl (by omega) (by omega) (fun k57 => ?_) (fun k57 => ?_)
              · omega
              · refine xv (x_aload_n 61 d_L_law_60 rfl rfl) ?_
                refine xv (x_aload_n 62 d_L_law_61 rfl rfl) ?_
                obtain ⟨r62, h62, e62, x62, B62⟩ := P_undone (E := E) hE hb hS hL (st_lc hT c54) hT0 (by omega) B54 (Int.le_refl 0) P54
                subst x62
                refine xv (x_ins1 65 (as := [Value.ref b, Value.ref x]) d_L_law_62 rfl c_9_190 rfl (Nat.le_of_ble_eq_true rfl) (Nat.le_of_ble_eq_true rfl) (Nat.le_of_ble_eq_true rfl) rfl e62) ?_
                show Xv E q_m_L_law 65 [Value.ref b, Value.ref x] [Value.int (zi 1)] h62 Q
                refine v_if_eq 72 68 d_L_law_65 rfl rfl (by omega) (by omega) (fun k65 => ?_) (fun k65 => ?_)
                · omega
                · refine xv (x_iconst 69 d_L_law_68 rfl) ?_
                  refine xv (x_goto 73 d_L_law_69 rfl) ?_
                  refine xv_r (x_ireturn d_L_law_73 rfl rfl) ?_
                  obtain ⟨s_, c_, w_, z_, _, z1_, z2_⟩ := B62
                  have k1 : h62.2.2.1 = c_ := congrArg (fun p => p.2.1) z_
                  have k2 : h62.2.2.2 = w_ := congrArg (fun p => p.2.2) z_
                  exact hQ _ _ ⟨rfl, by omega, by omega⟩
theorem law_run {b0 : Nat} (hE : q_EN E b0) (hS : E.2 b = some (.int, L, fun j => .int (ys j))) (hL : L ≤ 260) (hb : b < b0) : ∃ h', q_cl E q_m_L_law [.ref b] (fun _ => none, some b0, 0, 0) = some (.inl (some (.int 1)), h') ∧ h'.2.2.1 ≤ 3000 ∧ h'.2.2.2 ≤ 200000 := by
  obtain ⟨r, h', e, e1, e2⟩ := P_law (E := E) (h := ((fun _ => none, some b0, 0, 0) : q_H)) hE hb hS hL (fun _ _ => rfl) rfl
  rw [e1] at e
  exact ⟨h', e, e2⟩
end F9
