/-! the reference: loaded, lateness, waiting (printed by program) -/
section RS
variable {E : q_E} {h : q_H} {am : Nat} {M M2 : q_Im} {l : Int → Int} {Mm : q_M} {pc : Nat} {ls st : List Value}
theorem x_fconst (pc' : Nat) (hd : decode Mm.2.1 pc = .ok (.fconst 0, 1)) (hp : pc + 1 = pc') : q_ex E Mm pc ls st h = q_ex E Mm pc' ls (.float FP.fconst0 :: st) h := by
  subst hp
  exact x_go (f := (pc + 1, ls, .float FP.fconst0 :: st, h)) hd rfl
theorem x_dconst (pc' : Nat) (hd : decode Mm.2.1 pc = .ok (.dconst 0, 1)) (hp : pc + 1 = pc') : q_ex E Mm pc ls st h = q_ex E Mm pc' ls (.double FP.dconst0 :: st) h := by
  subst hp
  exact x_go (f := (pc + 1, ls, .double FP.dconst0 :: st, h)) hd rfl
noncomputable def mld (l : Int → Int) : Int := lpI (fun k a => a + bI (ldd l k)) (l 3).toNat 0 0
noncomputable def mlc (l : Int → Int) : Int := lpI (fun k a => if sto l k = 2 then a + 1 else a) (l 4).toNat 0 0
noncomputable def mls (l : Int → Int) : Int := lpI (fun k a => if sto l k = 2 then a + (ob l k 4 - ob l k 0) else a) (l 4).toNat 0 0
noncomputable def mwb (l : Int → Int) (o : Int) : Int := lpI (fun k a => a + bI (sto l k = 0 ∧ ahO l k o)) (l 4).toNat 0 0
noncomputable def mwc (l : Int → Int) : Int := lpI (fun k a => if sto l k = 0 then a + 1 else a) (l 4).toNat 0 0
noncomputable def mwf (l : Int → Int) (i : Int) : Int := lpI (fun k a => if sto l k = 0 then (if mwb l k = i then k else a) else a) (l 4).toNat 0 (-1)
noncomputable def ldM (l : Int → Int) : Int × UInt32 := if l 3 = 0 then (1, FP.fconst0) else (0, FP.fdiv (FP.i2f (zi (mld l))) (FP.i2f (zi (l 3))))
noncomputable def ltM (l : Int → Int) : Int × UInt64 := if mlc l = 0 then (1, FP.dconst0) else (0, FP.ddiv (FP.i2d (zi (mls l))) (FP.i2d (zi (mlc l))))
noncomputable def waiM (l : Int → Int) (i : Int) : Int × Int := if ¬ inn i (-1) (mwc l - 1) then (1, 0) else if i < 0 then (0, mwc l) else (0, mwf l i)
theorem S_X8_loaded (hR : Rg (M 1)) : ∃ r_ h', q_cl E q_m_X8_loaded [Value.ref am] (q_mw h am M) = some (r_, h') ∧ (r_ = .inl (some (.float (ldM (M 1)).2)) ∧ h' = q_mw h am (uM M 0 5 (ldM (M 1)).1)) := by
  suffices K : ∀ Q : q_R → q_H → Prop, (∀ r_ h', (r_ = .inl (some (.float (ldM (M 1)).2)) ∧ h' = q_mw h am (uM M 0 5 (ldM (M 1)).1)) → Q r_ h') → Xv E q_m_X8_loaded 0 [Value.ref am, Value.null, Value.null] [] (q_mw h am M) Q from K _ fun _ _ p => p
  intro Q hQ
  have hR0 := hR
  obtain ⟨hr, g0, g1, g3, g4, gc, g5, g6, g7, gk, gl, gr, go⟩ := hR0
  refine xv (x_aload_n 1 d_X8_loaded_0 rfl rfl) ?_
  refine xv (x_aload_n 2 d_X8_loaded_1 rfl rfl) ?_
  refine xv (x_getfield 5 d_X8_loaded_2 rfl f_8_9 (Nat.le_of_ble_eq_true rfl) (Nat.le_of_ble_eq_true rfl) (q_gf_of m_o rfl)) ?_
  refine xv (x_iconst 6 d_X8_loaded_5 rfl) ?_
  refine xv (x_iaload 7 d_X8_loaded_6 rfl ((m_g1 (by omega) (by omega)).trans (rfl : _ = some (Value.int (zi ((M 1) 3)))))) ?_
  have q_1 : -1000000 ≤ (M 1) 3 ∧ (M 1) 3 ≤ 1000000 := hr _
  refine v_if_ne 14 10 d_X8_loaded_7 rfl rfl (by omega) (by omega) (fun k7 => ?_) (fun k7 => ?_)
  · refine xv (x_iconst 15 d_X8_loaded_14 rfl) ?_
    refine xv (x_putfield 18 d_X8_loaded_15 rfl f_8_49 (Nat.le_of_ble_eq_true rfl) m_pf5 rfl rfl (fun e => absurd e (by decide))) ?_
    show Xv E q_m_X8_loaded 18 [Value.ref am, Value.null, Value.null] [] (q_mw h am (uM M 0 5 0)) Q
    refine xv (x_aload_n 19 d_X8_loaded_18 rfl rfl) ?_
    refine xv (x_getfield 22 d_X8_loaded_19 rfl f_8_49 (Nat.le_of_ble_eq_true rfl) (Nat.le_of_ble_eq_true rfl) ((q_gf_of (m_o (h := h) (am := am) (M := (uM M 0 5 0))) rfl : q_gf (q_mw h am (uM M 0 5 0)) am 8 5 = some (Value.int (zi 0))))) ?_
    refine v_if_le 27 25 d_X8_loaded_22 rfl rfl (by omega) (by omega) (fun k22 => ?_) (fun k22 => ?_)
    · refine xv (x_iconst 28 d_X8_loaded_27 rfl) ?_
      refine xv (x_istore_n 29 d_X8_loaded_28 rfl (Nat.le_of_ble_eq_true rfl)) ?_
      show Xv E q_m_X8_loaded 29 [Value.ref am, Value.int (zi 0), Value.null] [] (q_mw h am (uM M 0 5 0)) Q
      refine xv (x_iconst 30 d_X8_loaded_29 rfl) ?_
      refine xv (x_istore_n 31 d_X8_loaded_30 rfl (Nat.le_of_ble_eq_true rfl)) ?_
      show Xv E q_m_X8_loaded 31 [Value.ref am, Value.int (zi 0), Value.int (zi 0)] [] (q_mw h am (uM M 0 5 0)) Q
      have L31 : ∀ (n_ : Nat) (a : Int) (k : Int), (0 ≤ k) → (k ≤ M 1 3) → (mld (M 1) = lpI (fun k a => a + bI (ldd (M 1) k)) (M 1 3 - k).toNat k a) → (M 1 3 - k).toNat = n_ → Xv E q_m_X8_loaded 31 [Value.ref am, Value.int (zi a), Value.int (zi k)] [] (q_mw h am (uM M 0 5 0)) Q := by
        intro n_
        induction n_ using Nat.strongRecOn with
        | _ n_ ih31 =>
          intro a k k0 k1 hv em
          refine xv (x_iload_n 32 d_X8_loaded_31 rfl rfl) ?_
          refine xv (x_aload_n 33 d_X8_loaded_32 rfl rfl) ?_
          refine xv (x_getfield 36 d_X8_loaded_33 rfl f_8_9 (Nat.le_of_ble_eq_true rfl) (Nat.le_of_ble_eq_true rfl) (q_gf_of m_o rfl)) ?_
          refine xv (x_iconst 37 d_X8_loaded_36 rfl) ?_
          refine xv (x_iaload 38 d_X8_loaded_37 rfl ((m_g1 (by omega) (by omega)).trans (rfl : _ = some (Value.int (zi ((M 1) 3)))))) ?_
          have q_2 : -1000000 ≤ (M 1) 3 ∧ (M 1) 3 ≤ 1000000 := hr _
          refine v_icmp_ge 63 41 d_X8_loaded_38 rfl rfl (by omega) (by omega) (by omega) (by omega) (fun k38 => ?_) (fun k38 => ?_)
          · refine xv (x_iload_n 64 d_X8_loaded_63 rfl rfl) ?_
            refine xv (x_i2f 65 d_X8_loaded_64 rfl) ?_
            refine xv (x_aload_n 66 d_X8_loaded_65 rfl rfl) ?_
            refine xv (x_getfield 69 d_X8_loaded_66 rfl f_8_9 (Nat.le_of_ble_eq_true rfl) (Nat.le_of_ble_eq_true rfl) (q_gf_of m_o rfl)) ?_
            refine xv (x_iconst 70 d_X8_loaded_69 rfl) ?_
            refine xv (x_iaload 71 d_X8_loaded_70 rfl ((m_g1 (by omega) (by omega)).trans (rfl : _ = some (Value.int (zi ((M 1) 3)))))) ?_
            have q_3 : -1000000 ≤ (M 1) 3 ∧ (M 1) 3 ≤ 1000000 := hr _
            refine xv (x_i2f 72 d_X8_loaded_71 rfl) ?_
            refine xv (x_fdiv 73 d_X8_loaded_72 rfl (fdiv_ok (by omega) (by omega))) ?_
            refine xv_r (x_freturn d_X8_loaded_73 rfl) ?_
            have ev : mld (M 1) = a := hv.trans (lpI_e (by omega))
            have er : ldM (M 1) = (0, FP.fdiv (FP.i2f (zi a)) (FP.i2f (zi ((M 1) 3)))) := by unfold ldM; rw [ev]; first | exact if_pos (by omega) | exact if_neg (by omega)
            refine hQ _ _ ?_
            rw [er]
            exact ⟨rfl, rfl⟩
          · refine xv (x_iload_n 42 d_X8_loaded_41 rfl rfl) ?_
            refine xv (x_aload_n 43 d_X8_loaded_42 rfl rfl) ?_
            refine xv (x_iload_n 44 d_X8_loaded_43 rfl rfl) ?_
            refine xv (x_inv1 47 (as := [Value.int (zi k)]) d_X8_loaded_44 rfl c_8_145 rfl (Nat.le_of_ble_eq_true rfl) (Nat.le_of_ble_eq_true rfl) m_o (Nat.le_of_ble_eq_true rfl) (Nat.le_of_ble_eq_true rfl) rfl (S_X8_isLoaded (E := E) (h := h) (am := am) (M := (uM M 0 5 0)) hR (by first | omega | (rw [show (uM M 0 5 0) 1 = (M 1) from rfl]; omega)))) ?_
            show Xv E q_m_X8_loaded 47 [Value.ref am, Value.int (zi a), Value.int (zi k)] [Value.int (zi (bI (ldd (M 1) k))), Value.int (zi a)] (q_mw h am (uM M 0 5 0)) Q
            refine v_if_eq 54 50 d_X8_loaded_47 rfl rfl (by have := bI_r (ldd (M 1) k); omega) (by have := bI_r (ldd (M 1) k); omega) (fun k47 => ?_) (fun k47 => ?_)
            · replace k47 := bI_0.mp k47
              refine xv (x_iconst 55 d_X8_loaded_54 rfl) ?_
              refine xv (x_iadd 56 d_X8_loaded_55 rfl) ?_
              refine xv (x_istore_n 57 d_X8_loaded_56 rfl (Nat.le_of_ble_eq_true rfl)) ?_
              show Xv E q_m_X8_loaded 57 [Value.ref am, Value.int (zi (a + 0)), Value.int (zi k)] [] (q_mw h am (uM M 0 5 0)) Q
              refine xv (x_iinc 60 d_X8_loaded_57 rfl rfl) ?_
              show Xv E q_m_X8_loaded 60 [Value.ref am, Value.int (zi (a + 0)), Value.int (zi (k + 1))] [] (q_mw h am (uM M 0 5 0)) Q
              refine xv (x_goto 31 d_X8_loaded_60 rfl) ?_
              refine ih31 _ (by omega) _ (k + 1) (by omega) (by omega) (hv.trans ((lpI_b (by omega)).trans (congrArg (lpI _ _ _) ?_))) rfl
              show a + bI (ldd (M 1) k) = _
              rw [bI_f k47]
            · replace k47 := bI_n0.mp k47
              refine xv (x_iconst 51 d_X8_loaded_50 rfl) ?_
              refine xv (x_goto 55 d_X8_loaded_51 rfl) ?_
              refine xv (x_iadd 56 d_X8_loaded_55 rfl) ?_
              refine xv (x_istore_n 57 d_X8_loaded_56 rfl (Nat.le_of_ble_eq_true rfl)) ?_
              show Xv E q_m_X8_loaded 57 [Value.ref am, Value.int (zi (a + 1)), Value.int (zi k)] [] (q_mw h am (uM M 0 5 0)) Q
              refine xv (x_iinc 60 d_X8_loaded_57 rfl rfl) ?_
              show Xv E q_m_X8_loaded 60 [Value.ref am, Value.int (zi (a + 1)), Value.int (zi (k + 1))] [] (q_mw h am (uM M 0 5 0)) Q
              refine xv (x_goto 31 d_X8_loaded_60 rfl) ?_
              refine ih31 _ (by omega) _ (k + 1) (by omega) (by omega) (hv.trans ((lpI_b (by omega)).trans (congrArg (lpI _ _ _) ?_))) rfl
              show a + bI (ldd (M 1) k) = _
              rw [bI_t k47]
      exact L31 _ 0 0 (by omega) (by omega) (by rw [Int.sub_zero]; rfl) rfl
    · omega
  · refine xv (x_iconst 11 d_X8_loaded_10 rfl) ?_
    refine xv (x_goto 15 d_X8_loaded_11 rfl) ?_
    refine xv (x_putfield 18 d_X8_loaded_15 rfl f_8_49 (Nat.le_of_ble_eq_true rfl) m_pf5 rfl rfl (fun e => absurd e (by decide))) ?_
    show Xv E q_m_X8_loaded 18 [Value.ref am, Value.null, Value.null] [] (q_mw h am (uM M 0 5 1)) Q
    refine xv (x_aload_n 19 d_X8_loaded_18 rfl rfl) ?_
    refine xv (x_getfield 22 d_X8_loaded_19 rfl f_8_49 (Nat.le_of_ble_eq_true rfl) (Nat.le_of_ble_eq_true rfl) ((q_gf_of (m_o (h := h) (am := am) (M := (uM M 0 5 1))) rfl : q_gf (q_mw h am (uM M 0 5 1)) am 8 5 = some (Value.int (zi 1))))) ?_
    refine v_if_le 27 25 d_X8_loaded_22 rfl rfl (by omega) (by omega) (fun k22 => ?_) (fun k22 => ?_)
    · omega
    · refine xv (x_fconst 26 d_X8_loaded_25 rfl) ?_
      refine xv_r (x_freturn d_X8_loaded_26 rfl) ?_
      have er : ldM (M 1) = (1, FP.fconst0) := by unfold ldM; first | exact if_pos (by omega) | exact if_neg (by omega)
      refine hQ _ _ ?_
      rw [er]
      exact ⟨rfl, rfl⟩
theorem S_X8_lateness (hR : Rg (M 1)) : ∃ r_ h', q_cl E q_m_X8_lateness [Value.ref am] (q_mw h am M) = some (r_, h') ∧ (r_ = .inl (some (.double (ltM (M 1)).2)) ∧ h' = q_mw h am (uM M 0 5 (ltM (M 1)).1)) := by
  suffices K : ∀ Q : q_R → q_H → Prop, (∀ r_ h', (r_ = .inl (some (.double (ltM (M 1)).2)) ∧ h' = q_mw h am (uM M 0 5 (ltM (M 1)).1)) → Q r_ h') → Xv E q_m_X8_lateness 0 [Value.ref am, Value.null, Value.null, Value.null] [] (q_mw h am M) Q from K _ fun _ _ p => p
  intro Q hQ
  have hR0 := hR
  obtain ⟨hr, g0, g1, g3, g4, gc, g5, g6, g7, gk, gl, gr, go⟩ := hR0
  refine xv (x_iconst 1 d_X8_lateness_0 rfl) ?_
  refine xv (x_istore_n 2 d_X8_lateness_1 rfl (Nat.le_of_ble_eq_true rfl)) ?_
  show Xv E q_m_X8_lateness 2 [Value.ref am, Value.int (zi 0), Value.null, Value.null] [] (q_mw h am M) Q
  refine xv (x_iconst 3 d_X8_lateness_2 rfl) ?_
  refine xv (x_istore_n 4 d_X8_lateness_3 rfl (Nat.le_of_ble_eq_true rfl)) ?_
  show Xv E q_m_X8_lateness 4 [Value.ref am, Value.int (zi 0), Value.int (zi 0), Value.null] [] (q_mw h am M) Q
  refine xv (x_iconst 5 d_X8_lateness_4 rfl) ?_
  refine xv (x_istore_n 6 d_X8_lateness_5 rfl (Nat.le_of_ble_eq_true rfl)) ?_
  show Xv E q_m_X8_lateness 6 [Value.ref am, Value.int (zi 0), Value.int (zi 0), Value.int (zi 0)] [] (q_mw h am M) Q
  have L6 : ∀ (n_ : Nat) (a : Int) (b : Int) (k : Int), (0 ≤ k) → (k ≤ M 1 4) → (0 ≤ b ∧ b ≤ k) → (mls (M 1) = lpI (fun k a => if sto (M 1) k = 2 then a + (ob (M 1) k 4 - ob (M 1) k 0) else a) (M 1 4 - k).toNat k a) → (mlc (M 1) = lpI (fun k a => if sto (M 1) k = 2 then a + 1 else a) (M 1 4 - k).toNat k b) → (M 1 4 - k).toNat = n_ → Xv E q_m_X8_lateness 6 [Value.ref am, Value.int (zi a), Value.int (zi b), Value.int (zi k)] [] (q_mw h am M) Q := by
    intro n_
    induction n_ using Nat.strongRecOn with
    | _ n_ ih6 =>
      intro a b k k0 k1 b0 hv hw em
      refine xv (x_iload_n 7 d_X8_lateness_6 rfl rfl) ?_
      refine xv (x_aload_n 8 d_X8_lateness_7 rfl rfl) ?_
      refine xv (x_getfield 11 d_X8_lateness_8 rfl f_8_9 (Nat.le_of_ble_eq_true rfl) (Nat.le_of_ble_eq_true rfl) (q_gf_of m_o rfl)) ?_
      refine xv (x_iconst 12 d_X8_lateness_11 rfl) ?_
      refine xv (x_iaload 13 d_X8_lateness_12 rfl ((m_g1 (by omega) (by omega)).trans (rfl : _ = some (Value.int (zi ((M 1) 4)))))) ?_
      have q_1 : -1000000 ≤ (M 1) 4 ∧ (M 1) 4 ≤ 1000000 := hr _
      refine v_icmp_ge 50 16 d_X8_lateness_13 rfl rfl (by omega) (by omega) (by omega) (by omega) (fun k13 => ?_) (fun k13 => ?_)
      · refine xv (x_aload_n 51 d_X8_lateness_50 rfl rfl) ?_
        refine xv (x_iload_n 52 d_X8_lateness_51 rfl rfl) ?_
        refine v_if_ne 59 55 d_X8_lateness_52 rfl rfl (by omega) (by omega) (fun k52 => ?_) (fun k52 => ?_)
        · refine xv (x_iconst 60 d_X8_lateness_59 rfl) ?_
          refine xv (x_putfield 63 d_X8_lateness_60 rfl f_8_49 (Nat.le_of_ble_eq_true rfl) m_pf5 rfl rfl (fun e => absurd e (by decide))) ?_
          show Xv E q_m_X8_lateness 63 [Value.ref am, Value.int (zi a), Value.int (zi b), Value.int (zi k)] [] (q_mw h am (uM M 0 5 0)) Q
          refine xv (x_aload_n 64 d_X8_lateness_63 rfl rfl) ?_
          refine xv (x_getfield 67 d_X8_lateness_64 rfl f_8_49 (Nat.le_of_ble_eq_true rfl) (Nat.le_of_ble_eq_true rfl) ((q_gf_of (m_o (h := h) (am := am) (M := (uM M 0 5 0))) rfl : q_gf (q_mw h am (uM M 0 5 0)) am 8 5 = some (Value.int (zi 0))))) ?_
          refine v_if_le 74 70 d_X8_lateness_67 rfl rfl (by omega) (by omega) (fun k67 => ?_) (fun k67 => ?_)
          · refine xv (x_iload_n 75 d_X8_lateness_74 rfl rfl) ?_
            refine xv (x_i2d 76 d_X8_lateness_75 rfl) ?_
            refine xv (x_iload_n 77 d_X8_lateness_76 rfl rfl) ?_
            refine xv (x_i2d 78 d_X8_lateness_77 rfl) ?_
            refine xv (x_ddiv 79 d_X8_lateness_78 rfl (ddiv_ok (by omega) (by omega))) ?_
            refine xv_r (x_dreturn d_X8_lateness_79 rfl) ?_
            have ev : mls (M 1) = a := hv.trans (lpI_e (by omega))
            have ew : mlc (M 1) = b := hw.trans (lpI_e (by omega))
            have er : ltM (M 1) = (0, FP.ddiv (FP.i2d (zi a)) (FP.i2d (zi b))) := by unfold ltM; rw [ev, ew]; first | exact if_pos (by omega) | exact if_neg (by omega)
            refine hQ _ _ ?_
            rw [er]
            exact ⟨rfl, rfl⟩
          · omega
        · refine xv (x_iconst 56 d_X8_lateness_55 rfl) ?_
          refine xv (x_goto 60 d_X8_lateness_56 rfl) ?_
          refine xv (x_putfield 63 d_X8_lateness_60 rfl f_8_49 (Nat.le_of_ble_eq_true rfl) m_pf5 rfl rfl (fun e => absurd e (by decide))) ?_
          show Xv E q_m_X8_lateness 63 [Value.ref am, Value.int (zi a), Value.int (zi b), Value.int (zi k)] [] (q_mw h am (uM M 0 5 1)) Q
          refine xv (x_aload_n 64 d_X8_lateness_63 rfl rfl) ?_
          refine xv (x_getfield 67 d_X8_lateness_64 rfl f_8_49 (Nat.le_of_ble_eq_true rfl) (Nat.le_of_ble_eq_true rfl) ((q_gf_of (m_o (h := h) (am := am) (M := (uM M 0 5 1))) rfl : q_gf (q_mw h am (uM M 0 5 1)) am 8 5 = some (Value.int (zi 1))))) ?_
          refine v_if_le 74 70 d_X8_lateness_67 rfl rfl (by omega) (by omega) (fun k67 => ?_) (fun k67 => ?_)
          · omega
          · refine xv (x_dconst 71 d_X8_lateness_70 rfl) ?_
            refine xv (x_goto 79 d_X8_lateness_71 rfl) ?_
            refine xv_r (x_dreturn d_X8_lateness_79 rfl) ?_
            have ev : mls (M 1) = a := hv.trans (lpI_e (by omega))
            have ew : mlc (M 1) = b := hw.trans (lpI_e (by omega))
            have er : ltM (M 1) = (1, FP.dconst0) := by unfold ltM; rw [ev, ew]; first | exact if_pos (by omega) | exact if_neg (by omega)
            refine hQ _ _ ?_
            rw [er]
            exact ⟨rfl, rfl⟩
      · refine xv (x_aload_n 17 d_X8_lateness_16 rfl rfl) ?_
        refine xv (x_iload_n 18 d_X8_lateness_17 rfl rfl) ?_
        refine xv (x_inv1 21 (as := [Value.int (zi k)]) d_X8_lateness_18 rfl c_8_115 rfl (Nat.le_of_ble_eq_true rfl) (Nat.le_of_ble_eq_true rfl) m_o (Nat.le_of_ble_eq_true rfl) (Nat.le_of_ble_eq_true rfl) rfl (S_X8_stateOf (E := E) (h := h) (am := am) (M := M) hR (by omega))) ?_
        have q_2 := @sto_r (M 1) k
        show Xv E q_m_X8_lateness 21 [Value.ref am, Value.int (zi a), Value.int (zi b), Value.int (zi k)] [Value.int (zi (sto (M 1) k))] (q_mw h am M) Q
        refine xv (x_iconst 22 d_X8_lateness_21 rfl) ?_
        refine v_icmp_ne 44 25 d_X8_lateness_22 rfl rfl (by omega) (by omega) (by omega) (by omega) (fun k22 => ?_) (fun k22 => ?_)
        · refine xv (x_iinc 47 d_X8_lateness_44 rfl rfl) ?_
          show Xv E q_m_X8_lateness 47 [Value.ref am, Value.int (zi a), Value.int (zi b), Value.int (zi (k + 1))] [] (q_mw h am M) Q
          refine xv (x_goto 6 d_X8_lateness_47 rfl) ?_
          refine ih6 _ (by omega) _ _ (k + 1) (by omega) (by omega) (by omega) (hv.trans ((lpI_b (by omega)).trans (congrArg (lpI _ _ _) ?_))) (hw.trans ((lpI_b (by omega)).trans (congrArg (lpI _ _ _) ?_))) rfl
          · exact if_neg (by omega)
          · exact if_neg (by omega)
        · have gq := (go k (by omega) (by omega)).1
          refine xv (x_iload_n 26 d_X8_lateness_25 rfl rfl) ?_
          refine xv (x_aload_n 27 d_X8_lateness_26 rfl rfl) ?_
          refine xv (x_iload_n 28 d_X8_lateness_27 rfl rfl) ?_
          refine xv (x_iconst 29 d_X8_lateness_28 rfl) ?_
          refine xv (x_inv1 32 (as := [Value.int (zi k), Value.int (zi 4)]) d_X8_lateness_29 rfl c_8_109 rfl (Nat.le_of_ble_eq_true rfl) (Nat.le_of_ble_eq_true rfl) m_o (Nat.le_of_ble_eq_true rfl) (Nat.le_of_ble_eq_true rfl) rfl (S_X8_get (E := E) (h := h) (am := am) (M := M) hR (by omega) (by omega) (by omega) (by omega))) ?_
          have q_3 : -1000000 ≤ ob (M 1) k 4 ∧ ob (M 1) k 4 ≤ 1000000 := hr _
          show Xv E q_m_X8_lateness 32 [Value.ref am, Value.int (zi a), Value.int (zi b), Value.int (zi k)] [Value.int (zi (ob (M 1) k 4)), Value.int (zi a)] (q_mw h am M) Q
          refine xv (x_aload_n 33 d_X8_lateness_32 rfl rfl) ?_
          refine xv (x_iload_n 34 d_X8_lateness_33 rfl rfl) ?_
          refine xv (x_iconst 35 d_X8_lateness_34 rfl) ?_
          refine xv (x_inv1 38 (as := [Value.int (zi k), Value.int (zi 0)]) d_X8_lateness_35 rfl c_8_109 rfl (Nat.le_of_ble_eq_true rfl) (Nat.le_of_ble_eq_true rfl) m_o (Nat.le_of_ble_eq_true rfl) (Nat.le_of_ble_eq_true rfl) rfl (S_X8_get (E := E) (h := h) (am := am) (M := M) hR (by omega) (by omega) (by omega) (by omega))) ?_
          have q_4 : -1000000 ≤ ob (M 1) k 0 ∧ ob (M 1) k 0 ≤ 1000000 := hr _
          show Xv E q_m_X8_lateness 38 [Value.ref am, Value.int (zi a), Value.int (zi b), Value.int (zi k)] [Value.int (zi (ob (M 1) k 0)), Value.int (zi (ob (M 1) k 4)), Value.int (zi a)] (q_mw h am M) Q
          refine xv (x_isub 39 d_X8_lateness_38 rfl) ?_
          refine xv (x_iadd 40 d_X8_lateness_39 rfl) ?_
          refine xv (x_istore_n 41 d_X8_lateness_40 rfl (Nat.le_of_ble_eq_true rfl)) ?_
          show Xv E q_m_X8_lateness 41 [Value.ref am, Value.int (zi (a + ((ob (M 1) k 4) - (ob (M 1) k 0)))), Value.int (zi b), Value.int (zi k)] [] (q_mw h am M) Q
          refine xv (x_iinc 44 d_X8_lateness_41 rfl rfl) ?_
          show Xv E q_m_X8_lateness 44 [Value.ref am, Value.int (zi (a + ((ob (M 1) k 4) - (ob (M 1) k 0)))), Value.int (zi (b + 1)), Value.int (zi k)] [] (q_mw h am M) Q
          refine xv (x_iinc 47 d_X8_lateness_44 rfl rfl) ?_
          show Xv E q_m_X8_lateness 47 [Value.ref am, Value.int (zi (a + ((ob (M 1) k 4) - (ob (M 1) k 0)))), Value.int (zi (b + 1)), Value.int (zi (k + 1))] [] (q_mw h am M) Q
          refine xv (x_goto 6 d_X8_lateness_47 rfl) ?_
          refine ih6 _ (by omega) _ _ (k + 1) (by omega) (by omega) (by omega) (hv.trans ((lpI_b (by omega)).trans (congrArg (lpI _ _ _) ?_))) (hw.trans ((lpI_b (by omega)).trans (congrArg (lpI _ _ _) ?_))) rfl
          · exact if_pos (by omega)
          · exact if_pos (by omega)
  exact L6 _ 0 0 0 (by omega) (by omega) (by omega) (by rw [Int.sub_zero]; rfl) (by rw [Int.sub_zero]; rfl) rfl
end RS
