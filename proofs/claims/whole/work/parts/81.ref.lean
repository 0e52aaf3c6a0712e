/-! the reference: plan (printed by program) -/
section RA7
variable {E : q_E} {h : q_H} {am : Nat} {M M2 : q_Im} {l C G P : Int → Int} {r g T t k w v c : Int}
theorem bes_ne (hR : RgC l) (hw : 0 ≤ w ∧ w < 4) : bes l c w ≠ c ∨ bes l c w = -1 := by
  have g1 := hR.2.1
  unfold bes
  repeat' split
  all_goals omega
theorem rea_gos (hR : RgC l) (hr : isR l r) (hT : T ≤ 30) : ∀ (n : Nat) (c : Int), rea l r n c → (n : Int) < T → gos l r g T (T - n).toNat c → gos l r g T T.toNat (rb l r 0) := by
  intro n
  induction n with
  | zero =>
    intro c h1 h2 h3
    rw [show c = rb l r 0 from h1, show T - ((0 : Nat) : Int) = T by omega] at h3
    exact h3
  | succ n ih =>
    rintro c ⟨h1, w, hw, h0, h2, hm⟩ h3 h4
    refine ih (bes l c w) h2 (by omega) ?_
    have hd := rea_c hR hr h2
    obtain ⟨u, hu, eu⟩ := bes_sym hR h1 (w := w) hw rfl h0
    rw [gos_s (by omega) (by omega)]
    refine ⟨hd, ⟨u, hu, by rw [eu]; exact h1.1, ?_, by rw [eu]; exact hm⟩, by omega⟩
    rw [eu, show T - (n : Int) - 1 = T - ((n + 1 : Nat) : Int) by omega]
    exact h4
theorem fw_gos (hR : RgC l) (hr : isR l r) (hg : isC l g) (h : ¬ fwM l r g < 0) : (1 ≤ fwM l r g ∧ fwM l r g ≤ l 7) ∧ gos l r g (fwM l r g) (fwM l r g).toNat (rb l r 0) := by
  have g7 := hR.2.2.2.2.2.2.2.2.1
  have gc := hR.2.2.2.2.2.1
  obtain ⟨h1, h2, h3⟩ := fnd_p (P := cnL l r g) (n := (l 7).toNat) (k := 1) (show fwM l r g ≠ -1 by omega)
  have h1 : 1 ≤ fwM l r g ∧ fwM l r g < 1 + (l 7).toNat := h1
  have h2 : cnL l r g (fwM l r g) := h2
  generalize hT : fwM l r g = T at *
  refine ⟨by omega, ?_⟩
  obtain ⟨⟨w, hw, h0, hr1, hm⟩, _⟩ := h2
  refine rea_gos hR hr (by omega) (T - 1).toNat _ hr1 (by omega) ?_
  obtain ⟨u, hu, eu⟩ := bes_sym hR hg (w := w) ⟨hw.1, by omega⟩ rfl h0
  rw [Int.toNat_of_nonneg (by omega), gos_s (by omega) (by omega)]
  refine ⟨rea_c hR hr hr1, ⟨u, hu, by rw [eu]; exact hg.1, ?_, by rw [eu]; exact hm⟩, fun z => ?_⟩
  · rw [eu, show (T - (T - 1) - 1).toNat = 0 by omega]
    exact (rfl : g = g)
  · rcases bes_ne (w := w) (c := g) hR hw with y | y
    · exact y z.2
    · omega
theorem mul_b {a b : Int} (ha : 0 ≤ a ∧ a ≤ 3) (hb : 0 ≤ b ∧ b ≤ 30) : 0 ≤ a * b ∧ a * b ≤ 90 := by
  have h1 := Int.mul_nonneg ha.1 hb.1
  have h2 := Int.mul_le_mul_of_nonneg_right ha.2 hb.1
  omega
noncomputable def wtM (l : Int → Int) (r : Int) : Int := if ldd l r then l 6 else 1
noncomputable def mPln (l : Int → Int) (r g : Int) : Int × Int := if ¬ (isR l r ∧ isC l g) then (1, 0) else if 0 < rb l r 3 then (6, rb l r 3) else if rb l r 0 = g then (9, 0) else if ¬ ent l g then (4, g) else if fwM l r g < 0 then (10, 0) else if rb l r 1 < wtM l r * mvM l r g (fwM l r g) then (11, wtM l r * mvM l r g (fwM l r g)) else (0, 0)
noncomputable def rPln (l : Int → Int) (r g : Int) : Int → Int := cpI (gpP l r g (fwM l r g)) (u1 (u1 l (104 + 36 * r + 3) (fwM l r g)) (104 + 36 * r + 4) (wtM l r)) 0 (104 + 36 * r + 6) (fwM l r g)
/-- the same state but for scratch rows -/
def MX (M M' : q_Im) : Prop := M' 0 = M 0 ∧ M' 1 = M 1 ∧ M' 2 = M 2 ∧ M' 3 = M 3 ∧ M' 11 = M 11
theorem cpI_cg {f f' q : Int → Int} {d n : Int} (h : ∀ i, 0 ≤ i → i < n → f i = f' i) : cpI f q 0 d n = cpI f' q 0 d n := by
  funext i
  show (if d ≤ i ∧ i < d + n then f (0 + (i - d)) else q i) = if d ≤ i ∧ i < d + n then f' (0 + (i - d)) else q i
  by_cases z : d ≤ i ∧ i < d + n
  · rw [if_pos z, if_pos z]; exact h _ (by omega) (by omega)
  · rw [if_neg z, if_neg z]
theorem u05 {f : Int → Int} {j : Nat} (hj : 0 ≠ j) : uA (uM M 0 5 v) j f = uM (uA M j f) 0 5 v := by
  show uA (uA M 0 _) j f = uA (uA M j f) 0 (u1 (uA M j f 0) 5 v)
  rw [uA_comm hj, uA_ne hj]
theorem S_X8_plan (hR : Rg (M 1)) (hT : 0 ≤ M 1 2) (hc : 0 ≤ M 0 4 ∧ M 0 4 ≤ 8) {r g : Int} (y0 : -2147483648 ≤ r) (y1 : r < 2147483648) (z0 : -2147483648 ≤ g) (z1 : g < 2147483648) : ∃ r_ h', q_cl E q_m_X8_plan [Value.ref am, Value.int (zi r), Value.int (zi g)] (q_mw h am M) = some (r_, h') ∧ (∃ M1, MX M M1 ∧ (r_ = .inl (some (.int (zi (mMut M1 (mPln (M 1) r g) (fwM (M 1) r g) (rPln (M 1) r g)).1))) ∧ h' = q_mw h am (mMut M1 (mPln (M 1) r g) (fwM (M 1) r g) (rPln (M 1) r g)).2)) := by
  suffices K : ∀ Q : q_R → q_H → Prop, (∀ r_ h', (∃ M1, MX M M1 ∧ (r_ = .inl (some (.int (zi (mMut M1 (mPln (M 1) r g) (fwM (M 1) r g) (rPln (M 1) r g)).1))) ∧ h' = q_mw h am (mMut M1 (mPln (M 1) r g) (fwM (M 1) r g) (rPln (M 1) r g)).2)) → Q r_ h') → Xv E q_m_X8_plan 0 [Value.ref am, Value.int (zi r), Value.int (zi g), Value.null, Value.null, Value.null] [] (q_mw h am M) Q from K _ fun _ _ p => p
  intro Q hQ
  have hR0 := hR
  obtain ⟨hr, g0, g1, g3, g4, gc, g5, g6, g7, gk, gl, gr, go⟩ := hR0
  have hC := rgc_of hR hT
  refine xv (x_aload_n 1 d_X8_plan_0 rfl rfl) ?_
  refine xv (x_iconst 2 d_X8_plan_1 rfl) ?_
  refine xv (x_putfield 5 d_X8_plan_2 rfl f_8_49 (Nat.le_of_ble_eq_true rfl) m_pf5 rfl rfl (fun e => absurd e (by decide))) ?_
  show Xv E q_m_X8_plan 5 [Value.ref am, Value.int (zi r), Value.int (zi g), Value.null, Value.null, Value.null] [] (q_mw h am (uM M 0 5 0)) Q
  refine xv (x_aload_n 6 d_X8_plan_5 rfl rfl) ?_
  refine xv (x_iload_n 7 d_X8_plan_6 rfl rfl) ?_
  refine xv (x_inv1 10 (as := [Value.int (zi r)]) d_X8_plan_7 rfl c_8_103 rfl (Nat.le_of_ble_eq_true rfl) (Nat.le_of_ble_eq_true rfl) m_o (Nat.le_of_ble_eq_true rfl) (Nat.le_of_ble_eq_true rfl) rfl (S_X8_isRobot (E := E) (h := h) (am := am) (M := (uM M 0 5 0)) hR (by first | omega | (rw [show (uM M 0 5 0) 1 = (M 1) from rfl]; omega)) (by first | omega | (rw [show (uM M 0 5 0) 1 = (M 1) from rfl]; omega)))) ?_
  show Xv E q_m_X8_plan 10 [Value.ref am, Value.int (zi r), Value.int (zi g), Value.null, Value.null, Value.null] [Value.int (zi (bI (isR (M 1) r)))] (q_mw h am (uM M 0 5 0)) Q
  refine v_if_eq 21 13 d_X8_plan_10 rfl rfl (by have := bI_r (isR (M 1) r); omega) (by have := bI_r (isR (M 1) r); omega) (fun k10 => ?_) (fun k10 => ?_)
  · replace k10 := bI_0.mp k10
    refine xv (x_aload_n 22 d_X8_plan_21 rfl rfl) ?_
    refine xv (x_iconst 23 d_X8_plan_22 rfl) ?_
    refine xv (x_iconst 24 d_X8_plan_23 rfl) ?_
    obtain ⟨r24, h24, e24, z24, y24⟩ := S_X8_refuse (E := E) (h := h) (am := am) (M := (uM M 0 5 0)) (y := 1) (z := 0) 
    subst z24
    subst y24
    refine xv (x_inv1 27 (as := [Value.int (zi 1), Value.int (zi 0)]) d_X8_plan_24 rfl c_8_90 rfl (Nat.le_of_ble_eq_true rfl) (Nat.le_of_ble_eq_true rfl) m_o (Nat.le_of_ble_eq_true rfl) (Nat.le_of_ble_eq_true rfl) rfl e24) ?_
    show Xv E q_m_X8_plan 27 [Value.ref am, Value.int (zi r), Value.int (zi g), Value.null, Value.null, Value.null] [Value.int (zi 0)] (q_mw h am (uM (uM (uM (uM M 0 5 0) 0 5 1) 0 6 1) 0 7 0)) Q
    refine xv_r (x_ireturn d_X8_plan_27 rfl rfl) ?_
    have er : mPln (M 1) r g = (1, 0) := by unfold mPln; repeat (first | rw [if_pos (by omega)] | rw [if_neg (by omega)])
    refine hQ _ _ ⟨M, ⟨rfl, rfl, rfl, rfl, rfl⟩, ?_⟩
    unfold mMut
    rw [er]
    refine ⟨rfl, ?_⟩
    show _ = q_mw h am (mrf (uM M 0 5 0) _ _)
    unfold mrf
    rfl
  · replace k10 := bI_n0.mp k10
    refine xv (x_aload_n 14 d_X8_plan_13 rfl rfl) ?_
    refine xv (x_iload_n 15 d_X8_plan_14 rfl rfl) ?_
    refine xv (x_inv1 18 (as := [Value.int (zi g)]) d_X8_plan_15 rfl c_8_86 rfl (Nat.le_of_ble_eq_true rfl) (Nat.le_of_ble_eq_true rfl) m_o (Nat.le_of_ble_eq_true rfl) (Nat.le_of_ble_eq_true rfl) rfl (S_X8_isCell (E := E) (h := h) (am := am) (M := (uM M 0 5 0)) hR (by first | omega | (rw [show (uM M 0 5 0) 1 = (M 1) from rfl]; omega)) (by first | omega | (rw [show (uM M 0 5 0) 1 = (M 1) from rfl]; omega)))) ?_
    show Xv E q_m_X8_plan 18 [Value.ref am, Value.int (zi r), Value.int (zi g), Value.null, Value.null, Value.null] [Value.int (zi (bI (isC (M 1) g)))] (q_mw h am (uM M 0 5 0)) Q
    refine v_if_ne 28 21 d_X8_plan_18 rfl rfl (by have := bI_r (isC (M 1) g); omega) (by have := bI_r (isC (M 1) g); omega) (fun k18 => ?_) (fun k18 => ?_)
    · replace k18 := bI_n0.mp k18
      have gq := gr r k10.1 k10.2
      refine xv (x_aload_n 29 d_X8_plan_28 rfl rfl) ?_
      refine xv (x_iload_n 30 d_X8_plan_29 rfl rfl) ?_
      refine xv (x_iconst 31 d_X8_plan_30 rfl) ?_
      refine xv (x_inv1 34 (as := [Value.int (zi r), Value.int (zi 3)]) d_X8_plan_31 rfl c_8_79 rfl (Nat.le_of_ble_eq_true rfl) (Nat.le_of_ble_eq_true rfl) m_o (Nat.le_of_ble_eq_true rfl) (Nat.le_of_ble_eq_true rfl) rfl (S_X8_of (E := E) (h := h) (am := am) (M := (uM M 0 5 0)) hR (by first | omega | (rw [show (uM M 0 5 0) 1 = (M 1) from rfl]; omega)) (by first | omega | (rw [show (uM M 0 5 0) 1 = (M 1) from rfl]; omega)) (by first | omega | (rw [show (uM M 0 5 0) 1 = (M 1) from rfl]; omega)) (by first | omega | (rw [show (uM M 0 5 0) 1 = (M 1) from rfl]; omega)))) ?_
      have q_1 : -1000000 ≤ rb (M 1) r 3 ∧ rb (M 1) r 3 ≤ 1000000 := hr _
      show Xv E q_m_X8_plan 34 [Value.ref am, Value.int (zi r), Value.int (zi g), Value.null, Value.null, Value.null] [Value.int (zi (rb (M 1) r 3))] (q_mw h am (uM M 0 5 0)) Q
      refine v_if_le 50 37 d_X8_plan_34 rfl rfl (by omega) (by omega) (fun k34 => ?_) (fun k34 => ?_)
      · refine xv (x_aload_n 51 d_X8_plan_50 rfl rfl) ?_
        refine xv (x_iload_n 52 d_X8_plan_51 rfl rfl) ?_
        refine xv (x_iconst 53 d_X8_plan_52 rfl) ?_
        refine xv (x_inv1 56 (as := [Value.int (zi r), Value.int (zi 0)]) d_X8_plan_53 rfl c_8_79 rfl (Nat.le_of_ble_eq_true rfl) (Nat.le_of_ble_eq_true rfl) m_o (Nat.le_of_ble_eq_true rfl) (Nat.le_of_ble_eq_true rfl) rfl (S_X8_of (E := E) (h := h) (am := am) (M := (uM M 0 5 0)) hR (by first | omega | (rw [show (uM M 0 5 0) 1 = (M 1) from rfl]; omega)) (by first | omega | (rw [show (uM M 0 5 0) 1 = (M 1) from rfl]; omega)) (by first | omega | (rw [show (uM M 0 5 0) 1 = (M 1) from rfl]; omega)) (by first | omega | (rw [show (uM M 0 5 0) 1 = (M 1) from rfl]; omega)))) ?_
        have q_2 : -1000000 ≤ rb (M 1) r 0 ∧ rb (M 1) r 0 ≤ 1000000 := hr _
        show Xv E q_m_X8_plan 56 [Value.ref am, Value.int (zi r), Value.int (zi g), Value.null, Value.null, Value.null] [Value.int (zi (rb (M 1) r 0))] (q_mw h am (uM M 0 5 0)) Q
        refine xv (x_iload_n 57 d_X8_plan_56 rfl rfl) ?_
        refine v_icmp_ne 68 60 d_X8_plan_57 rfl rfl (by omega) (by omega) (by omega) (by omega) (fun k57 => ?_) (fun k57 => ?_)
        · refine xv (x_aload_n 69 d_X8_plan_68 rfl rfl) ?_
          refine xv (x_iload_n 70 d_X8_plan_69 rfl rfl) ?_
          refine xv (x_inv1 73 (as := [Value.int (zi g)]) d_X8_plan_70 rfl c_8_93 rfl (Nat.le_of_ble_eq_true rfl) (Nat.le_of_ble_eq_true rfl) m_o (Nat.le_of_ble_eq_true rfl) (Nat.le_of_ble_eq_true rfl) rfl (S_X8_canEnter (E := E) (h := h) (am := am) (M := (uM M 0 5 0)) hR (by first | omega | (rw [show (uM M 0 5 0) 1 = (M 1) from rfl]; omega)) (by first | omega | (rw [show (uM M 0 5 0) 1 = (M 1) from rfl]; omega)))) ?_
          show Xv E q_m_X8_plan 73 [Value.ref am, Value.int (zi r), Value.int (zi g), Value.null, Value.null, Value.null] [Value.int (zi (bI (ent (M 1) g)))] (q_mw h am (uM M 0 5 0)) Q
          refine v_if_ne 83 76 d_X8_plan_73 rfl rfl (by have := bI_r (ent (M 1) g); omega) (by have := bI_r (ent (M 1) g); omega) (fun k73 => ?_) (fun k73 => ?_)
          · replace k73 := bI_n0.mp k73
            refine xv (x_aload_n 84 d_X8_plan_83 rfl rfl) ?_
            refine xv (x_iload_n 85 d_X8_plan_84 rfl rfl) ?_
            refine xv (x_iload_n 86 d_X8_plan_85 rfl rfl) ?_
            obtain ⟨r86, h86, e86, z86, C, y86⟩ := S_X8_fewest (E := E) (h := h) (am := am) (M := (uM M 0 5 0)) (r := r) (g := g) hR hT k10 k18
            subst z86
            subst y86
            refine xv (x_inv1 89 (as := [Value.int (zi r), Value.int (zi g)]) d_X8_plan_86 rfl c_8_142 rfl (Nat.le_of_ble_eq_true rfl) (Nat.le_of_ble_eq_true rfl) m_o (Nat.le_of_ble_eq_true rfl) (Nat.le_of_ble_eq_true rfl) rfl e86) ?_
            have q86 : -1 ≤ fwM (M 1) r g ∧ fwM (M 1) r g ≤ 30 := by have := @fnd_r (cnL (M 1) r g) (M 1 7).toNat 1; unfold fwM; omega
            show Xv E q_m_X8_plan 89 [Value.ref am, Value.int (zi r), Value.int (zi g), Value.null, Value.null, Value.null] [Value.int (zi (fwM (M 1) r g))] (q_mw h am (uA (uM M 0 5 0) 5 C)) Q
            refine xv (x_istore_n 90 d_X8_plan_89 rfl (Nat.le_of_ble_eq_true rfl)) ?_
            show Xv E q_m_X8_plan 90 [Value.ref am, Value.int (zi r), Value.int (zi g), Value.int (zi (fwM (M 1) r g)), Value.null, Value.null] [] (q_mw h am (uA (uM M 0 5 0) 5 C)) Q
            refine xv (x_iload_n 91 d_X8_plan_90 rfl rfl) ?_
            refine v_if_ge 102 94 d_X8_plan_91 rfl rfl (by omega) (by omega) (fun k91 => ?_) (fun k91 => ?_)
            · refine xv (x_aload_n 103 d_X8_plan_102 rfl rfl) ?_
              refine xv (x_iload_n 104 d_X8_plan_103 rfl rfl) ?_
              refine xv (x_inv1 107 (as := [Value.int (zi r)]) d_X8_plan_104 rfl c_8_145 rfl (Nat.le_of_ble_eq_true rfl) (Nat.le_of_ble_eq_true rfl) m_o (Nat.le_of_ble_eq_true rfl) (Nat.le_of_ble_eq_true rfl) rfl (S_X8_isLoaded (E := E) (h := h) (am := am) (M := (uA (uM M 0 5 0) 5 C)) hR (by first | omega | (rw [show (uA (uM M 0 5 0) 5 C) 1 = (M 1) from rfl]; omega)))) ?_
              show Xv E q_m_X8_plan 107 [Value.ref am, Value.int (zi r), Value.int (zi g), Value.int (zi (fwM (M 1) r g)), Value.null, Value.null] [Value.int (zi (bI (ldd (M 1) r)))] (q_mw h am (uA (uM M 0 5 0) 5 C)) Q
              refine v_if_eq 120 110 d_X8_plan_107 rfl rfl (by have := bI_r (ldd (M 1) r); omega) (by have := bI_r (ldd (M 1) r); omega) (fun k107 => ?_) (fun k107 => ?_)
              · replace k107 := bI_0.mp k107
                refine xv (x_iconst 121 d_X8_plan_120 rfl) ?_
                refine xv (x_istore 123 d_X8_plan_121 rfl (Nat.le_of_ble_eq_true rfl)) ?_
                show Xv E q_m_X8_plan 123 [Value.ref am, Value.int (zi r), Value.int (zi g), Value.int (zi (fwM (M 1) r g)), Value.int (zi 1), Value.null] [] (q_mw h am (uA (uM M 0 5 0) 5 C)) Q
                refine xv (x_iload 125 d_X8_plan_123 rfl rfl) ?_
                refine xv (x_aload_n 126 d_X8_plan_125 rfl rfl) ?_
                refine xv (x_iload_n 127 d_X8_plan_126 rfl rfl) ?_
                refine xv (x_iload_n 128 d_X8_plan_127 rfl rfl) ?_
                refine xv (x_iload_n 129 d_X8_plan_128 rfl rfl) ?_
                obtain ⟨fw1, fw2⟩ := fw_gos hC k10 k18 (by omega)
                obtain ⟨r129, h129, e129, ⟨z129, qm⟩, G, P, y129, hP⟩ := S_X8_findPath (E := E) (h := h) (am := am) (M := (uA (uM M 0 5 0) 5 C)) (r := r) (g := g) (T := fwM (M 1) r g) hR k10 k18 ⟨fw1.1, by omega⟩ fw2
                replace qm : 0 ≤ mvM (M 1) r g (fwM (M 1) r g) ∧ mvM (M 1) r g (fwM (M 1) r g) ≤ 30 := qm
                subst z129
                subst y129
                refine xv (x_inv1 132 (as := [Value.int (zi r), Value.int (zi g), Value.int (zi (fwM (M 1) r g))]) d_X8_plan_129 rfl c_8_148 rfl (Nat.le_of_ble_eq_true rfl) (Nat.le_of_ble_eq_true rfl) m_o (Nat.le_of_ble_eq_true rfl) (Nat.le_of_ble_eq_true rfl) rfl e129) ?_
                show Xv E q_m_X8_plan 132 [Value.ref am, Value.int (zi r), Value.int (zi g), Value.int (zi (fwM (M 1) r g)), Value.int (zi 1), Value.null] [Value.int (zi (mvM (M 1) r g (fwM (M 1) r g))), Value.int (zi 1)] (q_mw h am (uA (uA (uA (uM M 0 5 0) 5 C) 6 G) 7 P)) Q
                refine xv (x_imul 133 d_X8_plan_132 rfl) ?_
                refine xv (x_istore 135 d_X8_plan_133 rfl (Nat.le_of_ble_eq_true rfl)) ?_
                show Xv E q_m_X8_plan 135 [Value.ref am, Value.int (zi r), Value.int (zi g), Value.int (zi (fwM (M 1) r g)), Value.int (zi 1), Value.int (zi (1 * (mvM (M 1) r g (fwM (M 1) r g))))] [] (q_mw h am (uA (uA (uA (uM M 0 5 0) 5 C) 6 G) 7 P)) Q
                refine xv (x_aload_n 136 d_X8_plan_135 rfl rfl) ?_
                refine xv (x_iload_n 137 d_X8_plan_136 rfl rfl) ?_
                refine xv (x_iconst 138 d_X8_plan_137 rfl) ?_
                refine xv (x_inv1 141 (as := [Value.int (zi r), Value.int (zi 1)]) d_X8_plan_138 rfl c_8_79 rfl (Nat.le_of_ble_eq_true rfl) (Nat.le_of_ble_eq_true rfl) m_o (Nat.le_of_ble_eq_true rfl) (Nat.le_of_ble_eq_true rfl) rfl (S_X8_of (E := E) (h := h) (am := am) (M := (uA (uA (uA (uM M 0 5 0) 5 C) 6 G) 7 P)) hR (by first | omega | (rw [show (uA (uA (uA (uM M 0 5 0) 5 C) 6 G) 7 P) 1 = (M 1) from rfl]; omega)) (by first | omega | (rw [show (uA (uA (uA (uM M 0 5 0) 5 C) 6 G) 7 P) 1 = (M 1) from rfl]; omega)) (by first | omega | (rw [show (uA (uA (uA (uM M 0 5 0) 5 C) 6 G) 7 P) 1 = (M 1) from rfl]; omega)) (by first | omega | (rw [show (uA (uA (uA (uM M 0 5 0) 5 C) 6 G) 7 P) 1 = (M 1) from rfl]; omega)))) ?_
                have q_3 : -1000000 ≤ rb (M 1) r 1 ∧ rb (M 1) r 1 ≤ 1000000 := hr _
                show Xv E q_m_X8_plan 141 [Value.ref am, Value.int (zi r), Value.int (zi g), Value.int (zi (fwM (M 1) r g)), Value.int (zi 1), Value.int (zi (1 * (mvM (M 1) r g (fwM (M 1) r g))))] [Value.int (zi (rb (M 1) r 1))] (q_mw h am (uA (uA (uA (uM M 0 5 0) 5 C) 6 G) 7 P)) Q
                refine xv (x_iload 143 d_X8_plan_141 rfl rfl) ?_
                refine v_icmp_ge 155 146 d_X8_plan_143 rfl rfl (by omega) (by omega) (by omega) (by omega) (fun k143 => ?_) (fun k143 => ?_)
                · refine xv (x_aload_n 156 d_X8_plan_155 rfl rfl) ?_
                  obtain ⟨r156, h156, e156, z156, y156⟩ := S_X8_change (E := E) (h := h) (am := am) (M := (uA (uA (uA (uM M 0 5 0) 5 C) 6 G) 7 P)) hc
                  subst z156
                  subst y156
                  refine xv (x_inv0 159 (as := []) d_X8_plan_156 rfl c_8_100 rfl (Nat.le_of_ble_eq_true rfl) (Nat.le_of_ble_eq_true rfl) m_o (Nat.le_of_ble_eq_true rfl) (Nat.le_of_ble_eq_true rfl) rfl e156) ?_
                  generalize hM2 : mch (uA (uA (uA (uM M 0 5 0) 5 C) 6 G) 7 P) = M2
                  have e2 : M2 1 = M 1 := by rw [← hM2]; exact mch_1
                  have e7 : M2 7 = P := by rw [← hM2]; exact mch_s (by decide) (by decide)
                  have eM : M2 = uA (uA M2 1 (M 1)) 7 P := by rw [← e2, uA_self, ← e7, uA_self]
                  rw [eM]
                  show Xv E q_m_X8_plan 159 [Value.ref am, Value.int (zi r), Value.int (zi g), Value.int (zi (fwM (M 1) r g)), Value.int (zi 1), Value.int (zi (1 * (mvM (M 1) r g (fwM (M 1) r g))))] [] (q_mw h am (uA (uA M2 1 (M 1)) 7 P)) Q
                  refine xv (x_aload_n 160 d_X8_plan_159 rfl rfl) ?_
                  refine xv (x_getfield 163 d_X8_plan_160 rfl f_8_9 (Nat.le_of_ble_eq_true rfl) (Nat.le_of_ble_eq_true rfl) (q_gf_of m_o rfl)) ?_
                  refine xv (x_iload_n 164 d_X8_plan_163 rfl rfl) ?_
                  refine xv (x_ins1 167 (as := [Value.int (zi r)]) d_X8_plan_164 rfl c_8_75 rfl (Nat.le_of_ble_eq_true rfl) (Nat.le_of_ble_eq_true rfl) (Nat.le_of_ble_eq_true rfl) rfl (S_X8_at (E := E) (h := h) (am := am) (M := (uA (uA M2 1 (M 1)) 7 P)))) ?_
                  show Xv E q_m_X8_plan 167 [Value.ref am, Value.int (zi r), Value.int (zi g), Value.int (zi (fwM (M 1) r g)), Value.int (zi 1), Value.int (zi (1 * (mvM (M 1) r g (fwM (M 1) r g))))] [Value.int (zi (104 + 36 * r)), Value.ref (am + 1)] (q_mw h am (uA (uA M2 1 (M 1)) 7 P)) Q
                  refine xv (x_iconst 168 d_X8_plan_167 rfl) ?_
                  refine xv (x_iadd 169 d_X8_plan_168 rfl) ?_
                  refine xv (x_iload_n 170 d_X8_plan_169 rfl rfl) ?_
                  refine xv (x_iastore 171 d_X8_plan_170 rfl (m_s1 (by omega) (by omega))) ?_
                  show Xv E q_m_X8_plan 171 [Value.ref am, Value.int (zi r), Value.int (zi g), Value.int (zi (fwM (M 1) r g)), Value.int (zi 1), Value.int (zi (1 * (mvM (M 1) r g (fwM (M 1) r g))))] [] (q_mw h am (uM (uA (uA M2 1 (M 1)) 7 P) 1 ((104 + 36 * r) + 3) (fwM (M 1) r g))) Q
                  refine xv (x_aload_n 172 d_X8_plan_171 rfl rfl) ?_
                  refine xv (x_getfield 175 d_X8_plan_172 rfl f_8_9 (Nat.le_of_ble_eq_true rfl) (Nat.le_of_ble_eq_true rfl) (q_gf_of m_o rfl)) ?_
                  refine xv (x_iload_n 176 d_X8_plan_175 rfl rfl) ?_
                  refine xv (x_ins1 179 (as := [Value.int (zi r)]) d_X8_plan_176 rfl c_8_75 rfl (Nat.le_of_ble_eq_true rfl) (Nat.le_of_ble_eq_true rfl) (Nat.le_of_ble_eq_true rfl) rfl (S_X8_at (E := E) (h := h) (am := am) (M := (uM (uA (uA M2 1 (M 1)) 7 P) 1 ((104 + 36 * r) + 3) (fwM (M 1) r g))))) ?_
                  show Xv E q_m_X8_plan 179 [Value.ref am, Value.int (zi r), Value.int (zi g), Value.int (zi (fwM (M 1) r g)), Value.int (zi 1), Value.int (zi (1 * (mvM (M 1) r g (fwM (M 1) r g))))] [Value.int (zi (104 + 36 * r)), Value.ref (am + 1)] (q_mw h am (uM (uA (uA M2 1 (M 1)) 7 P) 1 ((104 + 36 * r) + 3) (fwM (M 1) r g))) Q
                  refine xv (x_iconst 180 d_X8_plan_179 rfl) ?_
                  refine xv (x_iadd 181 d_X8_plan_180 rfl) ?_
                  refine xv (x_iload 183 d_X8_plan_181 rfl rfl) ?_
                  refine xv (x_iastore 184 d_X8_plan_183 rfl (m_s1 (by omega) (by omega))) ?_
                  show Xv E q_m_X8_plan 184 [Value.ref am, Value.int (zi r), Value.int (zi g), Value.int (zi (fwM (M 1) r g)), Value.int (zi 1), Value.int (zi (1 * (mvM (M 1) r g (fwM (M 1) r g))))] [] (q_mw h am (uM (uM (uA (uA M2 1 (M 1)) 7 P) 1 ((104 + 36 * r) + 3) (fwM (M 1) r g)) 1 ((104 + 36 * r) + 4) 1)) Q
                  refine xv (x_aload_n 185 d_X8_plan_184 rfl rfl) ?_
                  refine xv (x_getfield 188 d_X8_plan_185 rfl f_8_29 (Nat.le_of_ble_eq_true rfl) (Nat.le_of_ble_eq_true rfl) (q_gf_of m_o rfl)) ?_
                  refine xv (x_iconst 189 d_X8_plan_188 rfl) ?_
                  refine xv (x_aload_n 190 d_X8_plan_189 rfl rfl) ?_
                  refine xv (x_getfield 193 d_X8_plan_190 rfl f_8_9 (Nat.le_of_ble_eq_true rfl) (Nat.le_of_ble_eq_true rfl) (q_gf_of m_o rfl)) ?_
                  refine xv (x_iload_n 194 d_X8_plan_193 rfl rfl) ?_
                  refine xv (x_ins1 197 (as := [Value.int (zi r)]) d_X8_plan_194 rfl c_8_75 rfl (Nat.le_of_ble_eq_true rfl) (Nat.le_of_ble_eq_true rfl) (Nat.le_of_ble_eq_true rfl) rfl (S_X8_at (E := E) (h := h) (am := am) (M := (uM (uM (uA (uA M2 1 (M 1)) 7 P) 1 ((104 + 36 * r) + 3) (fwM (M 1) r g)) 1 ((104 + 36 * r) + 4) 1)))) ?_
                  show Xv E q_m_X8_plan 197 [Value.ref am, Value.int (zi r), Value.int (zi g), Value.int (zi (fwM (M 1) r g)), Value.int (zi 1), Value.int (zi (1 * (mvM (M 1) r g (fwM (M 1) r g))))] [Value.int (zi (104 + 36 * r)), Value.ref (am + 1), Value.int (zi 0), Value.ref (am + 7)] (q_mw h am (uM (uM (uA (uA M2 1 (M 1)) 7 P) 1 ((104 + 36 * r) + 3) (fwM (M 1) r g)) 1 ((104 + 36 * r) + 4) 1)) Q
                  refine xv (x_bipush 199 d_X8_plan_197 rfl rfl) ?_
                  refine xv (x_iadd 200 d_X8_plan_199 rfl) ?_
                  refine xv (x_iload_n 201 d_X8_plan_200 rfl rfl) ?_
                  refine xv (x_copy 204 d_X8_plan_201 rfl rfl rfl (Nat.le_of_ble_eq_true rfl) (Nat.le_of_ble_eq_true rfl) (Nat.le_of_ble_eq_true rfl) (m_cpy 7 1 m_a7 m_a1 m_w1 (by omega) (by omega) (by omega) (by omega) (by omega) (by decide) (by decide))) ?_
                  show Xv E q_m_X8_plan 204 [Value.ref am, Value.int (zi r), Value.int (zi g), Value.int (zi (fwM (M 1) r g)), Value.int (zi 1), Value.int (zi (1 * (mvM (M 1) r g (fwM (M 1) r g))))] [] (q_mw h am (uA (uM (uM (uA (uA M2 1 (M 1)) 7 P) 1 ((104 + 36 * r) + 3) (fwM (M 1) r g)) 1 ((104 + 36 * r) + 4) 1) 1 (cpI P (u1 (u1 (M 1) ((104 + 36 * r) + 3) (fwM (M 1) r g)) ((104 + 36 * r) + 4) 1) 0 ((104 + 36 * r) + 6) (fwM (M 1) r g)))) Q
                  refine xv (x_iload_n 205 d_X8_plan_204 rfl rfl) ?_
                  refine xv_r (x_ireturn d_X8_plan_205 rfl rfl) ?_
                  have ew : wtM (M 1) r = 1 := by unfold wtM; first | exact if_pos k107 | exact if_neg k107
                  have er : mPln (M 1) r g = (0, 0) := by unfold mPln; rw [ew]; repeat (first | rw [if_pos (by omega)] | rw [if_neg (by omega)])
                  have el : cpI P (u1 (u1 (M 1) (104 + 36 * r + 3) (fwM (M 1) r g)) (104 + 36 * r + 4) (1)) 0 (104 + 36 * r + 6) (fwM (M 1) r g) = rPln (M 1) r g := by unfold rPln; rw [ew]; exact cpI_cg hP
                  refine hQ _ _ ⟨uA (uA (uA M 5 C) 6 G) 7 P, ⟨rfl, rfl, rfl, rfl, rfl⟩, ?_⟩
                  unfold mMut
                  rw [er, if_pos rfl, ← el]
                  refine ⟨rfl, ?_⟩
                  have e05 : uM (uA (uA (uA M 5 C) 6 G) 7 P) 0 5 0 = uA (uA (uA (uM M 0 5 0) 5 C) 6 G) 7 P := by rw [← u05 (show (0 : Nat) ≠ 7 by decide), ← u05 (show (0 : Nat) ≠ 6 by decide), ← u05 (show (0 : Nat) ≠ 5 by decide)]
                  show q_mw h am _ = q_mw h am (uA (mch (uM (uA (uA (uA M 5 C) 6 G) 7 P) 0 5 0)) 1 _)
                  rw [e05, hM2]
                  have e9 : uM (uM (uA (uA M2 1 (M 1)) 7 P) 1 (104 + 36 * r + 3) (fwM (M 1) r g)) 1 (104 + 36 * r + 4) (1) = uA M2 1 (u1 (u1 (M 1) (104 + 36 * r + 3) (fwM (M 1) r g)) (104 + 36 * r + 4) (1)) := by
                    rw [← eM]
                    show uA (uA M2 1 (u1 (M2 1) _ _)) 1 (u1 (uA M2 1 (u1 (M2 1) _ _) 1) _ _) = _
                    rw [uA_uA, uA_eq, e2]
                  rw [e9, uA_uA]
                · refine xv (x_aload_n 147 d_X8_plan_146 rfl rfl) ?_
                  refine xv (x_bipush 149 d_X8_plan_147 rfl rfl) ?_
                  refine xv (x_iload 151 d_X8_plan_149 rfl rfl) ?_
                  obtain ⟨r151, h151, e151, z151, y151⟩ := S_X8_refuse (E := E) (h := h) (am := am) (M := (uA (uA (uA (uM M 0 5 0) 5 C) 6 G) 7 P)) (y := 11) (z := 1 * (mvM (M 1) r g (fwM (M 1) r g))) 
                  subst z151
                  subst y151
                  refine xv (x_inv1 154 (as := [Value.int (zi 11), Value.int (zi (1 * (mvM (M 1) r g (fwM (M 1) r g))))]) d_X8_plan_151 rfl c_8_90 rfl (Nat.le_of_ble_eq_true rfl) (Nat.le_of_ble_eq_true rfl) m_o (Nat.le_of_ble_eq_true rfl) (Nat.le_of_ble_eq_true rfl) rfl e151) ?_
                  show Xv E q_m_X8_plan 154 [Value.ref am, Value.int (zi r), Value.int (zi g), Value.int (zi (fwM (M 1) r g)), Value.int (zi 1), Value.int (zi (1 * (mvM (M 1) r g (fwM (M 1) r g))))] [Value.int (zi 0)] (q_mw h am (uM (uM (uM (uA (uA (uA (uM M 0 5 0) 5 C) 6 G) 7 P) 0 5 1) 0 6 11) 0 7 (1 * (mvM (M 1) r g (fwM (M 1) r g))))) Q
                  refine xv_r (x_ireturn d_X8_plan_154 rfl rfl) ?_
                  have ew : wtM (M 1) r = 1 := by unfold wtM; first | exact if_pos k107 | exact if_neg k107
                  have er : mPln (M 1) r g = (11, (1 * (mvM (M 1) r g (fwM (M 1) r g)))) := by unfold mPln; rw [ew]; repeat (first | rw [if_pos (by omega)] | rw [if_neg (by omega)])
                  refine hQ _ _ ⟨(uA (uA (uA M 5 C) 6 G) 7 P), ⟨rfl, rfl, rfl, rfl, rfl⟩, ?_⟩
                  unfold mMut
                  rw [er]
                  refine ⟨rfl, ?_⟩
                  show _ = q_mw h am (mrf (uM (uA (uA (uA M 5 C) 6 G) 7 P) 0 5 0) _ _)
                  unfold mrf
                  rw [← u05 (show (0 : Nat) ≠ 7 by decide), ← u05 (show (0 : Nat) ≠ 6 by decide), ← u05 (show (0 : Nat) ≠ 5 by decide)]
                  rfl
              · replace k107 := bI_n0.mp k107
                refine xv (x_aload_n 111 d_X8_plan_110 rfl rfl) ?_
                refine xv (x_getfield 114 d_X8_plan_111 rfl f_8_9 (Nat.le_of_ble_eq_true rfl) (Nat.le_of_ble_eq_true rfl) (q_gf_of m_o rfl)) ?_
                refine xv (x_bipush 116 d_X8_plan_114 rfl rfl) ?_
                refine xv (x_iaload 117 d_X8_plan_116 rfl ((m_g1 (by omega) (by omega)).trans (rfl : _ = some (Value.int (zi ((M 1) 6)))))) ?_
                have q_4 : -1000000 ≤ (M 1) 6 ∧ (M 1) 6 ≤ 1000000 := hr _
                refine xv (x_goto 121 d_X8_plan_117 rfl) ?_
                refine xv (x_istore 123 d_X8_plan_121 rfl (Nat.le_of_ble_eq_true rfl)) ?_
                show Xv E q_m_X8_plan 123 [Value.ref am, Value.int (zi r), Value.int (zi g), Value.int (zi (fwM (M 1) r g)), Value.int (zi ((M 1) 6)), Value.null] [] (q_mw h am (uA (uM M 0 5 0) 5 C)) Q
                refine xv (x_iload 125 d_X8_plan_123 rfl rfl) ?_
                refine xv (x_aload_n 126 d_X8_plan_125 rfl rfl) ?_
                refine xv (x_iload_n 127 d_X8_plan_126 rfl rfl) ?_
                refine xv (x_iload_n 128 d_X8_plan_127 rfl rfl) ?_
                refine xv (x_iload_n 129 d_X8_plan_128 rfl rfl) ?_
                obtain ⟨fw1, fw2⟩ := fw_gos hC k10 k18 (by omega)
                obtain ⟨r129, h129, e129, ⟨z129, qm⟩, G, P, y129, hP⟩ := S_X8_findPath (E := E) (h := h) (am := am) (M := (uA (uM M 0 5 0) 5 C)) (r := r) (g := g) (T := fwM (M 1) r g) hR k10 k18 ⟨fw1.1, by omega⟩ fw2
                replace qm : 0 ≤ mvM (M 1) r g (fwM (M 1) r g) ∧ mvM (M 1) r g (fwM (M 1) r g) ≤ 30 := qm
                subst z129
                subst y129
                refine xv (x_inv1 132 (as := [Value.int (zi r), Value.int (zi g), Value.int (zi (fwM (M 1) r g))]) d_X8_plan_129 rfl c_8_148 rfl (Nat.le_of_ble_eq_true rfl) (Nat.le_of_ble_eq_true rfl) m_o (Nat.le_of_ble_eq_true rfl) (Nat.le_of_ble_eq_true rfl) rfl e129) ?_
                show Xv E q_m_X8_plan 132 [Value.ref am, Value.int (zi r), Value.int (zi g), Value.int (zi (fwM (M 1) r g)), Value.int (zi ((M 1) 6)), Value.null] [Value.int (zi (mvM (M 1) r g (fwM (M 1) r g))), Value.int (zi ((M 1) 6))] (q_mw h am (uA (uA (uA (uM M 0 5 0) 5 C) 6 G) 7 P)) Q
                refine xv (x_imul 133 d_X8_plan_132 rfl) ?_
                have q132 := mul_b (show 0 ≤ (M 1) 6 ∧ (M 1) 6 ≤ 3 by omega) qm
                refine xv (x_istore 135 d_X8_plan_133 rfl (Nat.le_of_ble_eq_true rfl)) ?_
                show Xv E q_m_X8_plan 135 [Value.ref am, Value.int (zi r), Value.int (zi g), Value.int (zi (fwM (M 1) r g)), Value.int (zi ((M 1) 6)), Value.int (zi (((M 1) 6) * (mvM (M 1) r g (fwM (M 1) r g))))] [] (q_mw h am (uA (uA (uA (uM M 0 5 0) 5 C) 6 G) 7 P)) Q
                refine xv (x_aload_n 136 d_X8_plan_135 rfl rfl) ?_
                refine xv (x_iload_n 137 d_X8_plan_136 rfl rfl) ?_
                refine xv (x_iconst 138 d_X8_plan_137 rfl) ?_
                refine xv (x_inv1 141 (as := [Value.int (zi r), Value.int (zi 1)]) d_X8_plan_138 rfl c_8_79 rfl (Nat.le_of_ble_eq_true rfl) (Nat.le_of_ble_eq_true rfl) m_o (Nat.le_of_ble_eq_true rfl) (Nat.le_of_ble_eq_true rfl) rfl (S_X8_of (E := E) (h := h) (am := am) (M := (uA (uA (uA (uM M 0 5 0) 5 C) 6 G) 7 P)) hR (by first | omega | (rw [show (uA (uA (uA (uM M 0 5 0) 5 C) 6 G) 7 P) 1 = (M 1) from rfl]; omega)) (by first | omega | (rw [show (uA (uA (uA (uM M 0 5 0) 5 C) 6 G) 7 P) 1 = (M 1) from rfl]; omega)) (by first | omega | (rw [show (uA (uA (uA (uM M 0 5 0) 5 C) 6 G) 7 P) 1 = (M 1) from rfl]; omega)) (by first | omega | (rw [show (uA (uA (uA (uM M 0 5 0) 5 C) 6 G) 7 P) 1 = (M 1) from rfl]; omega)))) ?_
                have q_5 : -1000000 ≤ rb (M 1) r 1 ∧ rb (M 1) r 1 ≤ 1000000 := hr _
                show Xv E q_m_X8_plan 141 [Value.ref am, Value.int (zi r), Value.int (zi g), Value.int (zi (fwM (M 1) r g)), Value.int (zi ((M 1) 6)), Value.int (zi (((M 1) 6) * (mvM (M 1) r g (fwM (M 1) r g))))] [Value.int (zi (rb (M 1) r 1))] (q_mw h am (uA (uA (uA (uM M 0 5 0) 5 C) 6 G) 7 P)) Q
                refine xv (x_iload 143 d_X8_plan_141 rfl rfl) ?_
                refine v_icmp_ge 155 146 d_X8_plan_143 rfl rfl (by omega) (by omega) (by omega) (by omega) (fun k143 => ?_) (fun k143 => ?_)
                · refine xv (x_aload_n 156 d_X8_plan_155 rfl rfl) ?_
                  obtain ⟨r156, h156, e156, z156, y156⟩ := S_X8_change (E := E) (h := h) (am := am) (M := (uA (uA (uA (uM M 0 5 0) 5 C) 6 G) 7 P)) hc
                  subst z156
                  subst y156
                  refine xv (x_inv0 159 (as := []) d_X8_plan_156 rfl c_8_100 rfl (Nat.le_of_ble_eq_true rfl) (Nat.le_of_ble_eq_true rfl) m_o (Nat.le_of_ble_eq_true rfl) (Nat.le_of_ble_eq_true rfl) rfl e156) ?_
                  generalize hM2 : mch (uA (uA (uA (uM M 0 5 0) 5 C) 6 G) 7 P) = M2
                  have e2 : M2 1 = M 1 := by rw [← hM2]; exact mch_1
                  have e7 : M2 7 = P := by rw [← hM2]; exact mch_s (by decide) (by decide)
                  have eM : M2 = uA (uA M2 1 (M 1)) 7 P := by rw [← e2, uA_self, ← e7, uA_self]
                  rw [eM]
                  show Xv E q_m_X8_plan 159 [Value.ref am, Value.int (zi r), Value.int (zi g), Value.int (zi (fwM (M 1) r g)), Value.int (zi ((M 1) 6)), Value.int (zi (((M 1) 6) * (mvM (M 1) r g (fwM (M 1) r g))))] [] (q_mw h am (uA (uA M2 1 (M 1)) 7 P)) Q
                  refine xv (x_aload_n 160 d_X8_plan_159 rfl rfl) ?_
                  refine xv (x_getfield 163 d_X8_plan_160 rfl f_8_9 (Nat.le_of_ble_eq_true rfl) (Nat.le_of_ble_eq_true rfl) (q_gf_of m_o rfl)) ?_
                  refine xv (x_iload_n 164 d_X8_plan_163 rfl rfl) ?_
                  refine xv (x_ins1 167 (as := [Value.int (zi r)]) d_X8_plan_164 rfl c_8_75 rfl (Nat.le_of_ble_eq_true rfl) (Nat.le_of_ble_eq_true rfl) (Nat.le_of_ble_eq_true rfl) rfl (S_X8_at (E := E) (h := h) (am := am) (M := (uA (uA M2 1 (M 1)) 7 P)))) ?_
                  show Xv E q_m_X8_plan 167 [Value.ref am, Value.int (zi r), Value.int (zi g), Value.int (zi (fwM (M 1) r g)), Value.int (zi ((M 1) 6)), Value.int (zi (((M 1) 6) * (mvM (M 1) r g (fwM (M 1) r g))))] [Value.int (zi (104 + 36 * r)), Value.ref (am + 1)] (q_mw h am (uA (uA M2 1 (M 1)) 7 P)) Q
                  refine xv (x_iconst 168 d_X8_plan_167 rfl) ?_
                  refine xv (x_iadd 169 d_X8_plan_168 rfl) ?_
                  refine xv (x_iload_n 170 d_X8_plan_169 rfl rfl) ?_
                  refine xv (x_iastore 171 d_X8_plan_170 rfl (m_s1 (by omega) (by omega))) ?_
                  show Xv E q_m_X8_plan 171 [Value.ref am, Value.int (zi r), Value.int (zi g), Value.int (zi (fwM (M 1) r g)), Value.int (zi ((M 1) 6)), Value.int (zi (((M 1) 6) * (mvM (M 1) r g (fwM (M 1) r g))))] [] (q_mw h am (uM (uA (uA M2 1 (M 1)) 7 P) 1 ((104 + 36 * r) + 3) (fwM (M 1) r g))) Q
                  refine xv (x_aload_n 172 d_X8_plan_171 rfl rfl) ?_
                  refine xv (x_getfield 175 d_X8_plan_172 rfl f_8_9 (Nat.le_of_ble_eq_true rfl) (Nat.le_of_ble_eq_true rfl) (q_gf_of m_o rfl)) ?_
                  refine xv (x_iload_n 176 d_X8_plan_175 rfl rfl) ?_
                  refine xv (x_ins1 179 (as := [Value.int (zi r)]) d_X8_plan_176 rfl c_8_75 rfl (Nat.le_of_ble_eq_true rfl) (Nat.le_of_ble_eq_true rfl) (Nat.le_of_ble_eq_true rfl) rfl (S_X8_at (E := E) (h := h) (am := am) (M := (uM (uA (uA M2 1 (M 1)) 7 P) 1 ((104 + 36 * r) + 3) (fwM (M 1) r g))))) ?_
                  show Xv E q_m_X8_plan 179 [Value.ref am, Value.int (zi r), Value.int (zi g), Value.int (zi (fwM (M 1) r g)), Value.int (zi ((M 1) 6)), Value.int (zi (((M 1) 6) * (mvM (M 1) r g (fwM (M 1) r g))))] [Value.int (zi (104 + 36 * r)), Value.ref (am + 1)] (q_mw h am (uM (uA (uA M2 1 (M 1)) 7 P) 1 ((104 + 36 * r) + 3) (fwM (M 1) r g))) Q
                  refine xv (x_iconst 180 d_X8_plan_179 rfl) ?_
                  refine xv (x_iadd 181 d_X8_plan_180 rfl) ?_
                  refine xv (x_iload 183 d_X8_plan_181 rfl rfl) ?_
                  refine xv (x_iastore 184 d_X8_plan_183 rfl (m_s1 (by omega) (by omega))) ?_
                  show Xv E q_m_X8_plan 184 [Value.ref am, Value.int (zi r), Value.int (zi g), Value.int (zi (fwM (M 1) r g)), Value.int (zi ((M 1) 6)), Value.int (zi (((M 1) 6) * (mvM (M 1) r g (fwM (M 1) r g))))] [] (q_mw h am (uM (uM (uA (uA M2 1 (M 1)) 7 P) 1 ((104 + 36 * r) + 3) (fwM (M 1) r g)) 1 ((104 + 36 * r) + 4) ((M 1) 6))) Q
                  refine xv (x_aload_n 185 d_X8_plan_184 rfl rfl) ?_
                  refine xv (x_getfield 188 d_X8_plan_185 rfl f_8_29 (Nat.le_of_ble_eq_true rfl) (Nat.le_of_ble_eq_true rfl) (q_gf_of m_o rfl)) ?_
                  refine xv (x_iconst 189 d_X8_plan_188 rfl) ?_
                  refine xv (x_aload_n 190 d_X8_plan_189 rfl rfl) ?_
                  refine xv (x_getfield 193 d_X8_plan_190 rfl f_8_9 (Nat.le_of_ble_eq_true rfl) (Nat.le_of_ble_eq_true rfl) (q_gf_of m_o rfl)) ?_
                  refine xv (x_iload_n 194 d_X8_plan_193 rfl rfl) ?_
                  refine xv (x_ins1 197 (as := [Value.int (zi r)]) d_X8_plan_194 rfl c_8_75 rfl (Nat.le_of_ble_eq_true rfl) (Nat.le_of_ble_eq_true rfl) (Nat.le_of_ble_eq_true rfl) rfl (S_X8_at (E := E) (h := h) (am := am) (M := (uM (uM (uA (uA M2 1 (M 1)) 7 P) 1 ((104 + 36 * r) + 3) (fwM (M 1) r g)) 1 ((104 + 36 * r) + 4) ((M 1) 6))))) ?_
                  show Xv E q_m_X8_plan 197 [Value.ref am, Value.int (zi r), Value.int (zi g), Value.int (zi (fwM (M 1) r g)), Value.int (zi ((M 1) 6)), Value.int (zi (((M 1) 6) * (mvM (M 1) r g (fwM (M 1) r g))))] [Value.int (zi (104 + 36 * r)), Value.ref (am + 1), Value.int (zi 0), Value.ref (am + 7)] (q_mw h am (uM (uM (uA (uA M2 1 (M 1)) 7 P) 1 ((104 + 36 * r) + 3) (fwM (M 1) r g)) 1 ((104 + 36 * r) + 4) ((M 1) 6))) Q
                  refine xv (x_bipush 199 d_X8_plan_197 rfl rfl) ?_
                  refine xv (x_iadd 200 d_X8_plan_199 rfl) ?_
                  refine xv (x_iload_n 201 d_X8_plan_200 rfl rfl) ?_
                  refine xv (x_copy 204 d_X8_plan_201 rfl rfl rfl (Nat.le_of_ble_eq_true rfl) (Nat.le_of_ble_eq_true rfl) (Nat.le_of_ble_eq_true rfl) (m_cpy 7 1 m_a7 m_a1 m_w1 (by omega) (by omega) (by omega) (by omega) (by omega) (by decide) (by decide))) ?_
                  show Xv E q_m_X8_plan 204 [Value.ref am, Value.int (zi r), Value.int (zi g), Value.int (zi (fwM (M 1) r g)), Value.int (zi ((M 1) 6)), Value.int (zi (((M 1) 6) * (mvM (M 1) r g (fwM (M 1) r g))))] [] (q_mw h am (uA (uM (uM (uA (uA M2 1 (M 1)) 7 P) 1 ((104 + 36 * r) + 3) (fwM (M 1) r g)) 1 ((104 + 36 * r) + 4) ((M 1) 6)) 1 (cpI P (u1 (u1 (M 1) ((104 + 36 * r) + 3) (fwM (M 1) r g)) ((104 + 36 * r) + 4) ((M 1) 6)) 0 ((104 + 36 * r) + 6) (fwM (M 1) r g)))) Q
                  refine xv (x_iload_n 205 d_X8_plan_204 rfl rfl) ?_
                  refine xv_r (x_ireturn d_X8_plan_205 rfl rfl) ?_
                  have ew : wtM (M 1) r = (M 1) 6 := by unfold wtM; first | exact if_pos k107 | exact if_neg k107
                  have er : mPln (M 1) r g = (0, 0) := by unfold mPln; rw [ew]; repeat (first | rw [if_pos (by omega)] | rw [if_neg (by omega)])
                  have el : cpI P (u1 (u1 (M 1) (104 + 36 * r + 3) (fwM (M 1) r g)) (104 + 36 * r + 4) ((M 1) 6)) 0 (104 + 36 * r + 6) (fwM (M 1) r g) = rPln (M 1) r g := by unfold rPln; rw [ew]; exact cpI_cg hP
                  refine hQ _ _ ⟨uA (uA (uA M 5 C) 6 G) 7 P, ⟨rfl, rfl, rfl, rfl, rfl⟩, ?_⟩
                  unfold mMut
                  rw [er, if_pos rfl, ← el]
                  refine ⟨rfl, ?_⟩
                  have e05 : uM (uA (uA (uA M 5 C) 6 G) 7 P) 0 5 0 = uA (uA (uA (uM M 0 5 0) 5 C) 6 G) 7 P := by rw [← u05 (show (0 : Nat) ≠ 7 by decide), ← u05 (show (0 : Nat) ≠ 6 by decide), ← u05 (show (0 : Nat) ≠ 5 by decide)]
                  show q_mw h am _ = q_mw h am (uA (mch (uM (uA (uA (uA M 5 C) 6 G) 7 P) 0 5 0)) 1 _)
                  rw [e05, hM2]
                  have e9 : uM (uM (uA (uA M2 1 (M 1)) 7 P) 1 (104 + 36 * r + 3) (fwM (M 1) r g)) 1 (104 + 36 * r + 4) ((M 1) 6) = uA M2 1 (u1 (u1 (M 1) (104 + 36 * r + 3) (fwM (M 1) r g)) (104 + 36 * r + 4) ((M 1) 6)) := by
                    rw [← eM]
                    show uA (uA M2 1 (u1 (M2 1) _ _)) 1 (u1 (uA M2 1 (u1 (M2 1) _ _) 1) _ _) = _
                    rw [uA_uA, uA_eq, e2]
                  rw [e9, uA_uA]
                · refine xv (x_aload_n 147 d_X8_plan_146 rfl rfl) ?_
                  refine xv (x_bipush 149 d_X8_plan_147 rfl rfl) ?_
                  refine xv (x_iload 151 d_X8_plan_149 rfl rfl) ?_
                  obtain ⟨r151, h151, e151, z151, y151⟩ := S_X8_refuse (E := E) (h := h) (am := am) (M := (uA (uA (uA (uM M 0 5 0) 5 C) 6 G) 7 P)) (y := 11) (z := ((M 1) 6) * (mvM (M 1) r g (fwM (M 1) r g))) 
                  subst z151
                  subst y151
                  refine xv (x_inv1 154 (as := [Value.int (zi 11), Value.int (zi (((M 1) 6) * (mvM (M 1) r g (fwM (M 1) r g))))]) d_X8_plan_151 rfl c_8_90 rfl (Nat.le_of_ble_eq_true rfl) (Nat.le_of_ble_eq_true rfl) m_o (Nat.le_of_ble_eq_true rfl) (Nat.le_of_ble_eq_true rfl) rfl e151) ?_
                  show Xv E q_m_X8_plan 154 [Value.ref am, Value.int (zi r), Value.int (zi g), Value.int (zi (fwM (M 1) r g)), Value.int (zi ((M 1) 6)), Value.int (zi (((M 1) 6) * (mvM (M 1) r g (fwM (M 1) r g))))] [Value.int (zi 0)] (q_mw h am (uM (uM (uM (uA (uA (uA (uM M 0 5 0) 5 C) 6 G) 7 P) 0 5 1) 0 6 11) 0 7 (((M 1) 6) * (mvM (M 1) r g (fwM (M 1) r g))))) Q
                  refine xv_r (x_ireturn d_X8_plan_154 rfl rfl) ?_
                  have ew : wtM (M 1) r = (M 1) 6 := by unfold wtM; first | exact if_pos k107 | exact if_neg k107
                  have er : mPln (M 1) r g = (11, (((M 1) 6) * (mvM (M 1) r g (fwM (M 1) r g)))) := by unfold mPln; rw [ew]; repeat (first | rw [if_pos (by omega)] | rw [if_neg (by omega)])
                  refine hQ _ _ ⟨(uA (uA (uA M 5 C) 6 G) 7 P), ⟨rfl, rfl, rfl, rfl, rfl⟩, ?_⟩
                  unfold mMut
                  rw [er]
                  refine ⟨rfl, ?_⟩
                  show _ = q_mw h am (mrf (uM (uA (uA (uA M 5 C) 6 G) 7 P) 0 5 0) _ _)
                  unfold mrf
                  rw [← u05 (show (0 : Nat) ≠ 7 by decide), ← u05 (show (0 : Nat) ≠ 6 by decide), ← u05 (show (0 : Nat) ≠ 5 by decide)]
                  rfl
            · refine xv (x_aload_n 95 d_X8_plan_94 rfl rfl) ?_
              refine xv (x_bipush 97 d_X8_plan_95 rfl rfl) ?_
              refine xv (x_iconst 98 d_X8_plan_97 rfl) ?_
              obtain ⟨r98, h98, e98, z98, y98⟩ := S_X8_refuse (E := E) (h := h) (am := am) (M := (uA (uM M 0 5 0) 5 C)) (y := 10) (z := 0) 
              subst z98
              subst y98
              refine xv (x_inv1 101 (as := [Value.int (zi 10), Value.int (zi 0)]) d_X8_plan_98 rfl c_8_90 rfl (Nat.le_of_ble_eq_true rfl) (Nat.le_of_ble_eq_true rfl) m_o (Nat.le_of_ble_eq_true rfl) (Nat.le_of_ble_eq_true rfl) rfl e98) ?_
              show Xv E q_m_X8_plan 101 [Value.ref am, Value.int (zi r), Value.int (zi g), Value.int (zi (fwM (M 1) r g)), Value.null, Value.null] [Value.int (zi 0)] (q_mw h am (uM (uM (uM (uA (uM M 0 5 0) 5 C) 0 5 1) 0 6 10) 0 7 0)) Q
              refine xv_r (x_ireturn d_X8_plan_101 rfl rfl) ?_
              have er : mPln (M 1) r g = (10, 0) := by unfold mPln; repeat (first | rw [if_pos (by omega)] | rw [if_neg (by omega)])
              refine hQ _ _ ⟨(uA M 5 C), ⟨rfl, rfl, rfl, rfl, rfl⟩, ?_⟩
              unfold mMut
              rw [er]
              refine ⟨rfl, ?_⟩
              show _ = q_mw h am (mrf (uM (uA M 5 C) 0 5 0) _ _)
              unfold mrf
              rw [← u05 (show (0 : Nat) ≠ 5 by decide)]
              rfl
          · replace k73 := bI_0.mp k73
            refine xv (x_aload_n 77 d_X8_plan_76 rfl rfl) ?_
            refine xv (x_iconst 78 d_X8_plan_77 rfl) ?_
            refine xv (x_iload_n 79 d_X8_plan_78 rfl rfl) ?_
            obtain ⟨r79, h79, e79, z79, y79⟩ := S_X8_refuse (E := E) (h := h) (am := am) (M := (uM M 0 5 0)) (y := 4) (z := g) 
            subst z79
            subst y79
            refine xv (x_inv1 82 (as := [Value.int (zi 4), Value.int (zi g)]) d_X8_plan_79 rfl c_8_90 rfl (Nat.le_of_ble_eq_true rfl) (Nat.le_of_ble_eq_true rfl) m_o (Nat.le_of_ble_eq_true rfl) (Nat.le_of_ble_eq_true rfl) rfl e79) ?_
            show Xv E q_m_X8_plan 82 [Value.ref am, Value.int (zi r), Value.int (zi g), Value.null, Value.null, Value.null] [Value.int (zi 0)] (q_mw h am (uM (uM (uM (uM M 0 5 0) 0 5 1) 0 6 4) 0 7 g)) Q
            refine xv_r (x_ireturn d_X8_plan_82 rfl rfl) ?_
            have er : mPln (M 1) r g = (4, g) := by unfold mPln; repeat (first | rw [if_pos (by omega)] | rw [if_neg (by omega)])
            refine hQ _ _ ⟨M, ⟨rfl, rfl, rfl, rfl, rfl⟩, ?_⟩
            unfold mMut
            rw [er]
            refine ⟨rfl, ?_⟩
            show _ = q_mw h am (mrf (uM M 0 5 0) _ _)
            unfold mrf
            rfl
        · refine xv (x_aload_n 61 d_X8_plan_60 rfl rfl) ?_
          refine xv (x_bipush 63 d_X8_plan_61 rfl rfl) ?_
          refine xv (x_iconst 64 d_X8_plan_63 rfl) ?_
          obtain ⟨r64, h64, e64, z64, y64⟩ := S_X8_refuse (E := E) (h := h) (am := am) (M := (uM M 0 5 0)) (y := 9) (z := 0) 
          subst z64
          subst y64
          refine xv (x_inv1 67 (as := [Value.int (zi 9), Value.int (zi 0)]) d_X8_plan_64 rfl c_8_90 rfl (Nat.le_of_ble_eq_true rfl) (Nat.le_of_ble_eq_true rfl) m_o (Nat.le_of_ble_eq_true rfl) (Nat.le_of_ble_eq_true rfl) rfl e64) ?_
          show Xv E q_m_X8_plan 67 [Value.ref am, Value.int (zi r), Value.int (zi g), Value.null, Value.null, Value.null] [Value.int (zi 0)] (q_mw h am (uM (uM (uM (uM M 0 5 0) 0 5 1) 0 6 9) 0 7 0)) Q
          refine xv_r (x_ireturn d_X8_plan_67 rfl rfl) ?_
          have er : mPln (M 1) r g = (9, 0) := by unfold mPln; repeat (first | rw [if_pos (by omega)] | rw [if_neg (by omega)])
          refine hQ _ _ ⟨M, ⟨rfl, rfl, rfl, rfl, rfl⟩, ?_⟩
          unfold mMut
          rw [er]
          refine ⟨rfl, ?_⟩
          show _ = q_mw h am (mrf (uM M 0 5 0) _ _)
          unfold mrf
          rfl
      · refine xv (x_aload_n 38 d_X8_plan_37 rfl rfl) ?_
        refine xv (x_bipush 40 d_X8_plan_38 rfl rfl) ?_
        refine xv (x_aload_n 41 d_X8_plan_40 rfl rfl) ?_
        refine xv (x_iload_n 42 d_X8_plan_41 rfl rfl) ?_
        refine xv (x_iconst 43 d_X8_plan_42 rfl) ?_
        refine xv (x_inv1 46 (as := [Value.int (zi r), Value.int (zi 3)]) d_X8_plan_43 rfl c_8_79 rfl (Nat.le_of_ble_eq_true rfl) (Nat.le_of_ble_eq_true rfl) m_o (Nat.le_of_ble_eq_true rfl) (Nat.le_of_ble_eq_true rfl) rfl (S_X8_of (E := E) (h := h) (am := am) (M := (uM M 0 5 0)) hR (by first | omega | (rw [show (uM M 0 5 0) 1 = (M 1) from rfl]; omega)) (by first | omega | (rw [show (uM M 0 5 0) 1 = (M 1) from rfl]; omega)) (by first | omega | (rw [show (uM M 0 5 0) 1 = (M 1) from rfl]; omega)) (by first | omega | (rw [show (uM M 0 5 0) 1 = (M 1) from rfl]; omega)))) ?_
        have q_6 : -1000000 ≤ rb (M 1) r 3 ∧ rb (M 1) r 3 ≤ 1000000 := hr _
        show Xv E q_m_X8_plan 46 [Value.ref am, Value.int (zi r), Value.int (zi g), Value.null, Value.null, Value.null] [Value.int (zi (rb (M 1) r 3)), Value.int (zi 6), Value.ref am] (q_mw h am (uM M 0 5 0)) Q
        obtain ⟨r46, h46, e46, z46, y46⟩ := S_X8_refuse (E := E) (h := h) (am := am) (M := (uM M 0 5 0)) (y := 6) (z := rb (M 1) r 3) 
        subst z46
        subst y46
        refine xv (x_inv1 49 (as := [Value.int (zi 6), Value.int (zi (rb (M 1) r 3))]) d_X8_plan_46 rfl c_8_90 rfl (Nat.le_of_ble_eq_true rfl) (Nat.le_of_ble_eq_true rfl) m_o (Nat.le_of_ble_eq_true rfl) (Nat.le_of_ble_eq_true rfl) rfl e46) ?_
        show Xv E q_m_X8_plan 49 [Value.ref am, Value.int (zi r), Value.int (zi g), Value.null, Value.null, Value.null] [Value.int (zi 0)] (q_mw h am (uM (uM (uM (uM M 0 5 0) 0 5 1) 0 6 6) 0 7 (rb (M 1) r 3))) Q
        refine xv_r (x_ireturn d_X8_plan_49 rfl rfl) ?_
        have er : mPln (M 1) r g = (6, (rb (M 1) r 3)) := by unfold mPln; repeat (first | rw [if_pos (by omega)] | rw [if_neg (by omega)])
        refine hQ _ _ ⟨M, ⟨rfl, rfl, rfl, rfl, rfl⟩, ?_⟩
        unfold mMut
        rw [er]
        refine ⟨rfl, ?_⟩
        show _ = q_mw h am (mrf (uM M 0 5 0) _ _)
        unfold mrf
        rfl
    · replace k18 := bI_0.mp k18
      refine xv (x_aload_n 22 d_X8_plan_21 rfl rfl) ?_
      refine xv (x_iconst 23 d_X8_plan_22 rfl) ?_
      refine xv (x_iconst 24 d_X8_plan_23 rfl) ?_
      obtain ⟨r24, h24, e24, z24, y24⟩ := S_X8_refuse (E := E) (h := h) (am := am) (M := (uM M 0 5 0)) (y := 1) (z := 0) 
      subst z24
      subst y24
      refine xv (x_inv1 27 (as := [Value.int (zi 1), Value.int (zi 0)]) d_X8_plan_24 rfl c_8_90 rfl (Nat.le_of_ble_eq_true rfl) (Nat.le_of_ble_eq_true rfl) m_o (Nat.le_of_ble_eq_true rfl) (Nat.le_of_ble_eq_true rfl) rfl e24) ?_
      show Xv E q_m_X8_plan 27 [Value.ref am, Value.int (zi r), Value.int (zi g), Value.null, Value.null, Value.null] [Value.int (zi 0)] (q_mw h am (uM (uM (uM (uM M 0 5 0) 0 5 1) 0 6 1) 0 7 0)) Q
      refine xv_r (x_ireturn d_X8_plan_27 rfl rfl) ?_
      have er : mPln (M 1) r g = (1, 0) := by unfold mPln; repeat (first | rw [if_pos (by omega)] | rw [if_neg (by omega)])
      refine hQ _ _ ⟨M, ⟨rfl, rfl, rfl, rfl, rfl⟩, ?_⟩
      unfold mMut
      rw [er]
      refine ⟨rfl, ?_⟩
      show _ = q_mw h am (mrf (uM M 0 5 0) _ _)
      unfold mrf
      rfl
end RA7
