/-! the reference: what can be come to, tick by tick (printed by program) -/
section RA3
variable {E : q_E} {h : q_H} {am : Nat} {M M2 : q_Im} {l C : Int → Int} {r t k w : Int}
def cmP (l : Int → Int) (r : Int) (n : Nat) (k w c : Int) : Prop := ∃ a u, (0 ≤ a ∧ 0 ≤ u ∧ u ≤ 4) ∧ (a < k ∨ (a = k ∧ u < w)) ∧ rea l r n a ∧ bes l a u = c ∧ 0 ≤ c ∧ mgo l r a c n
def CmI (l : Int → Int) (r : Int) (C : Int → Int) (t k w : Int) : Prop := (∀ i, 0 ≤ i → i < 1488 → 0 ≤ C i ∧ C i ≤ 1) ∧ (∀ t', 0 ≤ t' → t' ≤ t → ∀ c, 0 ≤ c → c < 48 → (C (48 * t' + c) = 1 ↔ rea l r t'.toNat c)) ∧ (∀ c, 0 ≤ c → c < 48 → t < 30 → (C (48 * (t + 1) + c) = 1 ↔ cmP l r t.toNat k w c)) ∧ ∀ i, 48 * (t + 2) ≤ i → i < 1488 → C i = 0
theorem cm_k (h : CmI l r C t k w) (hw : w = 5 ∨ ¬ rea l r t.toNat k) : CmI l r C t (k + 1) 0 := by
  obtain ⟨a1, a2, a3, a4⟩ := h
  refine ⟨a1, a2, fun c b1 b2 b3 => (a3 c b1 b2 b3).trans ⟨?_, ?_⟩, a4⟩
  · rintro ⟨a, u, h1, h2, h3⟩
    exact ⟨a, u, h1, by omega, h3⟩
  · rintro ⟨a, u, h1, h2, h3⟩
    refine ⟨a, u, h1, ?_, h3⟩
    rcases hw with hw | hw
    · omega
    · by_cases z : a = k
      · exact absurd (z ▸ h3.1) hw
      · omega
theorem cm_w (h : CmI l r C t k w) (hw : ¬ (0 ≤ bes l k w ∧ mgo l r k (bes l k w) t)) (ht : 0 ≤ t) : CmI l r C t k (w + 1) := by
  obtain ⟨a1, a2, a3, a4⟩ := h
  refine ⟨a1, a2, fun c b1 b2 b3 => (a3 c b1 b2 b3).trans ⟨?_, ?_⟩, a4⟩
  · rintro ⟨a, u, h1, h2, h3⟩
    exact ⟨a, u, h1, by omega, h3⟩
  · rintro ⟨a, u, h1, h2, h3⟩
    refine ⟨a, u, h1, ?_, h3⟩
    by_cases z : a = k ∧ u = w
    · obtain ⟨z1, z2⟩ := z
      subst z1; subst z2
      obtain ⟨e1, e2, e3, e4⟩ := h3
      rw [Int.toNat_of_nonneg ht] at e4
      exact absurd ⟨by rw [e2]; exact e3, by rw [e2]; exact e4⟩ hw
    · omega
theorem cm_s (h : CmI l r C t k w) (hw : 0 ≤ bes l k w ∧ mgo l r k (bes l k w) t) (hb : bes l k w < 48) (hk : 0 ≤ k) (h0 : 0 ≤ w ∧ w ≤ 4) (he : rea l r t.toNat k) (ht : 0 ≤ t) : CmI l r (u1 C (48 * (t + 1) + bes l k w) 1) t k (w + 1) := by
  obtain ⟨a1, a2, a3, a4⟩ := h
  refine ⟨fun i b1 b2 => ?_, fun t' b1 b2 c b3 b4 => ?_, fun c b1 b2 b3 => ?_, fun i b1 b2 => ?_⟩
  · by_cases z : i = 48 * (t + 1) + bes l k w
    · rw [z, u1_eq]; omega
    · rw [u1_ne z]; exact a1 i b1 b2
  · rw [u1_ne (by omega)]
    exact a2 t' b1 b2 c b3 b4
  · by_cases z : c = bes l k w
    · rw [z, u1_eq]
      refine ⟨fun _ => ⟨k, w, ⟨hk, h0⟩, .inr ⟨rfl, by omega⟩, he, rfl, hw.1, ?_⟩, fun _ => rfl⟩
      rw [Int.toNat_of_nonneg ht]
      exact hw.2
    · rw [u1_ne (by omega)]
      refine (a3 c b1 b2 b3).trans ⟨?_, ?_⟩
      · rintro ⟨a, u, h1, h2, h3⟩
        exact ⟨a, u, h1, by omega, h3⟩
      · rintro ⟨a, u, h1, h2, h3⟩
        refine ⟨a, u, h1, ?_, h3⟩
        by_cases y : a = k ∧ u = w
        · obtain ⟨z1, z2⟩ := y
          subst z1; subst z2
          exact absurd h3.2.1.symm z
        · omega
  · rw [u1_ne (by omega)]
    exact a4 i b1 b2
theorem cm_t (hR : RgC l) (hr : isR l r) (h : CmI l r C t (cs l) 0) (ht : 0 ≤ t) (h30 : t < 30) : CmI l r C (t + 1) 0 0 := by
  have gc := hR.2.2.2.2.2.1
  obtain ⟨a1, a2, a3, a4⟩ := h
  refine ⟨a1, fun t' b1 b2 c b3 b4 => ?_, fun c b1 b2 b3 => ?_, fun i b1 b2 => a4 i (by omega) b2⟩
  · by_cases z : t' = t + 1
    · subst z
      rw [a3 c b3 b4 h30, show (t + 1).toNat = t.toNat + 1 by omega]
      constructor
      · rintro ⟨a, u, h1, h2, h3, h4, h5, h6⟩
        have ha := rea_c hR hr h3
        obtain ⟨v, hv, ev⟩ := bes_sym hR ha (w := u) h1.2 h4 h5
        have hb := besC_r (w := u) hR ha
        rw [h4] at hb
        exact ⟨by omega, v, hv, by rw [ev]; exact h1.1, by rw [ev]; exact h3, by rw [ev]; exact h6⟩
      · rintro ⟨h1, u, h2, h3, h4, h5⟩
        have ha := rea_c hR hr h4
        obtain ⟨v, hv, ev⟩ := bes_sym hR h1 (w := u) h2 rfl h3
        exact ⟨bes l c u, v, ⟨h3, hv⟩, .inl ha.2, h4, ev, h1.1, h5⟩
    · exact a2 t' b1 (by omega) c b3 b4
  · rw [a4 _ (by omega) (by omega)]
    refine ⟨fun e => absurd e (by decide), ?_⟩
    rintro ⟨a, u, h1, h2, h3⟩
    omega
theorem cm_0 (hR : RgC l) (hr : isR l r) {f : Int → Int} : CmI l r (u1 (zro f 0 1488) (rb l r 0) 1) 0 0 0 := by
  have gc := hR.2.2.2.2.2.1
  have hc := (rgc_r hR hr).1
  have hz (i : Int) (h1 : 0 ≤ i) (h2 : i < 1488) : zro f 0 1488 i = 0 := if_pos (by omega)
  refine ⟨fun i b1 b2 => ?_, fun t' b1 b2 c b3 b4 => ?_, fun c b1 b2 b3 => ?_, fun i b1 b2 => ?_⟩
  · by_cases z : i = rb l r 0
    · rw [z, u1_eq]; omega
    · rw [u1_ne z, hz i b1 b2]; omega
  · rw [show t' = 0 by omega]
    by_cases z : c = rb l r 0
    · rw [z, show 48 * 0 + rb l r 0 = rb l r 0 by omega, u1_eq]
      exact ⟨fun _ => (rfl : rb l r 0 = rb l r 0), fun _ => rfl⟩
    · rw [u1_ne (by omega), hz _ (by omega) (by omega)]
      exact ⟨fun e => absurd e (by decide), fun e => absurd (show c = rb l r 0 from e) z⟩
  · rw [u1_ne (by omega), hz _ (by omega) (by omega)]
    refine ⟨fun e => absurd e (by decide), ?_⟩
    rintro ⟨a, u, h1, h2, h3⟩
    omega
  · rw [u1_ne (by omega), hz _ (by omega) (by omega)]
theorem S_X8_findComing (hR : Rg (M 1)) (hT : 0 ≤ M 1 2) {r : Int} (hr_ : isR (M 1) r) : ∃ r_ h', q_cl E q_m_X8_findComing [Value.ref am, Value.int (zi r)] (q_mw h am M) = some (r_, h') ∧ (r_ = .inl none ∧ ∃ C, h' = q_mw h am (uA M 5 C) ∧ CmI (M 1) r C (M 1 7) 0 0) := by
  suffices K : ∀ Q : q_R → q_H → Prop, (∀ r_ h', (r_ = .inl none ∧ ∃ C, h' = q_mw h am (uA M 5 C) ∧ CmI (M 1) r C (M 1 7) 0 0) → Q r_ h') → Xv E q_m_X8_findComing 0 [Value.ref am, Value.int (zi r), Value.null, Value.null, Value.null, Value.null] [] (q_mw h am M) Q from K _ fun _ _ p => p
  intro Q hQ
  have hR0 := hR
  obtain ⟨hr, g0, g1, g3, g4, gc, g5, g6, g7, gk, gl, gr, go⟩ := hR0
  have hC := rgc_of hR hT
  have gq := gr r hr_.1 hr_.2
  refine xv (x_iconst 1 d_X8_findComing_0 rfl) ?_
  refine xv (x_istore_n 2 d_X8_findComing_1 rfl (Nat.le_of_ble_eq_true rfl)) ?_
  show Xv E q_m_X8_findComing 2 [Value.ref am, Value.int (zi r), Value.int (zi 0), Value.null, Value.null, Value.null] [] (q_mw h am M) Q
  have L2 : ∀ (n_ : Nat) (k : Int), (0 ≤ k) → (k ≤ 1488) → (1488 - k).toNat = n_ → Xv E q_m_X8_findComing 2 [Value.ref am, Value.int (zi r), Value.int (zi k), Value.null, Value.null, Value.null] [] (q_mw h am (uA M 5 (zro (M 5) 0 k))) Q := by
    intro n_
    induction n_ using Nat.strongRecOn with
    | _ n_ ih2 =>
      intro k k0 k1 em
      refine xv (x_iload_n 3 d_X8_findComing_2 rfl rfl) ?_
      refine xv (x_sipush 6 d_X8_findComing_3 rfl rfl) ?_
      refine v_icmp_ge 22 9 d_X8_findComing_6 rfl rfl (by omega) (by omega) (by omega) (by omega) (fun k6 => ?_) (fun k6 => ?_)
      · refine xv (x_aload_n 23 d_X8_findComing_22 rfl rfl) ?_
        refine xv (x_getfield 26 d_X8_findComing_23 rfl f_8_22 (Nat.le_of_ble_eq_true rfl) (Nat.le_of_ble_eq_true rfl) (q_gf_of m_o rfl)) ?_
        refine xv (x_aload_n 27 d_X8_findComing_26 rfl rfl) ?_
        refine xv (x_iload_n 28 d_X8_findComing_27 rfl rfl) ?_
        refine xv (x_iconst 29 d_X8_findComing_28 rfl) ?_
        refine xv (x_inv1 32 (as := [Value.int (zi r), Value.int (zi 0)]) d_X8_findComing_29 rfl c_8_79 rfl (Nat.le_of_ble_eq_true rfl) (Nat.le_of_ble_eq_true rfl) m_o (Nat.le_of_ble_eq_true rfl) (Nat.le_of_ble_eq_true rfl) rfl (S_X8_of (E := E) (h := h) (am := am) (M := (uA M 5 (zro (M 5) 0 k))) hR (by first | omega | (rw [show (uA M 5 (zro (M 5) 0 k)) 1 = (M 1) from rfl]; omega)) (by first | omega | (rw [show (uA M 5 (zro (M 5) 0 k)) 1 = (M 1) from rfl]; omega)) (by first | omega | (rw [show (uA M 5 (zro (M 5) 0 k)) 1 = (M 1) from rfl]; omega)) (by first | omega | (rw [show (uA M 5 (zro (M 5) 0 k)) 1 = (M 1) from rfl]; omega)))) ?_
        have q_1 : -1000000 ≤ rb (M 1) r 0 ∧ rb (M 1) r 0 ≤ 1000000 := hr _
        show Xv E q_m_X8_findComing 32 [Value.ref am, Value.int (zi r), Value.int (zi k), Value.null, Value.null, Value.null] [Value.int (zi (rb (M 1) r 0)), Value.ref (am + 5)] (q_mw h am (uA M 5 (zro (M 5) 0 k))) Q
        refine xv (x_iconst 33 d_X8_findComing_32 rfl) ?_
        refine xv (x_bastore 34 d_X8_findComing_33 rfl ((congrArg (q_sI _ 2 _ _) (show vp_nar .boolean (zi 1) = zi 1 from rfl)).trans (m_s5 (by omega) (by omega)))) ?_
        show Xv E q_m_X8_findComing 34 [Value.ref am, Value.int (zi r), Value.int (zi k), Value.null, Value.null, Value.null] [] (q_mw h am (uM (uA M 5 (zro (M 5) 0 k)) 5 (rb (M 1) r 0) 1)) Q
        refine xv (x_iconst 35 d_X8_findComing_34 rfl) ?_
        refine xv (x_istore_n 36 d_X8_findComing_35 rfl (Nat.le_of_ble_eq_true rfl)) ?_
        show Xv E q_m_X8_findComing 36 [Value.ref am, Value.int (zi r), Value.int (zi 0), Value.null, Value.null, Value.null] [] (q_mw h am (uM (uA M 5 (zro (M 5) 0 k)) 5 (rb (M 1) r 0) 1)) Q
        have L36 : ∀ (n_ : Nat) (t : Int) (C : Int → Int) (x3 : Value) (x4 : Value) (x5 : Value), (0 ≤ t) → (t ≤ M 1 7) → (CmI (M 1) r C t 0 0) → (M 1 7 - t).toNat = n_ → Xv E q_m_X8_findComing 36 [Value.ref am, Value.int (zi r), Value.int (zi t), x3, x4, x5] [] (q_mw h am (uA M 5 C)) Q := by
          intro n_
          induction n_ using Nat.strongRecOn with
          | _ n_ ih36 =>
            intro t C x3 x4 x5 t0 t1 hI em
            refine xv (x_iload_n 37 d_X8_findComing_36 rfl rfl) ?_
            refine xv (x_aload_n 38 d_X8_findComing_37 rfl rfl) ?_
            refine xv (x_getfield 41 d_X8_findComing_38 rfl f_8_9 (Nat.le_of_ble_eq_true rfl) (Nat.le_of_ble_eq_true rfl) (q_gf_of m_o rfl)) ?_
            refine xv (x_bipush 43 d_X8_findComing_41 rfl rfl) ?_
            refine xv (x_iaload 44 d_X8_findComing_43 rfl ((m_g1 (by omega) (by omega)).trans (rfl : _ = some (Value.int (zi ((M 1) 7)))))) ?_
            have q_2 : -1000000 ≤ (M 1) 7 ∧ (M 1) 7 ≤ 1000000 := hr _
            refine v_icmp_ge 139 47 d_X8_findComing_44 rfl rfl (by omega) (by omega) (by omega) (by omega) (fun k44 => ?_) (fun k44 => ?_)
            · refine xv_r (x_return d_X8_findComing_139 rfl) ?_
              have et : t = M 1 7 := by omega
              refine hQ _ _ ⟨rfl, _, rfl, ?_⟩
              rw [et] at hI
              exact hI
            · refine xv (x_iconst 48 d_X8_findComing_47 rfl) ?_
              refine xv (x_istore_n 49 d_X8_findComing_48 rfl (Nat.le_of_ble_eq_true rfl)) ?_
              show Xv E q_m_X8_findComing 49 [Value.ref am, Value.int (zi r), Value.int (zi t), Value.int (zi 0), x4, x5] [] (q_mw h am (uA M 5 C)) Q
              have L49 : ∀ (n_ : Nat) (k : Int) (C : Int → Int) (x4 : Value) (x5 : Value), (0 ≤ k) → (k ≤ cs (M 1)) → (CmI (M 1) r C t k 0) → (cs (M 1) - k).toNat = n_ → Xv E q_m_X8_findComing 49 [Value.ref am, Value.int (zi r), Value.int (zi t), Value.int (zi k), x4, x5] [] (q_mw h am (uA M 5 C)) Q := by
                intro n_
                induction n_ using Nat.strongRecOn with
                | _ n_ ih49 =>
                  intro k C x4 x5 k0 k1 hI em
                  refine xv (x_iload_n 50 d_X8_findComing_49 rfl rfl) ?_
                  refine xv (x_aload_n 51 d_X8_findComing_50 rfl rfl) ?_
                  refine xv (x_inv1 54 (as := []) d_X8_findComing_51 rfl c_8_67 rfl (Nat.le_of_ble_eq_true rfl) (Nat.le_of_ble_eq_true rfl) m_o (Nat.le_of_ble_eq_true rfl) (Nat.le_of_ble_eq_true rfl) rfl (S_X8_cells (E := E) (h := h) (am := am) (M := (uA M 5 C)) hR)) ?_
                  show Xv E q_m_X8_findComing 54 [Value.ref am, Value.int (zi r), Value.int (zi t), Value.int (zi k), x4, x5] [Value.int (zi (cs (M 1))), Value.int (zi k)] (q_mw h am (uA M 5 C)) Q
                  refine v_icmp_ge 133 57 d_X8_findComing_54 rfl rfl (by omega) (by omega) (by omega) (by omega) (fun k54 => ?_) (fun k54 => ?_)
                  · refine xv (x_iinc 136 d_X8_findComing_133 rfl rfl) ?_
                    show Xv E q_m_X8_findComing 136 [Value.ref am, Value.int (zi r), Value.int (zi (t + 1)), Value.int (zi k), x4, x5] [] (q_mw h am (uA M 5 C)) Q
                    refine xv (x_goto 36 d_X8_findComing_136 rfl) ?_
                    have ek : k = cs (M 1) := by omega
                    rw [ek] at hI
                    exact ih36 _ (by omega) (t + 1) _ _ _ _ (by omega) (by omega) (cm_t hC hr_ hI t0 (by omega)) rfl
                  · refine xv (x_iconst 58 d_X8_findComing_57 rfl) ?_
                    refine xv (x_istore 60 d_X8_findComing_58 rfl (Nat.le_of_ble_eq_true rfl)) ?_
                    show Xv E q_m_X8_findComing 60 [Value.ref am, Value.int (zi r), Value.int (zi t), Value.int (zi k), Value.int (zi 0), x5] [] (q_mw h am (uA M 5 C)) Q
                    have L60 : ∀ (n_ : Nat) (w : Int) (C : Int → Int) (x5 : Value), (0 ≤ w) → (w ≤ 5) → (CmI (M 1) r C t k w) → (5 - w).toNat = n_ → Xv E q_m_X8_findComing 60 [Value.ref am, Value.int (zi r), Value.int (zi t), Value.int (zi k), Value.int (zi w), x5] [] (q_mw h am (uA M 5 C)) Q := by
                      intro n_
                      induction n_ using Nat.strongRecOn with
                      | _ n_ ih60 =>
                        intro w C x5 w0 w1 hI em
                        refine xv (x_iload 62 d_X8_findComing_60 rfl rfl) ?_
                        refine xv (x_iconst 63 d_X8_findComing_62 rfl) ?_
                        refine v_icmp_ge 127 66 d_X8_findComing_63 rfl rfl (by omega) (by omega) (by omega) (by omega) (fun k63 => ?_) (fun k63 => ?_)
                        · refine xv (x_iinc 130 d_X8_findComing_127 rfl rfl) ?_
                          show Xv E q_m_X8_findComing 130 [Value.ref am, Value.int (zi r), Value.int (zi t), Value.int (zi (k + 1)), Value.int (zi w), x5] [] (q_mw h am (uA M 5 C)) Q
                          refine xv (x_goto 49 d_X8_findComing_130 rfl) ?_
                          exact ih49 _ (by omega) (k + 1) _ _ _ (by omega) (by omega) (cm_k hI (by first | exact .inl (by omega) | exact .inr (fun z_ => by have := (hI.2.1 t t0 (Int.le_refl t) k k0 (by omega)).mpr z_; omega))) rfl
                        · refine xv (x_aload_n 67 d_X8_findComing_66 rfl rfl) ?_
                          refine xv (x_getfield 70 d_X8_findComing_67 rfl f_8_22 (Nat.le_of_ble_eq_true rfl) (Nat.le_of_ble_eq_true rfl) (q_gf_of m_o rfl)) ?_
                          refine xv (x_bipush 72 d_X8_findComing_70 rfl rfl) ?_
                          refine xv (x_iload_n 73 d_X8_findComing_72 rfl rfl) ?_
                          refine xv (x_imul 74 d_X8_findComing_73 rfl) ?_
                          refine xv (x_iload_n 75 d_X8_findComing_74 rfl rfl) ?_
                          refine xv (x_iadd 76 d_X8_findComing_75 rfl) ?_
                          refine xv (x_baload 77 d_X8_findComing_76 rfl ((m_g5 (by omega) (by omega)).trans (rfl : _ = some (Value.int (zi (C ((48 * t) + k))))))) ?_
                          have q76 := hI.1 ((48 * t) + k) (by omega) (by omega)
                          refine v_if_eq 127 80 d_X8_findComing_77 rfl rfl (by omega) (by omega) (fun k77 => ?_) (fun k77 => ?_)
                          · refine xv (x_iinc 130 d_X8_findComing_127 rfl rfl) ?_
                            show Xv E q_m_X8_findComing 130 [Value.ref am, Value.int (zi r), Value.int (zi t), Value.int (zi (k + 1)), Value.int (zi w), x5] [] (q_mw h am (uA M 5 C)) Q
                            refine xv (x_goto 49 d_X8_findComing_130 rfl) ?_
                            exact ih49 _ (by omega) (k + 1) _ _ _ (by omega) (by omega) (cm_k hI (by first | exact .inl (by omega) | exact .inr (fun z_ => by have := (hI.2.1 t t0 (Int.le_refl t) k k0 (by omega)).mpr z_; omega))) rfl
                          · refine xv (x_aload_n 81 d_X8_findComing_80 rfl rfl) ?_
                            refine xv (x_iload_n 82 d_X8_findComing_81 rfl rfl) ?_
                            refine xv (x_iload 84 d_X8_findComing_82 rfl rfl) ?_
                            refine xv (x_inv1 87 (as := [Value.int (zi k), Value.int (zi w)]) d_X8_findComing_84 rfl c_8_124 rfl (Nat.le_of_ble_eq_true rfl) (Nat.le_of_ble_eq_true rfl) m_o (Nat.le_of_ble_eq_true rfl) (Nat.le_of_ble_eq_true rfl) rfl (S_X8_beside (E := E) (h := h) (am := am) (M := (uA M 5 C)) hR (by first | omega | (rw [show (uA M 5 C) 1 = (M 1) from rfl]; omega)) (by first | omega | (rw [show (uA M 5 C) 1 = (M 1) from rfl]; omega)) (by first | omega | (rw [show (uA M 5 C) 1 = (M 1) from rfl]; omega)))) ?_
                            have q_3 := bes_r hR (c := k) (w := w) (by omega)
                            show Xv E q_m_X8_findComing 87 [Value.ref am, Value.int (zi r), Value.int (zi t), Value.int (zi k), Value.int (zi w), x5] [Value.int (zi (bes (M 1) k w))] (q_mw h am (uA M 5 C)) Q
                            refine xv (x_istore 89 d_X8_findComing_87 rfl (Nat.le_of_ble_eq_true rfl)) ?_
                            show Xv E q_m_X8_findComing 89 [Value.ref am, Value.int (zi r), Value.int (zi t), Value.int (zi k), Value.int (zi w), Value.int (zi (bes (M 1) k w))] [] (q_mw h am (uA M 5 C)) Q
                            refine xv (x_iload 91 d_X8_findComing_89 rfl rfl) ?_
                            refine v_if_lt 121 94 d_X8_findComing_91 rfl rfl (by omega) (by omega) (fun k91 => ?_) (fun k91 => ?_)
                            · refine xv (x_iinc 124 d_X8_findComing_121 rfl rfl) ?_
                              show Xv E q_m_X8_findComing 124 [Value.ref am, Value.int (zi r), Value.int (zi t), Value.int (zi k), Value.int (zi (w + 1)), Value.int (zi (bes (M 1) k w))] [] (q_mw h am (uA M 5 C)) Q
                              refine xv (x_goto 60 d_X8_findComing_124 rfl) ?_
                              exact ih60 _ (by omega) (w + 1) _ _ (by omega) (by omega) (cm_w hI (fun z_ => by first | exact k103 z_.2 | exact absurd z_.1 (by omega)) t0) rfl
                            · refine xv (x_aload_n 95 d_X8_findComing_94 rfl rfl) ?_
                              refine xv (x_iload_n 96 d_X8_findComing_95 rfl rfl) ?_
                              refine xv (x_iload_n 97 d_X8_findComing_96 rfl rfl) ?_
                              refine xv (x_iload 99 d_X8_findComing_97 rfl rfl) ?_
                              refine xv (x_iload_n 100 d_X8_findComing_99 rfl rfl) ?_
                              refine xv (x_inv1 103 (as := [Value.int (zi r), Value.int (zi k), Value.int (zi (bes (M 1) k w)), Value.int (zi t)]) d_X8_findComing_100 rfl c_8_127 rfl (Nat.le_of_ble_eq_true rfl) (Nat.le_of_ble_eq_true rfl) m_o (Nat.le_of_ble_eq_true rfl) (Nat.le_of_ble_eq_true rfl) rfl (S_X8_mayGo (E := E) (h := h) (am := am) (M := (uA M 5 C)) hR (by first | omega | (rw [show (uA M 5 C) 1 = (M 1) from rfl]; omega)) (by first | omega | (rw [show (uA M 5 C) 1 = (M 1) from rfl]; omega)) (by first | omega | (rw [show (uA M 5 C) 1 = (M 1) from rfl]; omega)) (by first | omega | (rw [show (uA M 5 C) 1 = (M 1) from rfl]; omega)) (by first | omega | (rw [show (uA M 5 C) 1 = (M 1) from rfl]; omega)) (by first | omega | (rw [show (uA M 5 C) 1 = (M 1) from rfl]; omega)) (by first | omega | (rw [show (uA M 5 C) 1 = (M 1) from rfl]; omega)) (by first | omega | (rw [show (uA M 5 C) 1 = (M 1) from rfl]; omega)))) ?_
                              show Xv E q_m_X8_findComing 103 [Value.ref am, Value.int (zi r), Value.int (zi t), Value.int (zi k), Value.int (zi w), Value.int (zi (bes (M 1) k w))] [Value.int (zi (bI (mgo (M 1) r k (bes (M 1) k w) t)))] (q_mw h am (uA M 5 C)) Q
                              refine v_if_eq 121 106 d_X8_findComing_103 rfl rfl (by have := bI_r (mgo (M 1) r k (bes (M 1) k w) t); omega) (by have := bI_r (mgo (M 1) r k (bes (M 1) k w) t); omega) (fun k103 => ?_) (fun k103 => ?_)
                              · replace k103 := bI_0.mp k103
                                refine xv (x_iinc 124 d_X8_findComing_121 rfl rfl) ?_
                                show Xv E q_m_X8_findComing 124 [Value.ref am, Value.int (zi r), Value.int (zi t), Value.int (zi k), Value.int (zi (w + 1)), Value.int (zi (bes (M 1) k w))] [] (q_mw h am (uA M 5 C)) Q
                                refine xv (x_goto 60 d_X8_findComing_124 rfl) ?_
                                exact ih60 _ (by omega) (w + 1) _ _ (by omega) (by omega) (cm_w hI (fun z_ => by first | exact k103 z_.2 | exact absurd z_.1 (by omega)) t0) rfl
                              · replace k103 := bI_n0.mp k103
                                refine xv (x_aload_n 107 d_X8_findComing_106 rfl rfl) ?_
                                refine xv (x_getfield 110 d_X8_findComing_107 rfl f_8_22 (Nat.le_of_ble_eq_true rfl) (Nat.le_of_ble_eq_true rfl) (q_gf_of m_o rfl)) ?_
                                refine xv (x_bipush 112 d_X8_findComing_110 rfl rfl) ?_
                                refine xv (x_iload_n 113 d_X8_findComing_112 rfl rfl) ?_
                                refine xv (x_iconst 114 d_X8_findComing_113 rfl) ?_
                                refine xv (x_iadd 115 d_X8_findComing_114 rfl) ?_
                                refine xv (x_imul 116 d_X8_findComing_115 rfl) ?_
                                refine xv (x_iload 118 d_X8_findComing_116 rfl rfl) ?_
                                refine xv (x_iadd 119 d_X8_findComing_118 rfl) ?_
                                refine xv (x_iconst 120 d_X8_findComing_119 rfl) ?_
                                refine xv (x_bastore 121 d_X8_findComing_120 rfl ((congrArg (q_sI _ 2 _ _) (show vp_nar .boolean (zi 1) = zi 1 from rfl)).trans (m_s5 (by omega) (by omega)))) ?_
                                show Xv E q_m_X8_findComing 121 [Value.ref am, Value.int (zi r), Value.int (zi t), Value.int (zi k), Value.int (zi w), Value.int (zi (bes (M 1) k w))] [] (q_mw h am (uM (uA M 5 C) 5 ((48 * (t + 1)) + (bes (M 1) k w)) 1)) Q
                                refine xv (x_iinc 124 d_X8_findComing_121 rfl rfl) ?_
                                show Xv E q_m_X8_findComing 124 [Value.ref am, Value.int (zi r), Value.int (zi t), Value.int (zi k), Value.int (zi (w + 1)), Value.int (zi (bes (M 1) k w))] [] (q_mw h am (uM (uA M 5 C) 5 ((48 * (t + 1)) + (bes (M 1) k w)) 1)) Q
                                refine xv (x_goto 60 d_X8_findComing_124 rfl) ?_
                                rw [uM_uA]
                                exact ih60 _ (by omega) (w + 1) _ _ (by omega) (by omega) (cm_s hI ⟨by omega, k103⟩ (by omega) (by omega) (by omega) ((hI.2.1 t t0 (Int.le_refl t) k k0 (by omega)).mp (by omega)) t0) rfl
                    exact L60 _ 0 _ _ (by omega) (by omega) hI rfl
              exact L49 _ 0 _ _ _ (by omega) (by omega) hI rfl
        have ek : k = 1488 := by omega
        rw [uM_uA, ek]
        exact L36 _ 0 _ _ _ _ (by omega) (by omega) (cm_0 hC hr_) rfl
      · refine xv (x_aload_n 10 d_X8_findComing_9 rfl rfl) ?_
        refine xv (x_getfield 13 d_X8_findComing_10 rfl f_8_22 (Nat.le_of_ble_eq_true rfl) (Nat.le_of_ble_eq_true rfl) (q_gf_of m_o rfl)) ?_
        refine xv (x_iload_n 14 d_X8_findComing_13 rfl rfl) ?_
        refine xv (x_iconst 15 d_X8_findComing_14 rfl) ?_
        refine xv (x_bastore 16 d_X8_findComing_15 rfl ((congrArg (q_sI _ 2 _ _) (show vp_nar .boolean (zi 0) = zi 0 from rfl)).trans (m_s5 (by omega) (by omega)))) ?_
        show Xv E q_m_X8_findComing 16 [Value.ref am, Value.int (zi r), Value.int (zi k), Value.null, Value.null, Value.null] [] (q_mw h am (uM (uA M 5 (zro (M 5) 0 k)) 5 k 0)) Q
        refine xv (x_iinc 19 d_X8_findComing_16 rfl rfl) ?_
        show Xv E q_m_X8_findComing 19 [Value.ref am, Value.int (zi r), Value.int (zi (k + 1)), Value.null, Value.null, Value.null] [] (q_mw h am (uM (uA M 5 (zro (M 5) 0 k)) 5 k 0)) Q
        refine xv (x_goto 2 d_X8_findComing_19 rfl) ?_
        have ez : u1 (zro (M 5) 0 k) k 0 = zro (M 5) 0 (k + 1) := by have z_ := @zro_s (M 5) 0 k k0; rw [Int.zero_add] at z_; exact z_
        rw [uM_uA, ez]
        exact ih2 _ (by omega) (k + 1) (by omega) (by omega) rfl
  have i0 := L2 _ 0 (by omega) (by omega) rfl
  rw [zro_0, uA_self] at i0
  exact i0
end RA3
