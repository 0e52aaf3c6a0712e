/-! the reference: from where a plan can still be ended (printed by program) -/
section RA5
variable {E : q_E} {h : q_H} {am : Nat} {M M2 : q_Im} {l G : Int → Int} {r g T t k w v : Int}
/-- n ticks before T: the goal can still be come to, at T and not at T - 1 -/
def gos (l : Int → Int) (r g T : Int) : Nat → Int → Prop
  | 0, c => c = g
  | n + 1, c => isC l c ∧ (∃ w, (0 ≤ w ∧ w ≤ 4) ∧ 0 ≤ bes l c w ∧ mgo l r c (bes l c w) (T - n - 1) ∧ gos l r g T n (bes l c w)) ∧ ¬ (n = 0 ∧ c = g)
theorem gos_c {n : Nat} {c : Int} (hg : isC l g) (h : gos l r g T n c) : isC l c := by
  cases n with
  | zero => rw [show c = g from h]; exact hg
  | succ n => exact h.1
abbrev gosE (l : Int → Int) (r g T t c u : Int) : Prop := 0 ≤ bes l c u ∧ gos l r g T (T - t - 1).toNat (bes l c u) ∧ mgo l r c (bes l c u) t
theorem gos_s (h1 : 0 ≤ t) (h2 : t < T) {c : Int} : gos l r g T (T - t).toNat c ↔ isC l c ∧ (∃ w, (0 ≤ w ∧ w ≤ 4) ∧ gosE l r g T t c w) ∧ ¬ (t = T - 1 ∧ c = g) := by
  rw [show (T - t).toNat = (T - t - 1).toNat + 1 by omega]
  show (isC l c ∧ (∃ w, (0 ≤ w ∧ w ≤ 4) ∧ 0 ≤ bes l c w ∧ mgo l r c (bes l c w) (T - ((T - t - 1).toNat : Int) - 1) ∧ gos l r g T (T - t - 1).toNat (bes l c w)) ∧ ¬ ((T - t - 1).toNat = 0 ∧ c = g)) ↔ _
  rw [show T - ((T - t - 1).toNat : Int) - 1 = t by omega]
  refine and_congr_right fun _ => and_congr ⟨?_, ?_⟩ ⟨fun a b => a ⟨by omega, b.2⟩, fun a b => a ⟨by omega, b.2⟩⟩
  · rintro ⟨w, a, b, c, d⟩
    exact ⟨w, a, b, d, c⟩
  · rintro ⟨w, a, b, c, d⟩
    exact ⟨w, a, b, d, c⟩
def GoI (l : Int → Int) (r g T : Int) (G : Int → Int) (t k : Int) : Prop := (∀ i, 0 ≤ i → i < 1488 → 0 ≤ G i ∧ G i ≤ 1) ∧ (∀ t', t < t' → 0 ≤ t' → t' ≤ T → ∀ c, 0 ≤ c → c < 48 → (G (48 * t' + c) = 1 ↔ gos l r g T (T - t').toNat c)) ∧ (0 ≤ t → ∀ c, 0 ≤ c → c < 48 → (G (48 * t + c) = 1 ↔ c < k ∧ gos l r g T (T - t).toNat c)) ∧ ∀ i, 0 ≤ i → i < 48 * t → G i = 0
theorem go_k (h : GoI l r g T G t k) (ht : 0 ≤ t) (hk : 0 ≤ k) (k48 : k < 48) (v0 : 0 ≤ v ∧ v ≤ 1) (hv : v = 1 ↔ gos l r g T (T - t).toNat k) : GoI l r g T (u1 G (48 * t + k) v) t (k + 1) := by
  obtain ⟨a1, a2, a3, a4⟩ := h
  refine ⟨fun i b1 b2 => ?_, fun t' b0 b1 b2 c b3 b4 => ?_, fun b0 c b1 b2 => ?_, fun i b1 b2 => ?_⟩
  · by_cases z : i = 48 * t + k
    · rw [z, u1_eq]; exact v0
    · rw [u1_ne z]; exact a1 i b1 b2
  · rw [u1_ne (by omega)]
    exact a2 t' b0 b1 b2 c b3 b4
  · by_cases z : c = k
    · rw [z, u1_eq, hv]
      exact ⟨fun e => ⟨by omega, e⟩, fun e => e.2⟩
    · rw [u1_ne (by omega), a3 b0 c b1 b2]
      exact ⟨fun e => ⟨by omega, e.2⟩, fun e => ⟨by omega, e.2⟩⟩
  · rw [u1_ne (by omega)]
    exact a4 i b1 b2
theorem go_t (hg : isC l g) (h : GoI l r g T G t (cs l)) (ht : 0 ≤ t) : GoI l r g T G (t - 1) 0 := by
  obtain ⟨a1, a2, a3, a4⟩ := h
  refine ⟨a1, fun t' b0 b1 b2 c b3 b4 => ?_, fun b0 c b1 b2 => ?_, fun i b1 b2 => a4 i b1 (by omega)⟩
  · by_cases z : t' = t
    · subst z
      rw [a3 ht c b3 b4]
      exact ⟨fun e => e.2, fun e => ⟨(gos_c hg e).2, e⟩⟩
    · exact a2 t' (by omega) b1 b2 c b3 b4
  · rw [a4 _ (by omega) (by omega)]
    exact ⟨fun e => absurd e (by decide), fun e => by omega⟩
theorem go_0 (gc : 2 ≤ cs l ∧ cs l ≤ 48) (hg : isC l g) (hT : 1 ≤ T ∧ T ≤ 30) {f : Int → Int} : GoI l r g T (u1 (zro f 0 1488) (48 * T + g) 1) (T - 1) 0 := by
  have hz (i : Int) (h1 : 0 ≤ i) (h2 : i < 1488) : zro f 0 1488 i = 0 := if_pos (by omega)
  refine ⟨fun i b1 b2 => ?_, fun t' b0 b1 b2 c b3 b4 => ?_, fun b0 c b1 b2 => ?_, fun i b1 b2 => ?_⟩
  · by_cases z : i = 48 * T + g
    · rw [z, u1_eq]; omega
    · rw [u1_ne z, hz i b1 b2]; omega
  · rw [show t' = T by omega, show (T - T).toNat = 0 by omega]
    by_cases z : c = g
    · rw [z, u1_eq]
      exact ⟨fun _ => (rfl : g = g), fun _ => rfl⟩
    · rw [u1_ne (by omega), hz _ (by omega) (by omega)]
      exact ⟨fun e => absurd e (by decide), fun e => absurd (show c = g from e) z⟩
  · rw [u1_ne (by omega), hz _ (by omega) (by omega)]
    exact ⟨fun e => absurd e (by decide), fun e => by omega⟩
  · rw [u1_ne (by omega), hz _ (by omega) (by omega)]
theorem S_X8_findGoing (hR : Rg (M 1)) {r g T : Int} (hr_ : isR (M 1) r) (hg : isC (M 1) g) (hT : 1 ≤ T ∧ T ≤ 30) : ∃ r_ h', q_cl E q_m_X8_findGoing [Value.ref am, Value.int (zi r), Value.int (zi g), Value.int (zi T)] (q_mw h am M) = some (r_, h') ∧ (r_ = .inl none ∧ ∃ G, h' = q_mw h am (uA M 6 G) ∧ (∀ i, 0 ≤ i → i < 1488 → 0 ≤ G i ∧ G i ≤ 1) ∧ ∀ t', 0 ≤ t' → t' ≤ T → ∀ c, 0 ≤ c → c < 48 → (G (48 * t' + c) = 1 ↔ gos (M 1) r g T (T - t').toNat c)) := by
  suffices K : ∀ Q : q_R → q_H → Prop, (∀ r_ h', (r_ = .inl none ∧ ∃ G, h' = q_mw h am (uA M 6 G) ∧ (∀ i, 0 ≤ i → i < 1488 → 0 ≤ G i ∧ G i ≤ 1) ∧ ∀ t', 0 ≤ t' → t' ≤ T → ∀ c, 0 ≤ c → c < 48 → (G (48 * t' + c) = 1 ↔ gos (M 1) r g T (T - t').toNat c)) → Q r_ h') → Xv E q_m_X8_findGoing 0 [Value.ref am, Value.int (zi r), Value.int (zi g), Value.int (zi T), Value.null, Value.null, Value.null, Value.null, Value.null] [] (q_mw h am M) Q from K _ fun _ _ p => p
  intro Q hQ
  have hR0 := hR
  obtain ⟨hr, g0, g1, g3, g4, gc, g5, g6, g7, gk, gl, gr, go⟩ := hR0
  refine xv (x_iconst 1 d_X8_findGoing_0 rfl) ?_
  refine xv (x_istore 3 d_X8_findGoing_1 rfl (Nat.le_of_ble_eq_true rfl)) ?_
  show Xv E q_m_X8_findGoing 3 [Value.ref am, Value.int (zi r), Value.int (zi g), Value.int (zi T), Value.int (zi 0), Value.null, Value.null, Value.null, Value.null] [] (q_mw h am M) Q
  have L3 : ∀ (n_ : Nat) (k : Int), (0 ≤ k) → (k ≤ 1488) → (1488 - k).toNat = n_ → Xv E q_m_X8_findGoing 3 [Value.ref am, Value.int (zi r), Value.int (zi g), Value.int (zi T), Value.int (zi k), Value.null, Value.null, Value.null, Value.null] [] (q_mw h am (uA M 6 (zro (M 6) 0 k))) Q := by
    intro n_
    induction n_ using Nat.strongRecOn with
    | _ n_ ih3 =>
      intro k k0 k1 em
      refine xv (x_iload 5 d_X8_findGoing_3 rfl rfl) ?_
      refine xv (x_sipush 8 d_X8_findGoing_5 rfl rfl) ?_
      refine v_icmp_ge 25 11 d_X8_findGoing_8 rfl rfl (by omega) (by omega) (by omega) (by omega) (fun k8 => ?_) (fun k8 => ?_)
      · refine xv (x_aload_n 26 d_X8_findGoing_25 rfl rfl) ?_
        refine xv (x_getfield 29 d_X8_findGoing_26 rfl f_8_26 (Nat.le_of_ble_eq_true rfl) (Nat.le_of_ble_eq_true rfl) (q_gf_of m_o rfl)) ?_
        refine xv (x_bipush 31 d_X8_findGoing_29 rfl rfl) ?_
        refine xv (x_iload_n 32 d_X8_findGoing_31 rfl rfl) ?_
        refine xv (x_imul 33 d_X8_findGoing_32 rfl) ?_
        refine xv (x_iload_n 34 d_X8_findGoing_33 rfl rfl) ?_
        refine xv (x_iadd 35 d_X8_findGoing_34 rfl) ?_
        refine xv (x_iconst 36 d_X8_findGoing_35 rfl) ?_
        refine xv (x_bastore 37 d_X8_findGoing_36 rfl ((congrArg (q_sI _ 2 _ _) (show vp_nar .boolean (zi 1) = zi 1 from rfl)).trans (m_s6 (by omega) (by omega)))) ?_
        show Xv E q_m_X8_findGoing 37 [Value.ref am, Value.int (zi r), Value.int (zi g), Value.int (zi T), Value.int (zi k), Value.null, Value.null, Value.null, Value.null] [] (q_mw h am (uM (uA M 6 (zro (M 6) 0 k)) 6 ((48 * T) + g) 1)) Q
        refine xv (x_iload_n 38 d_X8_findGoing_37 rfl rfl) ?_
        refine xv (x_iconst 39 d_X8_findGoing_38 rfl) ?_
        refine xv (x_isub 40 d_X8_findGoing_39 rfl) ?_
        refine xv (x_istore 42 d_X8_findGoing_40 rfl (Nat.le_of_ble_eq_true rfl)) ?_
        show Xv E q_m_X8_findGoing 42 [Value.ref am, Value.int (zi r), Value.int (zi g), Value.int (zi T), Value.int (zi (T - 1)), Value.null, Value.null, Value.null, Value.null] [] (q_mw h am (uM (uA M 6 (zro (M 6) 0 k)) 6 ((48 * T) + g) 1)) Q
        have L42 : ∀ (n_ : Nat) (t : Int) (G : Int → Int) (x5 : Value) (x6 : Value) (x7 : Value) (x8 : Value), (-1 ≤ t) → (t < T) → (GoI (M 1) r g T G t 0) → (t + 1).toNat = n_ → Xv E q_m_X8_findGoing 42 [Value.ref am, Value.int (zi r), Value.int (zi g), Value.int (zi T), Value.int (zi t), x5, x6, x7, x8] [] (q_mw h am (uA M 6 G)) Q := by
          intro n_
          induction n_ using Nat.strongRecOn with
          | _ n_ ih42 =>
            intro t G x5 x6 x7 x8 t0 t1 hI em
            refine xv (x_iload 44 d_X8_findGoing_42 rfl rfl) ?_
            refine v_if_lt 185 47 d_X8_findGoing_44 rfl rfl (by omega) (by omega) (fun k44 => ?_) (fun k44 => ?_)
            · refine xv_r (x_return d_X8_findGoing_185 rfl) ?_
              exact hQ _ _ ⟨rfl, _, rfl, hI.1, fun t' a b => hI.2.1 t' (by omega) a b⟩
            · refine xv (x_iconst 48 d_X8_findGoing_47 rfl) ?_
              refine xv (x_istore 50 d_X8_findGoing_48 rfl (Nat.le_of_ble_eq_true rfl)) ?_
              show Xv E q_m_X8_findGoing 50 [Value.ref am, Value.int (zi r), Value.int (zi g), Value.int (zi T), Value.int (zi t), Value.int (zi 0), x6, x7, x8] [] (q_mw h am (uA M 6 G)) Q
              have L50 : ∀ (n_ : Nat) (k : Int) (G : Int → Int) (x6 : Value) (x7 : Value) (x8 : Value), (0 ≤ k) → (k ≤ cs (M 1)) → (GoI (M 1) r g T G t k) → (cs (M 1) - k).toNat = n_ → Xv E q_m_X8_findGoing 50 [Value.ref am, Value.int (zi r), Value.int (zi g), Value.int (zi T), Value.int (zi t), Value.int (zi k), x6, x7, x8] [] (q_mw h am (uA M 6 G)) Q := by
                intro n_
                induction n_ using Nat.strongRecOn with
                | _ n_ ih50 =>
                  intro k G x6 x7 x8 k0 k1 hI em
                  have t0 : 0 ≤ t := by omega
                  refine xv (x_iload 52 d_X8_findGoing_50 rfl rfl) ?_
                  refine xv (x_aload_n 53 d_X8_findGoing_52 rfl rfl) ?_
                  refine xv (x_inv1 56 (as := []) d_X8_findGoing_53 rfl c_8_67 rfl (Nat.le_of_ble_eq_true rfl) (Nat.le_of_ble_eq_true rfl) m_o (Nat.le_of_ble_eq_true rfl) (Nat.le_of_ble_eq_true rfl) rfl (S_X8_cells (E := E) (h := h) (am := am) (M := (uA M 6 G)) hR)) ?_
                  show Xv E q_m_X8_findGoing 56 [Value.ref am, Value.int (zi r), Value.int (zi g), Value.int (zi T), Value.int (zi t), Value.int (zi k), x6, x7, x8] [Value.int (zi (cs (M 1))), Value.int (zi k)] (q_mw h am (uA M 6 G)) Q
                  refine v_icmp_ge 179 59 d_X8_findGoing_56 rfl rfl (by omega) (by omega) (by omega) (by omega) (fun k56 => ?_) (fun k56 => ?_)
                  · refine xv (x_iinc 182 d_X8_findGoing_179 rfl rfl) ?_
                    show Xv E q_m_X8_findGoing 182 [Value.ref am, Value.int (zi r), Value.int (zi g), Value.int (zi T), Value.int (zi (t + (-1))), Value.int (zi k), x6, x7, x8] [] (q_mw h am (uA M 6 G)) Q
                    refine xv (x_goto 42 d_X8_findGoing_182 rfl) ?_
                    have ek : k = cs (M 1) := by omega
                    rw [ek] at hI
                    rw [show t + (-1) = t - 1 by omega]
                    exact ih42 _ (by omega) (t - 1) _ _ _ _ _ (by omega) (by omega) (go_t hg hI t0) rfl
                  · refine xv (x_iconst 60 d_X8_findGoing_59 rfl) ?_
                    refine xv (x_istore 62 d_X8_findGoing_60 rfl (Nat.le_of_ble_eq_true rfl)) ?_
                    show Xv E q_m_X8_findGoing 62 [Value.ref am, Value.int (zi r), Value.int (zi g), Value.int (zi T), Value.int (zi t), Value.int (zi k), Value.int (zi 0), x7, x8] [] (q_mw h am (uA M 6 G)) Q
                    refine xv (x_iconst 63 d_X8_findGoing_62 rfl) ?_
                    refine xv (x_istore 65 d_X8_findGoing_63 rfl (Nat.le_of_ble_eq_true rfl)) ?_
                    show Xv E q_m_X8_findGoing 65 [Value.ref am, Value.int (zi r), Value.int (zi g), Value.int (zi T), Value.int (zi t), Value.int (zi k), Value.int (zi 0), Value.int (zi 0), x8] [] (q_mw h am (uA M 6 G)) Q
                    have L65 : ∀ (n_ : Nat) (a : Int) (w : Int) (x8 : Value), (0 ≤ w) → (w ≤ 5) → (a = 0 ∨ a = 1) → (a = 1 ↔ ∃ u, (0 ≤ u ∧ u < w) ∧ gosE (M 1) r g T t k u) → (5 - w).toNat = n_ → Xv E q_m_X8_findGoing 65 [Value.ref am, Value.int (zi r), Value.int (zi g), Value.int (zi T), Value.int (zi t), Value.int (zi k), Value.int (zi a), Value.int (zi w), x8] [] (q_mw h am (uA M 6 G)) Q := by
                      intro n_
                      induction n_ using Nat.strongRecOn with
                      | _ n_ ih65 =>
                        intro a w x8 w0 w1 a0 ha em
                        refine xv (x_iload 67 d_X8_findGoing_65 rfl rfl) ?_
                        refine xv (x_iconst 68 d_X8_findGoing_67 rfl) ?_
                        refine v_icmp_ge 136 71 d_X8_findGoing_68 rfl rfl (by omega) (by omega) (by omega) (by omega) (fun k68 => ?_) (fun k68 => ?_)
                        · refine xv (x_aload_n 137 d_X8_findGoing_136 rfl rfl) ?_
                          refine xv (x_getfield 140 d_X8_findGoing_137 rfl f_8_26 (Nat.le_of_ble_eq_true rfl) (Nat.le_of_ble_eq_true rfl) (q_gf_of m_o rfl)) ?_
                          refine xv (x_bipush 142 d_X8_findGoing_140 rfl rfl) ?_
                          refine xv (x_iload 144 d_X8_findGoing_142 rfl rfl) ?_
                          refine xv (x_imul 145 d_X8_findGoing_144 rfl) ?_
                          refine xv (x_iload 147 d_X8_findGoing_145 rfl rfl) ?_
                          refine xv (x_iadd 148 d_X8_findGoing_147 rfl) ?_
                          refine xv (x_iload 150 d_X8_findGoing_148 rfl rfl) ?_
                          refine v_if_eq 171 153 d_X8_findGoing_150 rfl rfl (by omega) (by omega) (fun k150 => ?_) (fun k150 => ?_)
                          · refine xv (x_iconst 172 d_X8_findGoing_171 rfl) ?_
                            refine xv (x_bastore 173 d_X8_findGoing_172 rfl ((congrArg (q_sI _ 2 _ _) (show vp_nar .boolean (zi 0) = zi 0 from rfl)).trans (m_s6 (by omega) (by omega)))) ?_
                            show Xv E q_m_X8_findGoing 173 [Value.ref am, Value.int (zi r), Value.int (zi g), Value.int (zi T), Value.int (zi t), Value.int (zi k), Value.int (zi a), Value.int (zi w), x8] [] (q_mw h am (uM (uA M 6 G) 6 ((48 * t) + k) 0)) Q
                            refine xv (x_iinc 176 d_X8_findGoing_173 rfl rfl) ?_
                            show Xv E q_m_X8_findGoing 176 [Value.ref am, Value.int (zi r), Value.int (zi g), Value.int (zi T), Value.int (zi t), Value.int (zi (k + 1)), Value.int (zi a), Value.int (zi w), x8] [] (q_mw h am (uM (uA M 6 G) 6 ((48 * t) + k) 0)) Q
                            refine xv (x_goto 50 d_X8_findGoing_176 rfl) ?_
                            have eg := gos_s (l := M 1) (r := r) (g := g) (T := T) (t := t) (c := k) t0 (by omega)
                            have ew : w = 5 := by clear eg ha; omega
                            rw [ew] at ha
                            have hv : (0 : Int) = 1 ↔ gos (M 1) r g T (T - t).toNat k := by
                              first
                              | (have a1 : ¬ a = 1 := by clear eg ha; omega
                                 exact ⟨fun e => absurd e (by decide), fun e => by obtain ⟨_, ⟨u, z1, z2⟩, _⟩ := eg.mp e; exact absurd (ha.mpr ⟨u, ⟨z1.1, Int.lt_add_one_of_le z1.2⟩, z2⟩) a1⟩)
                              | (have nc : t = T - 1 ∧ k = g := by clear eg ha; omega
                                 exact ⟨fun e => absurd e (by decide), fun e => absurd nc (eg.mp e).2.2⟩)
                            clear eg ha
                            rw [uM_uA]
                            exact ih50 _ (by omega) (k + 1) _ _ _ _ (by omega) (by omega) (go_k hI t0 k0 (by omega) (by omega) hv) rfl
                          · refine xv (x_iload 155 d_X8_findGoing_153 rfl rfl) ?_
                            refine xv (x_iload_n 156 d_X8_findGoing_155 rfl rfl) ?_
                            refine xv (x_iconst 157 d_X8_findGoing_156 rfl) ?_
                            refine xv (x_isub 158 d_X8_findGoing_157 rfl) ?_
                            refine v_icmp_ne 167 161 d_X8_findGoing_158 rfl rfl (by omega) (by omega) (by omega) (by omega) (fun k158 => ?_) (fun k158 => ?_)
                            · refine xv (x_iconst 168 d_X8_findGoing_167 rfl) ?_
                              refine xv (x_goto 172 d_X8_findGoing_168 rfl) ?_
                              refine xv (x_bastore 173 d_X8_findGoing_172 rfl ((congrArg (q_sI _ 2 _ _) (show vp_nar .boolean (zi 1) = zi 1 from rfl)).trans (m_s6 (by omega) (by omega)))) ?_
                              show Xv E q_m_X8_findGoing 173 [Value.ref am, Value.int (zi r), Value.int (zi g), Value.int (zi T), Value.int (zi t), Value.int (zi k), Value.int (zi a), Value.int (zi w), x8] [] (q_mw h am (uM (uA M 6 G) 6 ((48 * t) + k) 1)) Q
                              refine xv (x_iinc 176 d_X8_findGoing_173 rfl rfl) ?_
                              show Xv E q_m_X8_findGoing 176 [Value.ref am, Value.int (zi r), Value.int (zi g), Value.int (zi T), Value.int (zi t), Value.int (zi (k + 1)), Value.int (zi a), Value.int (zi w), x8] [] (q_mw h am (uM (uA M 6 G) 6 ((48 * t) + k) 1)) Q
                              refine xv (x_goto 50 d_X8_findGoing_176 rfl) ?_
                              have eg := gos_s (l := M 1) (r := r) (g := g) (T := T) (t := t) (c := k) t0 (by omega)
                              have ew : w = 5 := by clear eg ha; omega
                              rw [ew] at ha
                              have a1 : a = 1 := by clear eg ha; omega
                              have nc : ¬ (t = T - 1 ∧ k = g) := by clear eg ha; omega
                              have hkc : k < cs (M 1) := by clear eg ha; omega
                              have hv : (1 : Int) = 1 ↔ gos (M 1) r g T (T - t).toNat k := ⟨fun _ => eg.mpr ⟨⟨k0, hkc⟩, by obtain ⟨u, z1, z2⟩ := ha.mp a1; exact ⟨u, ⟨z1.1, Int.le_of_lt_add_one z1.2⟩, z2⟩, nc⟩, fun _ => rfl⟩
                              clear eg ha
                              rw [uM_uA]
                              exact ih50 _ (by omega) (k + 1) _ _ _ _ (by omega) (by omega) (go_k hI t0 k0 (by omega) (by omega) hv) rfl
                            · refine xv (x_iload 163 d_X8_findGoing_161 rfl rfl) ?_
                              refine xv (x_iload_n 164 d_X8_findGoing_163 rfl rfl) ?_
                              refine v_icmp_eq 171 167 d_X8_findGoing_164 rfl rfl (by omega) (by omega) (by omega) (by omega) (fun k164 => ?_) (fun k164 => ?_)
                              · refine xv (x_iconst 172 d_X8_findGoing_171 rfl) ?_
                                refine xv (x_bastore 173 d_X8_findGoing_172 rfl ((congrArg (q_sI _ 2 _ _) (show vp_nar .boolean (zi 0) = zi 0 from rfl)).trans (m_s6 (by omega) (by omega)))) ?_
                                show Xv E q_m_X8_findGoing 173 [Value.ref am, Value.int (zi r), Value.int (zi g), Value.int (zi T), Value.int (zi t), Value.int (zi k), Value.int (zi a), Value.int (zi w), x8] [] (q_mw h am (uM (uA M 6 G) 6 ((48 * t) + k) 0)) Q
                                refine xv (x_iinc 176 d_X8_findGoing_173 rfl rfl) ?_
                                show Xv E q_m_X8_findGoing 176 [Value.ref am, Value.int (zi r), Value.int (zi g), Value.int (zi T), Value.int (zi t), Value.int (zi (k + 1)), Value.int (zi a), Value.int (zi w), x8] [] (q_mw h am (uM (uA M 6 G) 6 ((48 * t) + k) 0)) Q
                                refine xv (x_goto 50 d_X8_findGoing_176 rfl) ?_
                                have eg := gos_s (l := M 1) (r := r) (g := g) (T := T) (t := t) (c := k) t0 (by omega)
                                have ew : w = 5 := by clear eg ha; omega
                                rw [ew] at ha
                                have hv : (0 : Int) = 1 ↔ gos (M 1) r g T (T - t).toNat k := by
                                  first
                                  | (have a1 : ¬ a = 1 := by clear eg ha; omega
                                     exact ⟨fun e => absurd e (by decide), fun e => by obtain ⟨_, ⟨u, z1, z2⟩, _⟩ := eg.mp e; exact absurd (ha.mpr ⟨u, ⟨z1.1, Int.lt_add_one_of_le z1.2⟩, z2⟩) a1⟩)
                                  | (have nc : t = T - 1 ∧ k = g := by clear eg ha; omega
                                     exact ⟨fun e => absurd e (by decide), fun e => absurd nc (eg.mp e).2.2⟩)
                                clear eg ha
                                rw [uM_uA]
                                exact ih50 _ (by omega) (k + 1) _ _ _ _ (by omega) (by omega) (go_k hI t0 k0 (by omega) (by omega) hv) rfl
                              · refine xv (x_iconst 168 d_X8_findGoing_167 rfl) ?_
                                refine xv (x_goto 172 d_X8_findGoing_168 rfl) ?_
                                refine xv (x_bastore 173 d_X8_findGoing_172 rfl ((congrArg (q_sI _ 2 _ _) (show vp_nar .boolean (zi 1) = zi 1 from rfl)).trans (m_s6 (by omega) (by omega)))) ?_
                                show Xv E q_m_X8_findGoing 173 [Value.ref am, Value.int (zi r), Value.int (zi g), Value.int (zi T), Value.int (zi t), Value.int (zi k), Value.int (zi a), Value.int (zi w), x8] [] (q_mw h am (uM (uA M 6 G) 6 ((48 * t) + k) 1)) Q
                                refine xv (x_iinc 176 d_X8_findGoing_173 rfl rfl) ?_
                                show Xv E q_m_X8_findGoing 176 [Value.ref am, Value.int (zi r), Value.int (zi g), Value.int (zi T), Value.int (zi t), Value.int (zi (k + 1)), Value.int (zi a), Value.int (zi w), x8] [] (q_mw h am (uM (uA M 6 G) 6 ((48 * t) + k) 1)) Q
                                refine xv (x_goto 50 d_X8_findGoing_176 rfl) ?_
                                have eg := gos_s (l := M 1) (r := r) (g := g) (T := T) (t := t) (c := k) t0 (by omega)
                                have ew : w = 5 := by clear eg ha; omega
                                rw [ew] at ha
                                have a1 : a = 1 := by clear eg ha; omega
                                have nc : ¬ (t = T - 1 ∧ k = g) := by clear eg ha; omega
                                have hkc : k < cs (M 1) := by clear eg ha; omega
                                have hv : (1 : Int) = 1 ↔ gos (M 1) r g T (T - t).toNat k := ⟨fun _ => eg.mpr ⟨⟨k0, hkc⟩, by obtain ⟨u, z1, z2⟩ := ha.mp a1; exact ⟨u, ⟨z1.1, Int.le_of_lt_add_one z1.2⟩, z2⟩, nc⟩, fun _ => rfl⟩
                                clear eg ha
                                rw [uM_uA]
                                exact ih50 _ (by omega) (k + 1) _ _ _ _ (by omega) (by omega) (go_k hI t0 k0 (by omega) (by omega) hv) rfl
                        · refine xv (x_aload_n 72 d_X8_findGoing_71 rfl rfl) ?_
                          refine xv (x_iload 74 d_X8_findGoing_72 rfl rfl) ?_
                          refine xv (x_iload 76 d_X8_findGoing_74 rfl rfl) ?_
                          refine xv (x_inv1 79 (as := [Value.int (zi k), Value.int (zi w)]) d_X8_findGoing_76 rfl c_8_124 rfl (Nat.le_of_ble_eq_true rfl) (Nat.le_of_ble_eq_true rfl) m_o (Nat.le_of_ble_eq_true rfl) (Nat.le_of_ble_eq_true rfl) rfl (S_X8_beside (E := E) (h := h) (am := am) (M := (uA M 6 G)) hR (by first | omega | (rw [show (uA M 6 G) 1 = (M 1) from rfl]; omega)) (by first | omega | (rw [show (uA M 6 G) 1 = (M 1) from rfl]; omega)) (by first | omega | (rw [show (uA M 6 G) 1 = (M 1) from rfl]; omega)))) ?_
                          have q_1 := bes_r hR (c := k) (w := w) (by omega)
                          show Xv E q_m_X8_findGoing 79 [Value.ref am, Value.int (zi r), Value.int (zi g), Value.int (zi T), Value.int (zi t), Value.int (zi k), Value.int (zi a), Value.int (zi w), x8] [Value.int (zi (bes (M 1) k w))] (q_mw h am (uA M 6 G)) Q
                          refine xv (x_istore 81 d_X8_findGoing_79 rfl (Nat.le_of_ble_eq_true rfl)) ?_
                          show Xv E q_m_X8_findGoing 81 [Value.ref am, Value.int (zi r), Value.int (zi g), Value.int (zi T), Value.int (zi t), Value.int (zi k), Value.int (zi a), Value.int (zi w), Value.int (zi (bes (M 1) k w))] [] (q_mw h am (uA M 6 G)) Q
                          refine xv (x_iload 83 d_X8_findGoing_81 rfl rfl) ?_
                          refine v_if_ne 123 86 d_X8_findGoing_83 rfl rfl (by omega) (by omega) (fun k83 => ?_) (fun k83 => ?_)
                          · refine xv (x_iconst 124 d_X8_findGoing_123 rfl) ?_
                            refine xv (x_goto 128 d_X8_findGoing_124 rfl) ?_
                            refine xv (x_istore 130 d_X8_findGoing_128 rfl (Nat.le_of_ble_eq_true rfl)) ?_
                            show Xv E q_m_X8_findGoing 130 [Value.ref am, Value.int (zi r), Value.int (zi g), Value.int (zi T), Value.int (zi t), Value.int (zi k), Value.int (zi 1), Value.int (zi w), Value.int (zi (bes (M 1) k w))] [] (q_mw h am (uA M 6 G)) Q
                            refine xv (x_iinc 133 d_X8_findGoing_130 rfl rfl) ?_
                            show Xv E q_m_X8_findGoing 133 [Value.ref am, Value.int (zi r), Value.int (zi g), Value.int (zi T), Value.int (zi t), Value.int (zi k), Value.int (zi 1), Value.int (zi (w + 1)), Value.int (zi (bes (M 1) k w))] [] (q_mw h am (uA M 6 G)) Q
                            refine xv (x_goto 65 d_X8_findGoing_133 rfl) ?_
                            refine ih65 _ (by omega) _ (w + 1) _ (by omega) (by omega) (by omega) ?_ rfl
                            first
                            | exact ⟨fun _ => by obtain ⟨u, h1, h2⟩ := ha.mp (by omega); exact ⟨u, by omega, h2⟩, fun _ => rfl⟩
                            | exact ⟨fun _ => ⟨w, by omega, by omega, (hI.2.1 (t + 1) (by omega) (by omega) (by omega) _ (by omega) (by omega)).mp (by omega) |> (fun z_ => by rw [show T - t - 1 = T - (t + 1) by omega]; exact z_), k120⟩, fun _ => rfl⟩
                          · refine xv (x_iload 88 d_X8_findGoing_86 rfl rfl) ?_
                            refine v_if_lt 127 91 d_X8_findGoing_88 rfl rfl (by omega) (by omega) (fun k88 => ?_) (fun k88 => ?_)
                            · refine xv (x_iconst 128 d_X8_findGoing_127 rfl) ?_
                              refine xv (x_istore 130 d_X8_findGoing_128 rfl (Nat.le_of_ble_eq_true rfl)) ?_
                              show Xv E q_m_X8_findGoing 130 [Value.ref am, Value.int (zi r), Value.int (zi g), Value.int (zi T), Value.int (zi t), Value.int (zi k), Value.int (zi 0), Value.int (zi w), Value.int (zi (bes (M 1) k w))] [] (q_mw h am (uA M 6 G)) Q
                              refine xv (x_iinc 133 d_X8_findGoing_130 rfl rfl) ?_
                              show Xv E q_m_X8_findGoing 133 [Value.ref am, Value.int (zi r), Value.int (zi g), Value.int (zi T), Value.int (zi t), Value.int (zi k), Value.int (zi 0), Value.int (zi (w + 1)), Value.int (zi (bes (M 1) k w))] [] (q_mw h am (uA M 6 G)) Q
                              refine xv (x_goto 65 d_X8_findGoing_133 rfl) ?_
                              refine ih65 _ (by omega) _ (w + 1) _ (by omega) (by omega) (by omega) ?_ rfl
                              refine ⟨fun e => absurd e (by decide), fun ⟨u, h1, h2⟩ => ?_⟩
                              exfalso
                              rcases (by omega : u < w ∨ u = w) with z | z
                              · have := ha.mpr ⟨u, ⟨h1.1, z⟩, h2⟩
                                omega
                              · rw [z] at h2
                                first | exact absurd h2.1 (by omega) | exact k120 h2.2.2 | (have z2 := h2.2.1; rw [show T - t - 1 = T - (t + 1) by omega] at z2; have z3 := (hI.2.1 (t + 1) (by omega) (by omega) (by omega) _ (by omega) (by omega)).mpr z2; omega)
                            · refine xv (x_aload_n 92 d_X8_findGoing_91 rfl rfl) ?_
                              refine xv (x_getfield 95 d_X8_findGoing_92 rfl f_8_26 (Nat.le_of_ble_eq_true rfl) (Nat.le_of_ble_eq_true rfl) (q_gf_of m_o rfl)) ?_
                              refine xv (x_bipush 97 d_X8_findGoing_95 rfl rfl) ?_
                              refine xv (x_iload 99 d_X8_findGoing_97 rfl rfl) ?_
                              refine xv (x_iconst 100 d_X8_findGoing_99 rfl) ?_
                              refine xv (x_iadd 101 d_X8_findGoing_100 rfl) ?_
                              refine xv (x_imul 102 d_X8_findGoing_101 rfl) ?_
                              refine xv (x_iload 104 d_X8_findGoing_102 rfl rfl) ?_
                              refine xv (x_iadd 105 d_X8_findGoing_104 rfl) ?_
                              refine xv (x_baload 106 d_X8_findGoing_105 rfl ((m_g6 (by omega) (by omega)).trans (rfl : _ = some (Value.int (zi (G ((48 * (t + 1)) + (bes (M 1) k w)))))))) ?_
                              have q105 := hI.1 ((48 * (t + 1)) + (bes (M 1) k w)) (by omega) (by omega)
                              refine v_if_eq 127 109 d_X8_findGoing_106 rfl rfl (by omega) (by omega) (fun k106 => ?_) (fun k106 => ?_)
                              · refine xv (x_iconst 128 d_X8_findGoing_127 rfl) ?_
                                refine xv (x_istore 130 d_X8_findGoing_128 rfl (Nat.le_of_ble_eq_true rfl)) ?_
                                show Xv E q_m_X8_findGoing 130 [Value.ref am, Value.int (zi r), Value.int (zi g), Value.int (zi T), Value.int (zi t), Value.int (zi k), Value.int (zi 0), Value.int (zi w), Value.int (zi (bes (M 1) k w))] [] (q_mw h am (uA M 6 G)) Q
                                refine xv (x_iinc 133 d_X8_findGoing_130 rfl rfl) ?_
                                show Xv E q_m_X8_findGoing 133 [Value.ref am, Value.int (zi r), Value.int (zi g), Value.int (zi T), Value.int (zi t), Value.int (zi k), Value.int (zi 0), Value.int (zi (w + 1)), Value.int (zi (bes (M 1) k w))] [] (q_mw h am (uA M 6 G)) Q
                                refine xv (x_goto 65 d_X8_findGoing_133 rfl) ?_
                                refine ih65 _ (by omega) _ (w + 1) _ (by omega) (by omega) (by omega) ?_ rfl
                                refine ⟨fun e => absurd e (by decide), fun ⟨u, h1, h2⟩ => ?_⟩
                                exfalso
                                rcases (by omega : u < w ∨ u = w) with z | z
                                · have := ha.mpr ⟨u, ⟨h1.1, z⟩, h2⟩
                                  omega
                                · rw [z] at h2
                                  first | exact absurd h2.1 (by omega) | exact k120 h2.2.2 | (have z2 := h2.2.1; rw [show T - t - 1 = T - (t + 1) by omega] at z2; have z3 := (hI.2.1 (t + 1) (by omega) (by omega) (by omega) _ (by omega) (by omega)).mpr z2; omega)
                              · refine xv (x_aload_n 110 d_X8_findGoing_109 rfl rfl) ?_
                                refine xv (x_iload_n 111 d_X8_findGoing_110 rfl rfl) ?_
                                refine xv (x_iload 113 d_X8_findGoing_111 rfl rfl) ?_
                                refine xv (x_iload 115 d_X8_findGoing_113 rfl rfl) ?_
                                refine xv (x_iload 117 d_X8_findGoing_115 rfl rfl) ?_
                                refine xv (x_inv1 120 (as := [Value.int (zi r), Value.int (zi k), Value.int (zi (bes (M 1) k w)), Value.int (zi t)]) d_X8_findGoing_117 rfl c_8_127 rfl (Nat.le_of_ble_eq_true rfl) (Nat.le_of_ble_eq_true rfl) m_o (Nat.le_of_ble_eq_true rfl) (Nat.le_of_ble_eq_true rfl) rfl (S_X8_mayGo (E := E) (h := h) (am := am) (M := (uA M 6 G)) hR (by first | omega | (rw [show (uA M 6 G) 1 = (M 1) from rfl]; omega)) (by first | omega | (rw [show (uA M 6 G) 1 = (M 1) from rfl]; omega)) (by first | omega | (rw [show (uA M 6 G) 1 = (M 1) from rfl]; omega)) (by first | omega | (rw [show (uA M 6 G) 1 = (M 1) from rfl]; omega)) (by first | omega | (rw [show (uA M 6 G) 1 = (M 1) from rfl]; omega)) (by first | omega | (rw [show (uA M 6 G) 1 = (M 1) from rfl]; omega)) (by first | omega | (rw [show (uA M 6 G) 1 = (M 1) from rfl]; omega)) (by first | omega | (rw [show (uA M 6 G) 1 = (M 1) from rfl]; omega)))) ?_
                                show Xv E q_m_X8_findGoing 120 [Value.ref am, Value.int (zi r), Value.int (zi g), Value.int (zi T), Value.int (zi t), Value.int (zi k), Value.int (zi a), Value.int (zi w), Value.int (zi (bes (M 1) k w))] [Value.int (zi (bI (mgo (M 1) r k (bes (M 1) k w) t)))] (q_mw h am (uA M 6 G)) Q
                                refine v_if_eq 127 123 d_X8_findGoing_120 rfl rfl (by have := bI_r (mgo (M 1) r k (bes (M 1) k w) t); omega) (by have := bI_r (mgo (M 1) r k (bes (M 1) k w) t); omega) (fun k120 => ?_) (fun k120 => ?_)
                                · replace k120 := bI_0.mp k120
                                  refine xv (x_iconst 128 d_X8_findGoing_127 rfl) ?_
                                  refine xv (x_istore 130 d_X8_findGoing_128 rfl (Nat.le_of_ble_eq_true rfl)) ?_
                                  show Xv E q_m_X8_findGoing 130 [Value.ref am, Value.int (zi r), Value.int (zi g), Value.int (zi T), Value.int (zi t), Value.int (zi k), Value.int (zi 0), Value.int (zi w), Value.int (zi (bes (M 1) k w))] [] (q_mw h am (uA M 6 G)) Q
                                  refine xv (x_iinc 133 d_X8_findGoing_130 rfl rfl) ?_
                                  show Xv E q_m_X8_findGoing 133 [Value.ref am, Value.int (zi r), Value.int (zi g), Value.int (zi T), Value.int (zi t), Value.int (zi k), Value.int (zi 0), Value.int (zi (w + 1)), Value.int (zi (bes (M 1) k w))] [] (q_mw h am (uA M 6 G)) Q
                                  refine xv (x_goto 65 d_X8_findGoing_133 rfl) ?_
                                  refine ih65 _ (by omega) _ (w + 1) _ (by omega) (by omega) (by omega) ?_ rfl
                                  refine ⟨fun e => absurd e (by decide), fun ⟨u, h1, h2⟩ => ?_⟩
                                  exfalso
                                  rcases (by omega : u < w ∨ u = w) with z | z
                                  · have := ha.mpr ⟨u, ⟨h1.1, z⟩, h2⟩
                                    omega
                                  · rw [z] at h2
                                    first | exact absurd h2.1 (by omega) | exact k120 h2.2.2 | (have z2 := h2.2.1; rw [show T - t - 1 = T - (t + 1) by omega] at z2; have z3 := (hI.2.1 (t + 1) (by omega) (by omega) (by omega) _ (by omega) (by omega)).mpr z2; omega)
                                · replace k120 := bI_n0.mp k120
                                  refine xv (x_iconst 124 d_X8_findGoing_123 rfl) ?_
                                  refine xv (x_goto 128 d_X8_findGoing_124 rfl) ?_
                                  refine xv (x_istore 130 d_X8_findGoing_128 rfl (Nat.le_of_ble_eq_true rfl)) ?_
                                  show Xv E q_m_X8_findGoing 130 [Value.ref am, Value.int (zi r), Value.int (zi g), Value.int (zi T), Value.int (zi t), Value.int (zi k), Value.int (zi 1), Value.int (zi w), Value.int (zi (bes (M 1) k w))] [] (q_mw h am (uA M 6 G)) Q
                                  refine xv (x_iinc 133 d_X8_findGoing_130 rfl rfl) ?_
                                  show Xv E q_m_X8_findGoing 133 [Value.ref am, Value.int (zi r), Value.int (zi g), Value.int (zi T), Value.int (zi t), Value.int (zi k), Value.int (zi 1), Value.int (zi (w + 1)), Value.int (zi (bes (M 1) k w))] [] (q_mw h am (uA M 6 G)) Q
                                  refine xv (x_goto 65 d_X8_findGoing_133 rfl) ?_
                                  refine ih65 _ (by omega) _ (w + 1) _ (by omega) (by omega) (by omega) ?_ rfl
                                  first
                                  | exact ⟨fun _ => by obtain ⟨u, h1, h2⟩ := ha.mp (by omega); exact ⟨u, by omega, h2⟩, fun _ => rfl⟩
                                  | exact ⟨fun _ => ⟨w, by omega, by omega, (hI.2.1 (t + 1) (by omega) (by omega) (by omega) _ (by omega) (by omega)).mp (by omega) |> (fun z_ => by rw [show T - t - 1 = T - (t + 1) by omega]; exact z_), k120⟩, fun _ => rfl⟩
                    exact L65 _ 0 0 _ (by omega) (by omega) (by omega) ⟨fun e => absurd e (by decide), fun ⟨u, z1, z2⟩ => by omega⟩ rfl
              exact L50 _ 0 _ _ _ _ (by omega) (by omega) hI rfl
        have ek : k = 1488 := by omega
        rw [uM_uA, ek]
        exact L42 _ (T - 1) _ _ _ _ _ (by omega) (by omega) (go_0 gc hg hT) rfl
      · refine xv (x_aload_n 12 d_X8_findGoing_11 rfl rfl) ?_
        refine xv (x_getfield 15 d_X8_findGoing_12 rfl f_8_26 (Nat.le_of_ble_eq_true rfl) (Nat.le_of_ble_eq_true rfl) (q_gf_of m_o rfl)) ?_
        refine xv (x_iload 17 d_X8_findGoing_15 rfl rfl) ?_
        refine xv (x_iconst 18 d_X8_findGoing_17 rfl) ?_
        refine xv (x_bastore 19 d_X8_findGoing_18 rfl ((congrArg (q_sI _ 2 _ _) (show vp_nar .boolean (zi 0) = zi 0 from rfl)).trans (m_s6 (by omega) (by omega)))) ?_
        show Xv E q_m_X8_findGoing 19 [Value.ref am, Value.int (zi r), Value.int (zi g), Value.int (zi T), Value.int (zi k), Value.null, Value.null, Value.null, Value.null] [] (q_mw h am (uM (uA M 6 (zro (M 6) 0 k)) 6 k 0)) Q
        refine xv (x_iinc 22 d_X8_findGoing_19 rfl rfl) ?_
        show Xv E q_m_X8_findGoing 22 [Value.ref am, Value.int (zi r), Value.int (zi g), Value.int (zi T), Value.int (zi (k + 1)), Value.null, Value.null, Value.null, Value.null] [] (q_mw h am (uM (uA M 6 (zro (M 6) 0 k)) 6 k 0)) Q
        refine xv (x_goto 3 d_X8_findGoing_22 rfl) ?_
        have ez : u1 (zro (M 6) 0 k) k 0 = zro (M 6) 0 (k + 1) := by have z_ := @zro_s (M 6) 0 k k0; rw [Int.zero_add] at z_; exact z_
        rw [uM_uA, ez]
        exact ih3 _ (by omega) (k + 1) (by omega) (by omega) rfl
  have i0 := L3 _ 0 (by omega) (by omega) rfl
  rw [zro_0, uA_self] at i0
  exact i0
end RA5
