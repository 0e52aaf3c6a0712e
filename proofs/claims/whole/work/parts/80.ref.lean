/-! the reference: the plan's cells (printed by program) -/
section RA6
variable {E : q_E} {h : q_H} {am : Nat} {M M2 : q_Im} {l G P : Int → Int} {r g T t k w v c : Int}
noncomputable def nxd (l : Int → Int) (r g T t c : Int) : Int := fnd (gosE l r g T t c) 5 0
noncomputable def gpx (l : Int → Int) (r g T : Int) : Nat → Int
  | 0 => rb l r 0
  | n + 1 => bes l (gpx l r g T n) (nxd l r g T n (gpx l r g T n))
/-- the plan's cells, from the next tick on -/
noncomputable def gpP (l : Int → Int) (r g T : Int) (t : Int) : Int := gpx l r g T (t + 1).toNat
noncomputable def mvM (l : Int → Int) (r g T : Int) : Int := mvc (gpP l r g T) T.toNat 0 (rb l r 0) 0
theorem nxd_h (h0 : 0 ≤ w ∧ w ≤ 4) (hp : gosE l r g T t c w) (hn : ∀ u, 0 ≤ u → u < w → ¬ gosE l r g T t c u) : nxd l r g T t c = w := fnd_y (by omega) h0.1 (by omega) hp hn
theorem gpx_s (ht : 0 ≤ t) (hc : gpx l r g T t.toNat = c) (h0 : 0 ≤ w ∧ w ≤ 4) (hp : gosE l r g T t c w) (hn : ∀ u, 0 ≤ u → u < w → ¬ gosE l r g T t c u) : gpx l r g T (t + 1).toNat = bes l c w := by
  rw [show (t + 1).toNat = t.toNat + 1 by omega]
  show bes l (gpx l r g T t.toNat) (nxd l r g T (t.toNat : Nat) (gpx l r g T t.toNat)) = _
  rw [hc, Int.toNat_of_nonneg ht, nxd_h h0 hp hn]
theorem S_X8_findPath (hR : Rg (M 1)) {r g T : Int} (hr_ : isR (M 1) r) (hg : isC (M 1) g) (hT : 1 ≤ T ∧ T ≤ 30) (hG : gos (M 1) r g T T.toNat (rb (M 1) r 0)) : ∃ r_ h', q_cl E q_m_X8_findPath [Value.ref am, Value.int (zi r), Value.int (zi g), Value.int (zi T)] (q_mw h am M) = some (r_, h') ∧ ((r_ = .inl (some (.int (zi (mvM (M 1) r g T)))) ∧ (0 ≤ mvM (M 1) r g T ∧ mvM (M 1) r g T ≤ 30)) ∧ ∃ G P, h' = q_mw h am (uA (uA M 6 G) 7 P) ∧ ∀ i, 0 ≤ i → i < T → P i = gpP (M 1) r g T i) := by
  suffices K : ∀ Q : q_R → q_H → Prop, (∀ r_ h', ((r_ = .inl (some (.int (zi (mvM (M 1) r g T)))) ∧ (0 ≤ mvM (M 1) r g T ∧ mvM (M 1) r g T ≤ 30)) ∧ ∃ G P, h' = q_mw h am (uA (uA M 6 G) 7 P) ∧ ∀ i, 0 ≤ i → i < T → P i = gpP (M 1) r g T i) → Q r_ h') → Xv E q_m_X8_findPath 0 [Value.ref am, Value.int (zi r), Value.int (zi g), Value.int (zi T), Value.null, Value.null, Value.null, Value.null, Value.null] [] (q_mw h am M) Q from K _ fun _ _ p => p
  intro Q hQ
  have hR0 := hR
  obtain ⟨hr, g0, g1, g3, g4, gc, g5, g6, g7, gk, gl, gr, go⟩ := hR0
  have gq := gr r hr_.1 hr_.2
  refine xv (x_aload_n 1 d_X8_findPath_0 rfl rfl) ?_
  refine xv (x_iload_n 2 d_X8_findPath_1 rfl rfl) ?_
  refine xv (x_iload_n 3 d_X8_findPath_2 rfl rfl) ?_
  refine xv (x_iload_n 4 d_X8_findPath_3 rfl rfl) ?_
  obtain ⟨r4, h4, e4, z4, G, y4, gI, gJ⟩ := S_X8_findGoing (E := E) (h := h) (am := am) (M := M) (r := r) (g := g) (T := T) hR hr_ hg hT
  subst z4
  subst y4
  refine xv (x_inv0 7 (as := [Value.int (zi r), Value.int (zi g), Value.int (zi T)]) d_X8_findPath_4 rfl c_8_138 rfl (Nat.le_of_ble_eq_true rfl) (Nat.le_of_ble_eq_true rfl) m_o (Nat.le_of_ble_eq_true rfl) (Nat.le_of_ble_eq_true rfl) rfl e4) ?_
  show Xv E q_m_X8_findPath 7 [Value.ref am, Value.int (zi r), Value.int (zi g), Value.int (zi T), Value.null, Value.null, Value.null, Value.null, Value.null] [] (q_mw h am (uA M 6 G)) Q
  refine xv (x_aload_n 8 d_X8_findPath_7 rfl rfl) ?_
  refine xv (x_iload_n 9 d_X8_findPath_8 rfl rfl) ?_
  refine xv (x_iconst 10 d_X8_findPath_9 rfl) ?_
  refine xv (x_inv1 13 (as := [Value.int (zi r), Value.int (zi 0)]) d_X8_findPath_10 rfl c_8_79 rfl (Nat.le_of_ble_eq_true rfl) (Nat.le_of_ble_eq_true rfl) m_o (Nat.le_of_ble_eq_true rfl) (Nat.le_of_ble_eq_true rfl) rfl (S_X8_of (E := E) (h := h) (am := am) (M := (uA M 6 G)) hR (by first | omega | (rw [show (uA M 6 G) 1 = (M 1) from rfl]; omega)) (by first | omega | (rw [show (uA M 6 G) 1 = (M 1) from rfl]; omega)) (by first | omega | (rw [show (uA M 6 G) 1 = (M 1) from rfl]; omega)) (by first | omega | (rw [show (uA M 6 G) 1 = (M 1) from rfl]; omega)))) ?_
  have q_1 : -1000000 ≤ rb (M 1) r 0 ∧ rb (M 1) r 0 ≤ 1000000 := hr _
  show Xv E q_m_X8_findPath 13 [Value.ref am, Value.int (zi r), Value.int (zi g), Value.int (zi T), Value.null, Value.null, Value.null, Value.null, Value.null] [Value.int (zi (rb (M 1) r 0))] (q_mw h am (uA M 6 G)) Q
  refine xv (x_istore 15 d_X8_findPath_13 rfl (Nat.le_of_ble_eq_true rfl)) ?_
  show Xv E q_m_X8_findPath 15 [Value.ref am, Value.int (zi r), Value.int (zi g), Value.int (zi T), Value.int (zi (rb (M 1) r 0)), Value.null, Value.null, Value.null, Value.null] [] (q_mw h am (uA M 6 G)) Q
  refine xv (x_iconst 16 d_X8_findPath_15 rfl) ?_
  refine xv (x_istore 18 d_X8_findPath_16 rfl (Nat.le_of_ble_eq_true rfl)) ?_
  show Xv E q_m_X8_findPath 18 [Value.ref am, Value.int (zi r), Value.int (zi g), Value.int (zi T), Value.int (zi (rb (M 1) r 0)), Value.int (zi 0), Value.null, Value.null, Value.null] [] (q_mw h am (uA M 6 G)) Q
  refine xv (x_iconst 19 d_X8_findPath_18 rfl) ?_
  refine xv (x_istore 21 d_X8_findPath_19 rfl (Nat.le_of_ble_eq_true rfl)) ?_
  show Xv E q_m_X8_findPath 21 [Value.ref am, Value.int (zi r), Value.int (zi g), Value.int (zi T), Value.int (zi (rb (M 1) r 0)), Value.int (zi 0), Value.int (zi 0), Value.null, Value.null] [] (q_mw h am (uA M 6 G)) Q
  have L21 : ∀ (n_ : Nat) (t : Int) (c : Int) (m : Int) (P : Int → Int) (x7 : Value) (x8 : Value), (0 ≤ t) → (t ≤ T) → (0 ≤ m ∧ m ≤ t) → (gpx (M 1) r g T t.toNat = c) → (gos (M 1) r g T (T - t).toNat c) → (∀ i, 0 ≤ i → i < t → P i = gpP (M 1) r g T i) → (mvM (M 1) r g T = mvc (gpP (M 1) r g T) (T - t).toNat t c m) → (T - t).toNat = n_ → Xv E q_m_X8_findPath 21 [Value.ref am, Value.int (zi r), Value.int (zi g), Value.int (zi T), Value.int (zi c), Value.int (zi m), Value.int (zi t), x7, x8] [] (q_mw h am (uA (uA M 6 G) 7 P)) Q := by
    intro n_
    induction n_ using Nat.strongRecOn with
    | _ n_ ih21 =>
      intro t c m P x7 x8 t0 t1 m0 hc hG hP hv em
      have cC := gos_c hg hG
      refine xv (x_iload 23 d_X8_findPath_21 rfl rfl) ?_
      refine xv (x_iload_n 24 d_X8_findPath_23 rfl rfl) ?_
      refine v_icmp_ge 129 27 d_X8_findPath_24 rfl rfl (by omega) (by omega) (by omega) (by omega) (fun k24 => ?_) (fun k24 => ?_)
      · refine xv (x_iload 131 d_X8_findPath_129 rfl rfl) ?_
        refine xv_r (x_ireturn d_X8_findPath_131 rfl rfl) ?_
        have et : t = T := by omega
        have ev : mvM (M 1) r g T = m := hv.trans (mvc_e (by omega))
        exact hQ _ _ ⟨⟨by rw [ev], by omega⟩, _, _, rfl, fun i a b => hP i a (by omega)⟩
      · obtain ⟨u0, z1, z2⟩ := ((gos_s t0 (by omega)).mp hG).2.1
        refine xv (x_iconst 28 d_X8_findPath_27 rfl) ?_
        refine xv (x_istore 30 d_X8_findPath_28 rfl (Nat.le_of_ble_eq_true rfl)) ?_
        show Xv E q_m_X8_findPath 30 [Value.ref am, Value.int (zi r), Value.int (zi g), Value.int (zi T), Value.int (zi c), Value.int (zi m), Value.int (zi t), Value.int (zi 0), x8] [] (q_mw h am (uA (uA M 6 G) 7 P)) Q
        refine xv (x_aload_n 31 d_X8_findPath_30 rfl rfl) ?_
        refine xv (x_iload 33 d_X8_findPath_31 rfl rfl) ?_
        refine xv (x_iload 35 d_X8_findPath_33 rfl rfl) ?_
        refine xv (x_inv1 38 (as := [Value.int (zi c), Value.int (zi 0)]) d_X8_findPath_35 rfl c_8_124 rfl (Nat.le_of_ble_eq_true rfl) (Nat.le_of_ble_eq_true rfl) m_o (Nat.le_of_ble_eq_true rfl) (Nat.le_of_ble_eq_true rfl) rfl (S_X8_beside (E := E) (h := h) (am := am) (M := (uA (uA M 6 G) 7 P)) hR (by first | omega | (rw [show (uA (uA M 6 G) 7 P) 1 = (M 1) from rfl]; omega)) (by first | omega | (rw [show (uA (uA M 6 G) 7 P) 1 = (M 1) from rfl]; omega)) (by first | omega | (rw [show (uA (uA M 6 G) 7 P) 1 = (M 1) from rfl]; omega)))) ?_
        have q_2 := bes_r hR (c := c) (w := 0) (by omega)
        show Xv E q_m_X8_findPath 38 [Value.ref am, Value.int (zi r), Value.int (zi g), Value.int (zi T), Value.int (zi c), Value.int (zi m), Value.int (zi t), Value.int (zi 0), x8] [Value.int (zi (bes (M 1) c 0))] (q_mw h am (uA (uA M 6 G) 7 P)) Q
        refine xv (x_istore 40 d_X8_findPath_38 rfl (Nat.le_of_ble_eq_true rfl)) ?_
        show Xv E q_m_X8_findPath 40 [Value.ref am, Value.int (zi r), Value.int (zi g), Value.int (zi T), Value.int (zi c), Value.int (zi m), Value.int (zi t), Value.int (zi 0), Value.int (zi (bes (M 1) c 0))] [] (q_mw h am (uA (uA M 6 G) 7 P)) Q
        have L40 : ∀ (n_ : Nat) (w : Int), (0 ≤ w) → (w ≤ 4) → (∀ u, 0 ≤ u → u < w → ¬ gosE (M 1) r g T t c u) → (5 - w).toNat = n_ → Xv E q_m_X8_findPath 40 [Value.ref am, Value.int (zi r), Value.int (zi g), Value.int (zi T), Value.int (zi c), Value.int (zi m), Value.int (zi t), Value.int (zi w), Value.int (zi (bes (M 1) c w))] [] (q_mw h am (uA (uA M 6 G) 7 P)) Q := by
          intro n_
          induction n_ using Nat.strongRecOn with
          | _ n_ ih40 =>
            intro w w0 w1 hn em
            have qb := bes_r hR (c := c) (w := w) cC
            refine xv (x_iload 42 d_X8_findPath_40 rfl rfl) ?_
            refine v_if_lt 77 45 d_X8_findPath_42 rfl rfl (by omega) (by omega) (fun k42 => ?_) (fun k42 => ?_)
            · have hno : ¬ gosE (M 1) r g T t c w := by
                exact fun z_ => by first | exact absurd z_.1 (by omega) | exact k74 z_.2.2 | (have z2 := z_.2.1; rw [show T - t - 1 = T - (t + 1) by omega] at z2; have z3 := (gJ (t + 1) (by omega) (by omega) _ (by omega) (by omega)).mpr z2; omega)
              have hw5 : w + 1 ≤ 4 := by
                by_cases z3 : u0 ≤ w
                · rcases (by omega : u0 < w ∨ u0 = w) with z4 | z4
                  · exact absurd z2 (hn u0 z1.1 z4)
                  · exact absurd (z4 ▸ z2) hno
                · omega
              refine xv (x_iinc 80 d_X8_findPath_77 rfl rfl) ?_
              show Xv E q_m_X8_findPath 80 [Value.ref am, Value.int (zi r), Value.int (zi g), Value.int (zi T), Value.int (zi c), Value.int (zi m), Value.int (zi t), Value.int (zi (w + 1)), Value.int (zi (bes (M 1) c w))] [] (q_mw h am (uA (uA M 6 G) 7 P)) Q
              refine xv (x_aload_n 81 d_X8_findPath_80 rfl rfl) ?_
              refine xv (x_iload 83 d_X8_findPath_81 rfl rfl) ?_
              refine xv (x_iload 85 d_X8_findPath_83 rfl rfl) ?_
              refine xv (x_inv1 88 (as := [Value.int (zi c), Value.int (zi (w + 1))]) d_X8_findPath_85 rfl c_8_124 rfl (Nat.le_of_ble_eq_true rfl) (Nat.le_of_ble_eq_true rfl) m_o (Nat.le_of_ble_eq_true rfl) (Nat.le_of_ble_eq_true rfl) rfl (S_X8_beside (E := E) (h := h) (am := am) (M := (uA (uA M 6 G) 7 P)) hR (by first | omega | (rw [show (uA (uA M 6 G) 7 P) 1 = (M 1) from rfl]; omega)) (by first | omega | (rw [show (uA (uA M 6 G) 7 P) 1 = (M 1) from rfl]; omega)) (by first | omega | (rw [show (uA (uA M 6 G) 7 P) 1 = (M 1) from rfl]; omega)))) ?_
              have q_3 := bes_r hR (c := c) (w := (w + 1)) (by omega)
              show Xv E q_m_X8_findPath 88 [Value.ref am, Value.int (zi r), Value.int (zi g), Value.int (zi T), Value.int (zi c), Value.int (zi m), Value.int (zi t), Value.int (zi (w + 1)), Value.int (zi (bes (M 1) c w))] [Value.int (zi (bes (M 1) c (w + 1)))] (q_mw h am (uA (uA M 6 G) 7 P)) Q
              refine xv (x_istore 90 d_X8_findPath_88 rfl (Nat.le_of_ble_eq_true rfl)) ?_
              show Xv E q_m_X8_findPath 90 [Value.ref am, Value.int (zi r), Value.int (zi g), Value.int (zi T), Value.int (zi c), Value.int (zi m), Value.int (zi t), Value.int (zi (w + 1)), Value.int (zi (bes (M 1) c (w + 1)))] [] (q_mw h am (uA (uA M 6 G) 7 P)) Q
              refine xv (x_goto 40 d_X8_findPath_90 rfl) ?_
              refine ih40 _ (by omega) (w + 1) (by omega) (by omega) (fun u a b => ?_) rfl
              by_cases z : u = w
              · rw [z]; exact hno
              · exact hn u a (by omega)
            · refine xv (x_aload_n 46 d_X8_findPath_45 rfl rfl) ?_
              refine xv (x_getfield 49 d_X8_findPath_46 rfl f_8_26 (Nat.le_of_ble_eq_true rfl) (Nat.le_of_ble_eq_true rfl) (q_gf_of m_o rfl)) ?_
              refine xv (x_bipush 51 d_X8_findPath_49 rfl rfl) ?_
              refine xv (x_iload 53 d_X8_findPath_51 rfl rfl) ?_
              refine xv (x_iconst 54 d_X8_findPath_53 rfl) ?_
              refine xv (x_iadd 55 d_X8_findPath_54 rfl) ?_
              refine xv (x_imul 56 d_X8_findPath_55 rfl) ?_
              refine xv (x_iload 58 d_X8_findPath_56 rfl rfl) ?_
              refine xv (x_iadd 59 d_X8_findPath_58 rfl) ?_
              refine xv (x_baload 60 d_X8_findPath_59 rfl ((m_g6 (by omega) (by omega)).trans (rfl : _ = some (Value.int (zi (G ((48 * (t + 1)) + (bes (M 1) c w)))))))) ?_
              have q59 := gI ((48 * (t + 1)) + (bes (M 1) c w)) (by omega) (by omega)
              refine v_if_eq 77 63 d_X8_findPath_60 rfl rfl (by omega) (by omega) (fun k60 => ?_) (fun k60 => ?_)
              · have hno : ¬ gosE (M 1) r g T t c w := by
                  exact fun z_ => by first | exact absurd z_.1 (by omega) | exact k74 z_.2.2 | (have z2 := z_.2.1; rw [show T - t - 1 = T - (t + 1) by omega] at z2; have z3 := (gJ (t + 1) (by omega) (by omega) _ (by omega) (by omega)).mpr z2; omega)
                have hw5 : w + 1 ≤ 4 := by
                  by_cases z3 : u0 ≤ w
                  · rcases (by omega : u0 < w ∨ u0 = w) with z4 | z4
                    · exact absurd z2 (hn u0 z1.1 z4)
                    · exact absurd (z4 ▸ z2) hno
                  · omega
                refine xv (x_iinc 80 d_X8_findPath_77 rfl rfl) ?_
                show Xv E q_m_X8_findPath 80 [Value.ref am, Value.int (zi r), Value.int (zi g), Value.int (zi T), Value.int (zi c), Value.int (zi m), Value.int (zi t), Value.int (zi (w + 1)), Value.int (zi (bes (M 1) c w))] [] (q_mw h am (uA (uA M 6 G) 7 P)) Q
                refine xv (x_aload_n 81 d_X8_findPath_80 rfl rfl) ?_
                refine xv (x_iload 83 d_X8_findPath_81 rfl rfl) ?_
                refine xv (x_iload 85 d_X8_findPath_83 rfl rfl) ?_
                refine xv (x_inv1 88 (as := [Value.int (zi c), Value.int (zi (w + 1))]) d_X8_findPath_85 rfl c_8_124 rfl (Nat.le_of_ble_eq_true rfl) (Nat.le_of_ble_eq_true rfl) m_o (Nat.le_of_ble_eq_true rfl) (Nat.le_of_ble_eq_true rfl) rfl (S_X8_beside (E := E) (h := h) (am := am) (M := (uA (uA M 6 G) 7 P)) hR (by first | omega | (rw [show (uA (uA M 6 G) 7 P) 1 = (M 1) from rfl]; omega)) (by first | omega | (rw [show (uA (uA M 6 G) 7 P) 1 = (M 1) from rfl]; omega)) (by first | omega | (rw [show (uA (uA M 6 G) 7 P) 1 = (M 1) from rfl]; omega)))) ?_
                have q_4 := bes_r hR (c := c) (w := (w + 1)) (by omega)
                show Xv E q_m_X8_findPath 88 [Value.ref am, Value.int (zi r), Value.int (zi g), Value.int (zi T), Value.int (zi c), Value.int (zi m), Value.int (zi t), Value.int (zi (w + 1)), Value.int (zi (bes (M 1) c w))] [Value.int (zi (bes (M 1) c (w + 1)))] (q_mw h am (uA (uA M 6 G) 7 P)) Q
                refine xv (x_istore 90 d_X8_findPath_88 rfl (Nat.le_of_ble_eq_true rfl)) ?_
                show Xv E q_m_X8_findPath 90 [Value.ref am, Value.int (zi r), Value.int (zi g), Value.int (zi T), Value.int (zi c), Value.int (zi m), Value.int (zi t), Value.int (zi (w + 1)), Value.int (zi (bes (M 1) c (w + 1)))] [] (q_mw h am (uA (uA M 6 G) 7 P)) Q
                refine xv (x_goto 40 d_X8_findPath_90 rfl) ?_
                refine ih40 _ (by omega) (w + 1) (by omega) (by omega) (fun u a b => ?_) rfl
                by_cases z : u = w
                · rw [z]; exact hno
                · exact hn u a (by omega)
              · refine xv (x_aload_n 64 d_X8_findPath_63 rfl rfl) ?_
                refine xv (x_iload_n 65 d_X8_findPath_64 rfl rfl) ?_
                refine xv (x_iload 67 d_X8_findPath_65 rfl rfl) ?_
                refine xv (x_iload 69 d_X8_findPath_67 rfl rfl) ?_
                refine xv (x_iload 71 d_X8_findPath_69 rfl rfl) ?_
                refine xv (x_inv1 74 (as := [Value.int (zi r), Value.int (zi c), Value.int (zi (bes (M 1) c w)), Value.int (zi t)]) d_X8_findPath_71 rfl c_8_127 rfl (Nat.le_of_ble_eq_true rfl) (Nat.le_of_ble_eq_true rfl) m_o (Nat.le_of_ble_eq_true rfl) (Nat.le_of_ble_eq_true rfl) rfl (S_X8_mayGo (E := E) (h := h) (am := am) (M := (uA (uA M 6 G) 7 P)) hR (by first | omega | (rw [show (uA (uA M 6 G) 7 P) 1 = (M 1) from rfl]; omega)) (by first | omega | (rw [show (uA (uA M 6 G) 7 P) 1 = (M 1) from rfl]; omega)) (by first | omega | (rw [show (uA (uA M 6 G) 7 P) 1 = (M 1) from rfl]; omega)) (by first | omega | (rw [show (uA (uA M 6 G) 7 P) 1 = (M 1) from rfl]; omega)) (by first | omega | (rw [show (uA (uA M 6 G) 7 P) 1 = (M 1) from rfl]; omega)) (by first | omega | (rw [show (uA (uA M 6 G) 7 P) 1 = (M 1) from rfl]; omega)) (by first | omega | (rw [show (uA (uA M 6 G) 7 P) 1 = (M 1) from rfl]; omega)) (by first | omega | (rw [show (uA (uA M 6 G) 7 P) 1 = (M 1) from rfl]; omega)))) ?_
                show Xv E q_m_X8_findPath 74 [Value.ref am, Value.int (zi r), Value.int (zi g), Value.int (zi T), Value.int (zi c), Value.int (zi m), Value.int (zi t), Value.int (zi w), Value.int (zi (bes (M 1) c w))] [Value.int (zi (bI (mgo (M 1) r c (bes (M 1) c w) t)))] (q_mw h am (uA (uA M 6 G) 7 P)) Q
                refine v_if_ne 93 77 d_X8_findPath_74 rfl rfl (by have := bI_r (mgo (M 1) r c (bes (M 1) c w) t); omega) (by have := bI_r (mgo (M 1) r c (bes (M 1) c w) t); omega) (fun k74 => ?_) (fun k74 => ?_)
                · replace k74 := bI_n0.mp k74
                  refine xv (x_iload 95 d_X8_findPath_93 rfl rfl) ?_
                  refine xv (x_iload 97 d_X8_findPath_95 rfl rfl) ?_
                  refine xv (x_iload 99 d_X8_findPath_97 rfl rfl) ?_
                  refine v_icmp_ne 106 102 d_X8_findPath_99 rfl rfl (by omega) (by omega) (by omega) (by omega) (fun k99 => ?_) (fun k99 => ?_)
                  · refine xv (x_iconst 107 d_X8_findPath_106 rfl) ?_
                    refine xv (x_iadd 108 d_X8_findPath_107 rfl) ?_
                    refine xv (x_istore 110 d_X8_findPath_108 rfl (Nat.le_of_ble_eq_true rfl)) ?_
                    show Xv E q_m_X8_findPath 110 [Value.ref am, Value.int (zi r), Value.int (zi g), Value.int (zi T), Value.int (zi c), Value.int (zi (m + 1)), Value.int (zi t), Value.int (zi w), Value.int (zi (bes (M 1) c w))] [] (q_mw h am (uA (uA M 6 G) 7 P)) Q
                    refine xv (x_aload_n 111 d_X8_findPath_110 rfl rfl) ?_
                    refine xv (x_getfield 114 d_X8_findPath_111 rfl f_8_29 (Nat.le_of_ble_eq_true rfl) (Nat.le_of_ble_eq_true rfl) (q_gf_of m_o rfl)) ?_
                    refine xv (x_iload 116 d_X8_findPath_114 rfl rfl) ?_
                    refine xv (x_iload 118 d_X8_findPath_116 rfl rfl) ?_
                    refine xv (x_iastore 119 d_X8_findPath_118 rfl (m_s7 (by omega) (by omega))) ?_
                    show Xv E q_m_X8_findPath 119 [Value.ref am, Value.int (zi r), Value.int (zi g), Value.int (zi T), Value.int (zi c), Value.int (zi (m + 1)), Value.int (zi t), Value.int (zi w), Value.int (zi (bes (M 1) c w))] [] (q_mw h am (uM (uA (uA M 6 G) 7 P) 7 t (bes (M 1) c w))) Q
                    refine xv (x_iload 121 d_X8_findPath_119 rfl rfl) ?_
                    refine xv (x_istore 123 d_X8_findPath_121 rfl (Nat.le_of_ble_eq_true rfl)) ?_
                    show Xv E q_m_X8_findPath 123 [Value.ref am, Value.int (zi r), Value.int (zi g), Value.int (zi T), Value.int (zi (bes (M 1) c w)), Value.int (zi (m + 1)), Value.int (zi t), Value.int (zi w), Value.int (zi (bes (M 1) c w))] [] (q_mw h am (uM (uA (uA M 6 G) 7 P) 7 t (bes (M 1) c w))) Q
                    refine xv (x_iinc 126 d_X8_findPath_123 rfl rfl) ?_
                    show Xv E q_m_X8_findPath 126 [Value.ref am, Value.int (zi r), Value.int (zi g), Value.int (zi T), Value.int (zi (bes (M 1) c w)), Value.int (zi (m + 1)), Value.int (zi (t + 1)), Value.int (zi w), Value.int (zi (bes (M 1) c w))] [] (q_mw h am (uM (uA (uA M 6 G) 7 P) 7 t (bes (M 1) c w))) Q
                    refine xv (x_goto 21 d_X8_findPath_126 rfl) ?_
                    have hp : gosE (M 1) r g T t c w := ⟨by omega, by have z2 := (gJ (t + 1) (by omega) (by omega) (bes (M 1) c w) (by omega) (by omega)).mp (by omega); rw [show T - t - 1 = T - (t + 1) by omega]; exact z2, k74⟩
                    have hs := gpx_s t0 hc ⟨w0, w1⟩ hp hn
                    have hq : gpP (M 1) r g T t = bes (M 1) c w := hs
                    rw [uM_uA]
                    refine ih21 _ (by omega) (t + 1) (bes (M 1) c w) _ _ _ _ (by omega) (by omega) (by omega) hs (by rw [show T - (t + 1) = T - t - 1 by omega]; exact hp.2.1) (fun i a b => ?_) (hv.trans ((mvc_b (by omega)).trans ?_)) rfl
                    · by_cases z : i = t
                      · rw [z, u1_eq]; exact hq.symm
                      · rw [u1_ne z]; exact hP i a (by omega)
                    · rw [hq]
                      congr 1
                      split <;> omega
                  · refine xv (x_iconst 103 d_X8_findPath_102 rfl) ?_
                    refine xv (x_goto 107 d_X8_findPath_103 rfl) ?_
                    refine xv (x_iadd 108 d_X8_findPath_107 rfl) ?_
                    refine xv (x_istore 110 d_X8_findPath_108 rfl (Nat.le_of_ble_eq_true rfl)) ?_
                    show Xv E q_m_X8_findPath 110 [Value.ref am, Value.int (zi r), Value.int (zi g), Value.int (zi T), Value.int (zi c), Value.int (zi (m + 0)), Value.int (zi t), Value.int (zi w), Value.int (zi (bes (M 1) c w))] [] (q_mw h am (uA (uA M 6 G) 7 P)) Q
                    refine xv (x_aload_n 111 d_X8_findPath_110 rfl rfl) ?_
                    refine xv (x_getfield 114 d_X8_findPath_111 rfl f_8_29 (Nat.le_of_ble_eq_true rfl) (Nat.le_of_ble_eq_true rfl) (q_gf_of m_o rfl)) ?_
                    refine xv (x_iload 116 d_X8_findPath_114 rfl rfl) ?_
                    refine xv (x_iload 118 d_X8_findPath_116 rfl rfl) ?_
                    refine xv (x_iastore 119 d_X8_findPath_118 rfl (m_s7 (by omega) (by omega))) ?_
                    show Xv E q_m_X8_findPath 119 [Value.ref am, Value.int (zi r), Value.int (zi g), Value.int (zi T), Value.int (zi c), Value.int (zi (m + 0)), Value.int (zi t), Value.int (zi w), Value.int (zi (bes (M 1) c w))] [] (q_mw h am (uM (uA (uA M 6 G) 7 P) 7 t (bes (M 1) c w))) Q
                    refine xv (x_iload 121 d_X8_findPath_119 rfl rfl) ?_
                    refine xv (x_istore 123 d_X8_findPath_121 rfl (Nat.le_of_ble_eq_true rfl)) ?_
                    show Xv E q_m_X8_findPath 123 [Value.ref am, Value.int (zi r), Value.int (zi g), Value.int (zi T), Value.int (zi (bes (M 1) c w)), Value.int (zi (m + 0)), Value.int (zi t), Value.int (zi w), Value.int (zi (bes (M 1) c w))] [] (q_mw h am (uM (uA (uA M 6 G) 7 P) 7 t (bes (M 1) c w))) Q
                    refine xv (x_iinc 126 d_X8_findPath_123 rfl rfl) ?_
                    show Xv E q_m_X8_findPath 126 [Value.ref am, Value.int (zi r), Value.int (zi g), Value.int (zi T), Value.int (zi (bes (M 1) c w)), Value.int (zi (m + 0)), Value.int (zi (t + 1)), Value.int (zi w), Value.int (zi (bes (M 1) c w))] [] (q_mw h am (uM (uA (uA M 6 G) 7 P) 7 t (bes (M 1) c w))) Q
                    refine xv (x_goto 21 d_X8_findPath_126 rfl) ?_
                    have hp : gosE (M 1) r g T t c w := ⟨by omega, by have z2 := (gJ (t + 1) (by omega) (by omega) (bes (M 1) c w) (by omega) (by omega)).mp (by omega); rw [show T - t - 1 = T - (t + 1) by omega]; exact z2, k74⟩
                    have hs := gpx_s t0 hc ⟨w0, w1⟩ hp hn
                    have hq : gpP (M 1) r g T t = bes (M 1) c w := hs
                    rw [uM_uA]
                    refine ih21 _ (by omega) (t + 1) (bes (M 1) c w) _ _ _ _ (by omega) (by omega) (by omega) hs (by rw [show T - (t + 1) = T - t - 1 by omega]; exact hp.2.1) (fun i a b => ?_) (hv.trans ((mvc_b (by omega)).trans ?_)) rfl
                    · by_cases z : i = t
                      · rw [z, u1_eq]; exact hq.symm
                      · rw [u1_ne z]; exact hP i a (by omega)
                    · rw [hq]
                      congr 1
                      split <;> omega
                · replace k74 := bI_0.mp k74
                  have hno : ¬ gosE (M 1) r g T t c w := by
                    exact fun z_ => by first | exact absurd z_.1 (by omega) | exact k74 z_.2.2 | (have z2 := z_.2.1; rw [show T - t - 1 = T - (t + 1) by omega] at z2; have z3 := (gJ (t + 1) (by omega) (by omega) _ (by omega) (by omega)).mpr z2; omega)
                  have hw5 : w + 1 ≤ 4 := by
                    by_cases z3 : u0 ≤ w
                    · rcases (by omega : u0 < w ∨ u0 = w) with z4 | z4
                      · exact absurd z2 (hn u0 z1.1 z4)
                      · exact absurd (z4 ▸ z2) hno
                    · omega
                  refine xv (x_iinc 80 d_X8_findPath_77 rfl rfl) ?_
                  show Xv E q_m_X8_findPath 80 [Value.ref am, Value.int (zi r), Value.int (zi g), Value.int (zi T), Value.int (zi c), Value.int (zi m), Value.int (zi t), Value.int (zi (w + 1)), Value.int (zi (bes (M 1) c w))] [] (q_mw h am (uA (uA M 6 G) 7 P)) Q
                  refine xv (x_aload_n 81 d_X8_findPath_80 rfl rfl) ?_
                  refine xv (x_iload 83 d_X8_findPath_81 rfl rfl) ?_
                  refine xv (x_iload 85 d_X8_findPath_83 rfl rfl) ?_
                  refine xv (x_inv1 88 (as := [Value.int (zi c), Value.int (zi (w + 1))]) d_X8_findPath_85 rfl c_8_124 rfl (Nat.le_of_ble_eq_true rfl) (Nat.le_of_ble_eq_true rfl) m_o (Nat.le_of_ble_eq_true rfl) (Nat.le_of_ble_eq_true rfl) rfl (S_X8_beside (E := E) (h := h) (am := am) (M := (uA (uA M 6 G) 7 P)) hR (by first | omega | (rw [show (uA (uA M 6 G) 7 P) 1 = (M 1) from rfl]; omega)) (by first | omega | (rw [show (uA (uA M 6 G) 7 P) 1 = (M 1) from rfl]; omega)) (by first | omega | (rw [show (uA (uA M 6 G) 7 P) 1 = (M 1) from rfl]; omega)))) ?_
                  have q_5 := bes_r hR (c := c) (w := (w + 1)) (by omega)
                  show Xv E q_m_X8_findPath 88 [Value.ref am, Value.int (zi r), Value.int (zi g), Value.int (zi T), Value.int (zi c), Value.int (zi m), Value.int (zi t), Value.int (zi (w + 1)), Value.int (zi (bes (M 1) c w))] [Value.int (zi (bes (M 1) c (w + 1)))] (q_mw h am (uA (uA M 6 G) 7 P)) Q
                  refine xv (x_istore 90 d_X8_findPath_88 rfl (Nat.le_of_ble_eq_true rfl)) ?_
                  show Xv E q_m_X8_findPath 90 [Value.ref am, Value.int (zi r), Value.int (zi g), Value.int (zi T), Value.int (zi c), Value.int (zi m), Value.int (zi t), Value.int (zi (w + 1)), Value.int (zi (bes (M 1) c (w + 1)))] [] (q_mw h am (uA (uA M 6 G) 7 P)) Q
                  refine xv (x_goto 40 d_X8_findPath_90 rfl) ?_
                  refine ih40 _ (by omega) (w + 1) (by omega) (by omega) (fun u a b => ?_) rfl
                  by_cases z : u = w
                  · rw [z]; exact hno
                  · exact hn u a (by omega)
        exact L40 _ 0 (by omega) (by omega) (fun u a b => by omega) rfl
  have i0 := fun x7 x8 => L21 _ 0 (rb (M 1) r 0) 0 (M 7) x7 x8 (by omega) (by omega) (by omega) rfl (by rw [Int.sub_zero]; exact hG) (fun i a b => by omega) (by rw [Int.sub_zero]; rfl) rfl
  rw [show uA (uA M 6 G) 7 (M 7) = uA M 6 G from uA_self] at i0
  exact i0 _ _
end RA6
