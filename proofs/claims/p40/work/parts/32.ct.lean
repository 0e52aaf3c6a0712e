/-! the class's warehouse: copies, a tick (printed by program) -/
section CT
variable {E : q_E} {h : q_H} {w v a b : Nat} {l lo f g : Int → Int} {p p2 : Int → Nat}
theorem lc_rgc {l lo : Int → Int} (hR : RgC lo) (hL : Lc l lo) : RgC l := by
  obtain ⟨g0, g1, g2, g3, g4, gc, g5, g6, g7, gk, gl, gr, go⟩ := hR
  obtain ⟨a1, a2, a3⟩ := hL
  have ec : cs l = cs lo := by unfold cs; rw [a1 0 (by omega) (by omega), a1 1 (by omega) (by omega)]
  unfold RgC
  rw [ec, a1 0 (by omega) (by omega), a1 1 (by omega) (by omega), a1 2 (by omega) (by omega), a1 3 (by omega) (by omega), a1 4 (by omega) (by omega), a1 5 (by omega) (by omega), a1 6 (by omega) (by omega), a1 7 (by omega) (by omega)]
  refine ⟨g0, g1, g2, g3, g4, gc, g5, g6, g7, fun k a b => by rw [a1 _ (by omega) (by omega)]; exact gk k a b, fun k a b => by rw [a1 _ (by omega) (by omega)]; exact gl k a b, fun r a b => ?_, fun o a b => ?_⟩
  · unfold Rf
    rw [a2 r a b 0 (by omega) (by omega), a2 r a b 1 (by omega) (by omega), a2 r a b 2 (by omega) (by omega), a2 r a b 3 (by omega) (by omega), a2 r a b 4 (by omega) (by omega), a2 r a b 5 (by omega) (by omega)]
    obtain ⟨q0, q1, q2, q3, q4, q5, q6⟩ := gr r a b
    exact ⟨q0, q1, q2, q3, q4, q5, fun t c d => by rw [a2 r a b _ (by omega) (by omega)]; exact q6 t c d⟩
  · unfold Of
    rw [a3 o a b 0 (by omega) (by omega), a3 o a b 1 (by omega) (by omega), a3 o a b 2 (by omega) (by omega), a3 o a b 4 (by omega) (by omega)]
    obtain ⟨q0, q1, q2, q4, q5, q6⟩ := go o a b
    exact ⟨q0, q1, q2, q4, fun t c d => by rw [a3 o a b _ (by omega) (by omega)]; exact q5 t c d, fun t c d => by rw [a3 o a b _ (by omega) (by omega)]; exact q6 t c d⟩
theorem cp_m {lo l : Int → Int} : ∀ i, 0 ≤ i → i < 104 → cseg lo 5 8 (cseg lo 56 104 (cseg lo 8 56 (u1 (u1 (u1 (u1 (u1 l 0 (lo 0)) 1 (lo 1)) 2 (lo 2)) 3 (lo 3)) 4 (lo 4)))) i = lo i := by
  intro i a b
  rcases (by omega : (5 ≤ i ∧ i < 8) ∨ 56 ≤ i ∨ (8 ≤ i ∧ i < 56) ∨ i < 5) with z | z | z | z
  · exact cseg_i z.1 z.2
  · exact (cseg_o (by omega)).trans (cseg_i z b)
  · exact (cseg_o (by omega)).trans ((cseg_o (by omega)).trans (cseg_i z.1 z.2))
  · rw [cseg_o (by omega), cseg_o (by omega), cseg_o (by omega)]
    rcases (by omega : i = 0 ∨ i = 1 ∨ i = 2 ∨ i = 3 ∨ i = 4) with q | q | q | q | q <;> subst q <;> rfl
abbrev Cp1 (lo l m : Int → Int) : Prop := ∀ i, (0 ≤ i → i < 104 → m i = lo i)
theorem lc_end {lo m : Int → Int} (hs : 0 ≤ lo 3 ∧ lo 3 ≤ 6) (h1 : ∀ i, 0 ≤ i → i < 104 → m i = lo i) (h2 : ∀ r, 0 ≤ r → r < lo 3 → ∀ i, 0 ≤ i → i < 36 → rb m r i = rb lo r i) : Lc (cseg lo 320 (320 + 8 * lo 4) m) lo :=
  ⟨fun i a b => (cseg_o (by omega)).trans (h1 i a b), fun r a b i c d => (cseg_o (i := 104 + 36 * r + i) (by omega)).trans (h2 r a b i c d), fun o a b k c d => cseg_i (by omega) (by omega)⟩
theorem S_X6_copyFrom (hW : WH h w l p) (hV : WH h v lo p2) (hR : RgC lo) (sp : w + 38 ≤ v ∨ v + 38 ≤ w) : ∃ r_ h', q_cl E q_m_X6_copyFrom [Value.ref w, Value.ref v] h = some (r_, h') ∧ (r_ = .inl none ∧ ∃ l', (WH h' w l' p ∧ Lc l' lo) ∧ Fr w 38 h h') := by
  suffices K : ∀ Q : q_R → q_H → Prop, (∀ r_ h', (r_ = .inl none ∧ ∃ l', (WH h' w l' p ∧ Lc l' lo) ∧ Fr w 38 h h') → Q r_ h') → Xv E q_m_X6_copyFrom 0 [Value.ref w, Value.ref v, Value.null] [] h Q from K _ fun _ _ p => p
  intro Q hQ
  obtain ⟨g0, g1, g2, g3, g4, gc, g5, g6, g7, gk, gl, gr, go⟩ := id hR
  refine xv (x_aload_n 1 d_X6_copyFrom_0 rfl rfl) ?_
  refine xv (x_aload_n 2 d_X6_copyFrom_1 rfl rfl) ?_
  refine xv (x_getfield 5 d_X6_copyFrom_2 rfl f_6_9 (Nat.le_of_ble_eq_true rfl) (Nat.le_of_ble_eq_true rfl) (q_gf_of (wh_o hV) rfl)) ?_
  obtain ⟨h5, e5, w5, f5⟩ := wh_pf0 (v := lo 0) hW
  have V_5 := wh_fr hV f5 (by omega)
  have F5 : Fr w 38 h h5 := fr_tr fr_rf (fr_in f5 (by omega) (by omega))
  refine xv (x_putfield 8 d_X6_copyFrom_5 rfl f_6_9 (Nat.le_of_ble_eq_true rfl) e5 rfl rfl (fun e => absurd e (by decide))) ?_
  show Xv E q_m_X6_copyFrom 8 [Value.ref w, Value.ref v, Value.null] [] h5 Q
  refine xv (x_aload_n 9 d_X6_copyFrom_8 rfl rfl) ?_
  refine xv (x_aload_n 10 d_X6_copyFrom_9 rfl rfl) ?_
  refine xv (x_getfield 13 d_X6_copyFrom_10 rfl f_6_15 (Nat.le_of_ble_eq_true rfl) (Nat.le_of_ble_eq_true rfl) (q_gf_of (wh_o V_5) rfl)) ?_
  obtain ⟨h13, e13, w13, f13⟩ := wh_pf1 (v := lo 1) w5
  have V_13 := wh_fr V_5 f13 (by omega)
  have F13 : Fr w 38 h h13 := fr_tr F5 (fr_in f13 (by omega) (by omega))
  refine xv (x_putfield 16 d_X6_copyFrom_13 rfl f_6_15 (Nat.le_of_ble_eq_true rfl) e13 rfl rfl (fun e => absurd e (by decide))) ?_
  show Xv E q_m_X6_copyFrom 16 [Value.ref w, Value.ref v, Value.null] [] h13 Q
  refine xv (x_aload_n 17 d_X6_copyFrom_16 rfl rfl) ?_
  refine xv (x_aload_n 18 d_X6_copyFrom_17 rfl rfl) ?_
  refine xv (x_getfield 21 d_X6_copyFrom_18 rfl f_6_52 (Nat.le_of_ble_eq_true rfl) (Nat.le_of_ble_eq_true rfl) (q_gf_of (wh_o V_13) rfl)) ?_
  obtain ⟨h21, e21, w21, f21⟩ := wh_pf2 (v := lo 2) w13
  have V_21 := wh_fr V_13 f21 (by omega)
  have F21 : Fr w 38 h h21 := fr_tr F13 (fr_in f21 (by omega) (by omega))
  refine xv (x_putfield 24 d_X6_copyFrom_21 rfl f_6_52 (Nat.le_of_ble_eq_true rfl) e21 rfl rfl (fun e => absurd e (by decide))) ?_
  show Xv E q_m_X6_copyFrom 24 [Value.ref w, Value.ref v, Value.null] [] h21 Q
  refine xv (x_aload_n 25 d_X6_copyFrom_24 rfl rfl) ?_
  refine xv (x_aload_n 26 d_X6_copyFrom_25 rfl rfl) ?_
  refine xv (x_getfield 29 d_X6_copyFrom_26 rfl f_6_55 (Nat.le_of_ble_eq_true rfl) (Nat.le_of_ble_eq_true rfl) (q_gf_of (wh_o V_21) rfl)) ?_
  obtain ⟨h29, e29, w29, f29⟩ := wh_pf3 (v := lo 3) w21
  have V_29 := wh_fr V_21 f29 (by omega)
  have F29 : Fr w 38 h h29 := fr_tr F21 (fr_in f29 (by omega) (by omega))
  refine xv (x_putfield 32 d_X6_copyFrom_29 rfl f_6_55 (Nat.le_of_ble_eq_true rfl) e29 rfl rfl (fun e => absurd e (by decide))) ?_
  show Xv E q_m_X6_copyFrom 32 [Value.ref w, Value.ref v, Value.null] [] h29 Q
  refine xv (x_aload_n 33 d_X6_copyFrom_32 rfl rfl) ?_
  refine xv (x_aload_n 34 d_X6_copyFrom_33 rfl rfl) ?_
  refine xv (x_getfield 37 d_X6_copyFrom_34 rfl f_6_58 (Nat.le_of_ble_eq_true rfl) (Nat.le_of_ble_eq_true rfl) (q_gf_of (wh_o V_29) rfl)) ?_
  obtain ⟨h37, e37, w37, f37⟩ := wh_pf4 (v := lo 4) w29
  have V_37 := wh_fr V_29 f37 (by omega)
  have F37 : Fr w 38 h h37 := fr_tr F29 (fr_in f37 (by omega) (by omega))
  refine xv (x_putfield 40 d_X6_copyFrom_37 rfl f_6_58 (Nat.le_of_ble_eq_true rfl) e37 rfl rfl (fun e => absurd e (by decide))) ?_
  show Xv E q_m_X6_copyFrom 40 [Value.ref w, Value.ref v, Value.null] [] h37 Q
  refine xv (x_aload_n 41 d_X6_copyFrom_40 rfl rfl) ?_
  refine xv (x_getfield 44 d_X6_copyFrom_41 rfl f_6_18 (Nat.le_of_ble_eq_true rfl) (Nat.le_of_ble_eq_true rfl) (q_gf_of (wh_o V_37) rfl)) ?_
  refine xv (x_iconst 45 d_X6_copyFrom_44 rfl) ?_
  refine xv (x_aload_n 46 d_X6_copyFrom_45 rfl rfl) ?_
  refine xv (x_getfield 49 d_X6_copyFrom_46 rfl f_6_18 (Nat.le_of_ble_eq_true rfl) (Nat.le_of_ble_eq_true rfl) (q_gf_of (wh_o w37) rfl)) ?_
  refine xv (x_iconst 50 d_X6_copyFrom_49 rfl) ?_
  refine xv (x_bipush 52 d_X6_copyFrom_50 rfl rfl) ?_
  obtain ⟨h52, e52, w52, f52⟩ := wh_kc (E := E) V_37 w37
  have V_52 := wh_fr V_37 f52 (by omega)
  have F52 : Fr w 38 h h52 := fr_tr F37 (fr_in f52 (by omega) (by omega))
  refine xv (x_copy 55 d_X6_copyFrom_52 rfl rfl rfl (Nat.le_of_ble_eq_true rfl) (Nat.le_of_ble_eq_true rfl) (Nat.le_of_ble_eq_true rfl) e52) ?_
  show Xv E q_m_X6_copyFrom 55 [Value.ref w, Value.ref v, Value.null] [] h52 Q
  refine xv (x_aload_n 56 d_X6_copyFrom_55 rfl rfl) ?_
  refine xv (x_getfield 59 d_X6_copyFrom_56 rfl f_6_22 (Nat.le_of_ble_eq_true rfl) (Nat.le_of_ble_eq_true rfl) (q_gf_of (wh_o V_52) rfl)) ?_
  refine xv (x_iconst 60 d_X6_copyFrom_59 rfl) ?_
  refine xv (x_aload_n 61 d_X6_copyFrom_60 rfl rfl) ?_
  refine xv (x_getfield 64 d_X6_copyFrom_61 rfl f_6_22 (Nat.le_of_ble_eq_true rfl) (Nat.le_of_ble_eq_true rfl) (q_gf_of (wh_o w52) rfl)) ?_
  refine xv (x_iconst 65 d_X6_copyFrom_64 rfl) ?_
  refine xv (x_bipush 67 d_X6_copyFrom_65 rfl rfl) ?_
  obtain ⟨h67, e67, w67, f67⟩ := wh_cc (E := E) V_52 w52 gl
  have V_67 := wh_fr V_52 f67 (by omega)
  have F67 : Fr w 38 h h67 := fr_tr F52 (fr_in f67 (by omega) (by omega))
  refine xv (x_copy 70 d_X6_copyFrom_67 rfl rfl rfl (Nat.le_of_ble_eq_true rfl) (Nat.le_of_ble_eq_true rfl) (Nat.le_of_ble_eq_true rfl) e67) ?_
  show Xv E q_m_X6_copyFrom 70 [Value.ref w, Value.ref v, Value.null] [] h67 Q
  refine xv (x_aload_n 71 d_X6_copyFrom_70 rfl rfl) ?_
  refine xv (x_getfield 74 d_X6_copyFrom_71 rfl f_6_40 (Nat.le_of_ble_eq_true rfl) (Nat.le_of_ble_eq_true rfl) (q_gf_of (wh_o V_67) rfl)) ?_
  refine xv (x_iconst 75 d_X6_copyFrom_74 rfl) ?_
  refine xv (x_aload_n 76 d_X6_copyFrom_75 rfl rfl) ?_
  refine xv (x_getfield 79 d_X6_copyFrom_76 rfl f_6_40 (Nat.le_of_ble_eq_true rfl) (Nat.le_of_ble_eq_true rfl) (q_gf_of (wh_o w67) rfl)) ?_
  refine xv (x_iconst 80 d_X6_copyFrom_79 rfl) ?_
  refine xv (x_iconst 81 d_X6_copyFrom_80 rfl) ?_
  obtain ⟨h81, e81, w81, f81⟩ := wh_sc (E := E) V_67 w67
  have V_81 := wh_fr V_67 f81 (by omega)
  have F81 : Fr w 38 h h81 := fr_tr F67 (fr_in f81 (by omega) (by omega))
  refine xv (x_copy 84 d_X6_copyFrom_81 rfl rfl rfl (Nat.le_of_ble_eq_true rfl) (Nat.le_of_ble_eq_true rfl) (Nat.le_of_ble_eq_true rfl) e81) ?_
  show Xv E q_m_X6_copyFrom 84 [Value.ref w, Value.ref v, Value.null] [] h81 Q
  refine xv (x_iconst 85 d_X6_copyFrom_84 rfl) ?_
  refine xv (x_istore_n 86 d_X6_copyFrom_85 rfl (Nat.le_of_ble_eq_true rfl)) ?_
  show Xv E q_m_X6_copyFrom 86 [Value.ref w, Value.ref v, Value.int (zi 0)] [] h81 Q
  have L86 : ∀ (n : Nat) (m : Int → Int) (k : Int) (H : q_H), (Cp1 lo l m) → (0 ≤ k) → (k ≤ lo 3) → (WH H w (cseg lo 104 (104 + 36 * k) m) p) → (WH H v lo p2) → (Fr w 38 h H) → (lo 3 - k).toNat = n → Xv E q_m_X6_copyFrom 86 [Value.ref w, Value.ref v, Value.int (zi k)] [] H Q := by
    intro n
    induction n using Nat.strongRecOn with
    | _ n ih86 =>
      intro m k H hm k0 k1 hW2 hV2 hF2 em
      have e3 : cseg lo 104 (104 + 36 * k) m 3 = lo 3 := (cseg_o (by omega)).trans (hm 3 (by omega) (by omega))
      refine xv (x_iload_n 87 d_X6_copyFrom_86 rfl rfl) ?_
      refine xv (x_aload_n 88 d_X6_copyFrom_87 rfl rfl) ?_
      refine xv (x_getfield 91 d_X6_copyFrom_88 rfl f_6_55 (Nat.le_of_ble_eq_true rfl) (Nat.le_of_ble_eq_true rfl) (q_gf_of (wh_o hW2) rfl)) ?_
      refine v_icmp_ge 121 94 d_X6_copyFrom_91 rfl rfl (by omega) (by omega) (by omega) (by omega) (fun k91 => ?_) (fun k91 => ?_)
      · refine xv (x_iconst 122 d_X6_copyFrom_121 rfl) ?_
        refine xv (x_istore_n 123 d_X6_copyFrom_122 rfl (Nat.le_of_ble_eq_true rfl)) ?_
        show Xv E q_m_X6_copyFrom 123 [Value.ref w, Value.ref v, Value.int (zi 0)] [] H Q
        have L123 : ∀ (n : Nat) (m : Int → Int) (k : Int) (H : q_H), (Cp1 lo l m ∧ (∀ r, 0 ≤ r → r < lo 3 → ∀ i, 0 ≤ i → i < 36 → rb m r i = rb lo r i)) → (0 ≤ k) → (k ≤ lo 4) → (WH H w (cseg lo 320 (320 + 8 * k) m) p) → (WH H v lo p2) → (Fr w 38 h H) → (lo 4 - k).toNat = n → Xv E q_m_X6_copyFrom 123 [Value.ref w, Value.ref v, Value.int (zi k)] [] H Q := by
          intro n
          induction n using Nat.strongRecOn with
          | _ n ih123 =>
            intro m k H hm k0 k1 hW2 hV2 hF2 em
            have e4 : cseg lo 320 (320 + 8 * k) m 4 = lo 4 := (cseg_o (by omega)).trans (hm.1 4 (by omega) (by omega))
            refine xv (x_iload_n 124 d_X6_copyFrom_123 rfl rfl) ?_
            refine xv (x_aload_n 125 d_X6_copyFrom_124 rfl rfl) ?_
            refine xv (x_getfield 128 d_X6_copyFrom_125 rfl f_6_58 (Nat.le_of_ble_eq_true rfl) (Nat.le_of_ble_eq_true rfl) (q_gf_of (wh_o hW2) rfl)) ?_
            refine v_icmp_ge 158 131 d_X6_copyFrom_128 rfl rfl (by omega) (by omega) (by omega) (by omega) (fun k128 => ?_) (fun k128 => ?_)
            · refine xv_r (x_return d_X6_copyFrom_158 rfl) ?_
              have ek : k = lo 4 := by omega
              subst ek
              exact hQ _ _ ⟨rfl, _, ⟨hW2, lc_end g3 hm.1 hm.2⟩, hF2⟩
            · refine xv (x_iload_n 132 d_X6_copyFrom_131 rfl rfl) ?_
              refine xv (x_bipush 134 d_X6_copyFrom_132 rfl rfl) ?_
              refine v_icmp_ge 158 137 d_X6_copyFrom_134 rfl rfl (by omega) (by omega) (by omega) (by omega) (fun k134 => ?_) (fun k134 => ?_)
              · refine xv_r (x_return d_X6_copyFrom_158 rfl) ?_
                have ek : k = lo 4 := by omega
                subst ek
                exact hQ _ _ ⟨rfl, _, ⟨hW2, lc_end g3 hm.1 hm.2⟩, hF2⟩
              · refine xv (x_aload_n 138 d_X6_copyFrom_137 rfl rfl) ?_
                refine xv (x_getfield 141 d_X6_copyFrom_138 rfl f_6_35 (Nat.le_of_ble_eq_true rfl) (Nat.le_of_ble_eq_true rfl) (q_gf_of (wh_o hW2) rfl)) ?_
                refine xv (x_iload_n 142 d_X6_copyFrom_141 rfl rfl) ?_
                refine xv (x_aaload 143 d_X6_copyFrom_142 rfl (wh_os hW2 (by omega) (by omega))) ?_
                refine xv (x_aload_n 144 d_X6_copyFrom_143 rfl rfl) ?_
                refine xv (x_getfield 147 d_X6_copyFrom_144 rfl f_6_35 (Nat.le_of_ble_eq_true rfl) (Nat.le_of_ble_eq_true rfl) (q_gf_of (wh_o hV2) rfl)) ?_
                refine xv (x_iload_n 148 d_X6_copyFrom_147 rfl rfl) ?_
                refine xv (x_aaload 149 d_X6_copyFrom_148 rfl (wh_os hV2 (by omega) (by omega))) ?_
                have sa149 := oa_b (w := w) (show 0 ≤ k by omega) (by omega)
                have sb149 := oa_b (w := v) (show 0 ≤ k by omega) (by omega)
                obtain ⟨r149, h149, e149, z149, x149, y149⟩ := S_X3_copyFrom (E := E) (wh_ob (o := k) hW2 (by omega) (by omega)) (wh_ob (o := k) hV2 (by omega) (by omega)) (by omega)
                subst z149
                obtain ⟨w149, f149⟩ := wh_ow (o := k) hW2 (by omega) (by omega) x149 y149
                have V_149 := wh_fr hV2 f149 (by omega)
                have F149 : Fr w 38 h h149 := fr_tr hF2 (fr_in f149 (by omega) (by omega))
                refine xv (x_inv0 152 (as := [Value.ref (oa v k)]) d_X6_copyFrom_149 rfl c_6_65 rfl (Nat.le_of_ble_eq_true rfl) (Nat.le_of_ble_eq_true rfl) (wh_ob hW2 (by omega) (by omega)).1 (Nat.le_of_ble_eq_true rfl) (Nat.le_of_ble_eq_true rfl) rfl e149) ?_
                show Xv E q_m_X6_copyFrom 152 [Value.ref w, Value.ref v, Value.int (zi k)] [] h149 Q
                refine xv (x_iinc 155 d_X6_copyFrom_152 rfl rfl) ?_
                show Xv E q_m_X6_copyFrom 155 [Value.ref w, Value.ref v, Value.int (zi (k + 1))] [] h149 Q
                refine xv (x_goto 123 d_X6_copyFrom_155 rfl) ?_
                exact ih123 _ (by omega) m (k + 1) _ hm (by omega) (by omega) (oset_seg k0 ▸ w149) V_149 F149 rfl
        have ek : k = lo 3 := by omega
        subst ek
        exact L123 _ _ 0 _ ⟨fun i a b => (cseg_o (by omega)).trans (hm i a b), fun r a b i c d => cseg_i (by omega) (by omega)⟩ (by omega) (by omega) (wh_cg hW2 fun i a b c => (cseg_o (by omega)).symm) hV2 hF2 rfl
      · refine xv (x_iload_n 95 d_X6_copyFrom_94 rfl rfl) ?_
        refine xv (x_bipush 97 d_X6_copyFrom_95 rfl rfl) ?_
        refine v_icmp_ge 121 100 d_X6_copyFrom_97 rfl rfl (by omega) (by omega) (by omega) (by omega) (fun k97 => ?_) (fun k97 => ?_)
        · refine xv (x_iconst 122 d_X6_copyFrom_121 rfl) ?_
          refine xv (x_istore_n 123 d_X6_copyFrom_122 rfl (Nat.le_of_ble_eq_true rfl)) ?_
          show Xv E q_m_X6_copyFrom 123 [Value.ref w, Value.ref v, Value.int (zi 0)] [] H Q
          have L123 : ∀ (n : Nat) (m : Int → Int) (k : Int) (H : q_H), (Cp1 lo l m ∧ (∀ r, 0 ≤ r → r < lo 3 → ∀ i, 0 ≤ i → i < 36 → rb m r i = rb lo r i)) → (0 ≤ k) → (k ≤ lo 4) → (WH H w (cseg lo 320 (320 + 8 * k) m) p) → (WH H v lo p2) → (Fr w 38 h H) → (lo 4 - k).toNat = n → Xv E q_m_X6_copyFrom 123 [Value.ref w, Value.ref v, Value.int (zi k)] [] H Q := by
            intro n
            induction n using Nat.strongRecOn with
            | _ n ih123 =>
              intro m k H hm k0 k1 hW2 hV2 hF2 em
              have e4 : cseg lo 320 (320 + 8 * k) m 4 = lo 4 := (cseg_o (by omega)).trans (hm.1 4 (by omega) (by omega))
              refine xv (x_iload_n 124 d_X6_copyFrom_123 rfl rfl) ?_
              refine xv (x_aload_n 125 d_X6_copyFrom_124 rfl rfl) ?_
              refine xv (x_getfield 128 d_X6_copyFrom_125 rfl f_6_58 (Nat.le_of_ble_eq_true rfl) (Nat.le_of_ble_eq_true rfl) (q_gf_of (wh_o hW2) rfl)) ?_
              refine v_icmp_ge 158 131 d_X6_copyFrom_128 rfl rfl (by omega) (by omega) (by omega) (by omega) (fun k128 => ?_) (fun k128 => ?_)
              · refine xv_r (x_return d_X6_copyFrom_158 rfl) ?_
                have ek : k = lo 4 := by omega
                subst ek
                exact hQ _ _ ⟨rfl, _, ⟨hW2, lc_end g3 hm.1 hm.2⟩, hF2⟩
              · refine xv (x_iload_n 132 d_X6_copyFrom_131 rfl rfl) ?_
                refine xv (x_bipush 134 d_X6_copyFrom_132 rfl rfl) ?_
                refine v_icmp_ge 158 137 d_X6_copyFrom_134 rfl rfl (by omega) (by omega) (by omega) (by omega) (fun k134 => ?_) (fun k134 => ?_)
                · refine xv_r (x_return d_X6_copyFrom_158 rfl) ?_
                  have ek : k = lo 4 := by omega
                  subst ek
                  exact hQ _ _ ⟨rfl, _, ⟨hW2, lc_end g3 hm.1 hm.2⟩, hF2⟩
                · refine xv (x_aload_n 138 d_X6_copyFrom_137 rfl rfl) ?_
                  refine xv (x_getfield 141 d_X6_copyFrom_138 rfl f_6_35 (Nat.le_of_ble_eq_true rfl) (Nat.le_of_ble_eq_true rfl) (q_gf_of (wh_o hW2) rfl)) ?_
                  refine xv (x_iload_n 142 d_X6_copyFrom_141 rfl rfl) ?_
                  refine xv (x_aaload 143 d_X6_copyFrom_142 rfl (wh_os hW2 (by omega) (by omega))) ?_
                  refine xv (x_aload_n 144 d_X6_copyFrom_143 rfl rfl) ?_
                  refine xv (x_getfield 147 d_X6_copyFrom_144 rfl f_6_35 (Nat.le_of_ble_eq_true rfl) (Nat.le_of_ble_eq_true rfl) (q_gf_of (wh_o hV2) rfl)) ?_
                  refine xv (x_iload_n 148 d_X6_copyFrom_147 rfl rfl) ?_
                  refine xv (x_aaload 149 d_X6_copyFrom_148 rfl (wh_os hV2 (by omega) (by omega))) ?_
                  have sa149 := oa_b (w := w) (show 0 ≤ k by omega) (by omega)
                  have sb149 := oa_b (w := v) (show 0 ≤ k by omega) (by omega)
                  obtain ⟨r149, h149, e149, z149, x149, y149⟩ := S_X3_copyFrom (E := E) (wh_ob (o := k) hW2 (by omega) (by omega)) (wh_ob (o := k) hV2 (by omega) (by omega)) (by omega)
                  subst z149
                  obtain ⟨w149, f149⟩ := wh_ow (o := k) hW2 (by omega) (by omega) x149 y149
                  have V_149 := wh_fr hV2 f149 (by omega)
                  have F149 : Fr w 38 h h149 := fr_tr hF2 (fr_in f149 (by omega) (by omega))
                  refine xv (x_inv0 152 (as := [Value.ref (oa v k)]) d_X6_copyFrom_149 rfl c_6_65 rfl (Nat.le_of_ble_eq_true rfl) (Nat.le_of_ble_eq_true rfl) (wh_ob hW2 (by omega) (by omega)).1 (Nat.le_of_ble_eq_true rfl) (Nat.le_of_ble_eq_true rfl) rfl e149) ?_
                  show Xv E q_m_X6_copyFrom 152 [Value.ref w, Value.ref v, Value.int (zi k)] [] h149 Q
                  refine xv (x_iinc 155 d_X6_copyFrom_152 rfl rfl) ?_
                  show Xv E q_m_X6_copyFrom 155 [Value.ref w, Value.ref v, Value.int (zi (k + 1))] [] h149 Q
                  refine xv (x_goto 123 d_X6_copyFrom_155 rfl) ?_
                  exact ih123 _ (by omega) m (k + 1) _ hm (by omega) (by omega) (oset_seg k0 ▸ w149) V_149 F149 rfl
          have ek : k = lo 3 := by omega
          subst ek
          exact L123 _ _ 0 _ ⟨fun i a b => (cseg_o (by omega)).trans (hm i a b), fun r a b i c d => cseg_i (by omega) (by omega)⟩ (by omega) (by omega) (wh_cg hW2 fun i a b c => (cseg_o (by omega)).symm) hV2 hF2 rfl
        · refine xv (x_aload_n 101 d_X6_copyFrom_100 rfl rfl) ?_
          refine xv (x_getfield 104 d_X6_copyFrom_101 rfl f_6_28 (Nat.le_of_ble_eq_true rfl) (Nat.le_of_ble_eq_true rfl) (q_gf_of (wh_o hW2) rfl)) ?_
          refine xv (x_iload_n 105 d_X6_copyFrom_104 rfl rfl) ?_
          refine xv (x_aaload 106 d_X6_copyFrom_105 rfl (wh_rs hW2 (by omega) (by omega))) ?_
          refine xv (x_aload_n 107 d_X6_copyFrom_106 rfl rfl) ?_
          refine xv (x_getfield 110 d_X6_copyFrom_107 rfl f_6_28 (Nat.le_of_ble_eq_true rfl) (Nat.le_of_ble_eq_true rfl) (q_gf_of (wh_o hV2) rfl)) ?_
          refine xv (x_iload_n 111 d_X6_copyFrom_110 rfl rfl) ?_
          refine xv (x_aaload 112 d_X6_copyFrom_111 rfl (wh_rs hV2 (by omega) (by omega))) ?_
          have sa112 := wh_pb (wh_pm hW2) (show 0 ≤ k by omega) (by omega)
          have sb112 := wh_pb (wh_pm hV2) (show 0 ≤ k by omega) (by omega)
          obtain ⟨r112, h112, e112, z112, x112, y112⟩ := S_X5_copyFrom (E := E) (wh_r (r := k) hW2 (by omega) (by omega)) (wh_r (r := k) hV2 (by omega) (by omega)) (by omega)
          subst z112
          obtain ⟨w112, f112⟩ := wh_rw (r := k) hW2 (by omega) (by omega) x112 y112
          have V_112 := wh_fr hV2 f112 (by omega)
          have F112 : Fr w 38 h h112 := fr_tr hF2 (fr_in f112 (by omega) (by omega))
          refine xv (x_inv0 115 (as := [Value.ref (p2 k)]) d_X6_copyFrom_112 rfl c_6_61 rfl (Nat.le_of_ble_eq_true rfl) (Nat.le_of_ble_eq_true rfl) (wh_r hW2 (by omega) (by omega)).1 (Nat.le_of_ble_eq_true rfl) (Nat.le_of_ble_eq_true rfl) rfl e112) ?_
          show Xv E q_m_X6_copyFrom 115 [Value.ref w, Value.ref v, Value.int (zi k)] [] h112 Q
          refine xv (x_iinc 118 d_X6_copyFrom_115 rfl rfl) ?_
          show Xv E q_m_X6_copyFrom 118 [Value.ref w, Value.ref v, Value.int (zi (k + 1))] [] h112 Q
          refine xv (x_goto 86 d_X6_copyFrom_118 rfl) ?_
          exact ih86 _ (by omega) m (k + 1) _ hm (by omega) (by omega) (rset_seg k0 ▸ w112) V_112 F112 rfl
  exact L86 _ _ 0 _ cp_m (by omega) (by omega) (wh_cg w81 fun i a b c => (cseg_o (by omega)).symm) V_81 F81 rfl
abbrev epA (l : Int → Int) (r : Int) : Prop := isO l (rb l r 2) ∧ (ob l (rb l r 2) 2 < ob l (rb l r 2) 1 ∧ ob l (rb l r 2) (5 + ob l (rb l r 2) 2) = rb l r 0)
abbrev epB (l : Int → Int) (r : Int) : Prop := isO l (rb l r 2) ∧ ¬ (ob l (rb l r 2) 2 < ob l (rb l r 2) 1 ∧ ob l (rb l r 2) (5 + ob l (rb l r 2) 2) = rb l r 0) ∧ ob l (rb l r 2) 1 - ob l (rb l r 2) 2 = 0 ∧ l (8 + rb l r 0) = 3
/-- what the end of a robot's plan does -/
def epL (l : Int → Int) (r : Int) : Int → Int := if epA l r then u1 l (320 + 8 * (rb l r 2) + 2) (ob l (rb l r 2) 2 + 1) else if epB l r then u1 (u1 l (320 + 8 * (rb l r 2) + 4) (l 2)) (104 + 36 * r + 2) (-1) else l
def epV (l : Int → Int) (r : Int) : Int := if epB l r then 1 else 0
theorem S_X6_endPlan (hW : WH h w l p) (hR : RgC l) {r : Int} (h1 : isR l r) : ∃ r_ h', q_cl E q_m_X6_endPlan [Value.ref w, Value.ref (p r)] h = some (r_, h') ∧ (r_ = .inl (some (.int (zi (epV l r)))) ∧ WH h' w (epL l r) p ∧ Fr w 38 h h') := by
  suffices K : ∀ Q : q_R → q_H → Prop, (∀ r_ h', (r_ = .inl (some (.int (zi (epV l r)))) ∧ WH h' w (epL l r) p ∧ Fr w 38 h h') → Q r_ h') → Xv E q_m_X6_endPlan 0 [Value.ref w, Value.ref (p r), Value.null] [] h Q from K _ fun _ _ p => p
  intro Q hQ
  obtain ⟨g0, g1, g2, g3, g4, gc, g5, g6, g7, gk, gl, gr, go⟩ := id hR
  have gq := gr r h1.1 h1.2
  refine xv (x_aload_n 1 d_X6_endPlan_0 rfl rfl) ?_
  refine xv (x_aload_n 2 d_X6_endPlan_1 rfl rfl) ?_
  refine xv (x_getfield 5 d_X6_endPlan_2 rfl f_6_112 (Nat.le_of_ble_eq_true rfl) (Nat.le_of_ble_eq_true rfl) (q_gf_of (wh_r hW (by omega) (by omega)).1 rfl)) ?_
  have q2 := gr r (by omega) (by omega)
  refine xv (x_inv1 8 (as := [Value.int (zi (rb l r 2))]) d_X6_endPlan_5 rfl c_6_115 rfl (Nat.le_of_ble_eq_true rfl) (Nat.le_of_ble_eq_true rfl) (wh_o hW) (Nat.le_of_ble_eq_true rfl) (Nat.le_of_ble_eq_true rfl) rfl (S_X6_isOrder hW hR (by omega) (by omega))) ?_
  show Xv E q_m_X6_endPlan 8 [Value.ref w, Value.ref (p r), Value.null] [Value.int (zi (bI (isO l (rb l r 2))))] h Q
  refine v_if_eq 22 11 d_X6_endPlan_8 rfl rfl (by have := bI_r (isO l (rb l r 2)); omega) (by have := bI_r (isO l (rb l r 2)); omega) (fun k8 => ?_) (fun k8 => ?_)
  · replace k8 := bI_0.mp k8
    refine xv (x_iconst 23 d_X6_endPlan_22 rfl) ?_
    refine xv_r (x_ireturn d_X6_endPlan_23 rfl rfl) ?_
    refine hQ _ _ ⟨?_, ?_, fr_rf⟩
    · rw [show epV l r = 0 from if_neg (by omega)]
    · unfold epL; rw [if_neg (by omega), if_neg (by omega)]; exact hW
  · replace k8 := bI_n0.mp k8
    refine xv (x_aload_n 12 d_X6_endPlan_11 rfl rfl) ?_
    refine xv (x_aload_n 13 d_X6_endPlan_12 rfl rfl) ?_
    refine xv (x_getfield 16 d_X6_endPlan_13 rfl f_6_168 (Nat.le_of_ble_eq_true rfl) (Nat.le_of_ble_eq_true rfl) (q_gf_of (wh_r hW (by omega) (by omega)).1 rfl)) ?_
    have q13 := gr r (by omega) (by omega)
    refine xv (x_inv1 19 (as := [Value.int (zi (rb l r 0))]) d_X6_endPlan_16 rfl c_6_87 rfl (Nat.le_of_ble_eq_true rfl) (Nat.le_of_ble_eq_true rfl) (wh_o hW) (Nat.le_of_ble_eq_true rfl) (Nat.le_of_ble_eq_true rfl) rfl (S_X6_isCell hW hR (by omega) (by omega))) ?_
    show Xv E q_m_X6_endPlan 19 [Value.ref w, Value.ref (p r), Value.null] [Value.int (zi (bI (isC l (rb l r 0))))] h Q
    refine v_if_ne 24 22 d_X6_endPlan_19 rfl rfl (by have := bI_r (isC l (rb l r 0)); omega) (by have := bI_r (isC l (rb l r 0)); omega) (fun k19 => ?_) (fun k19 => ?_)
    · replace k19 := bI_n0.mp k19
      refine xv (x_aload_n 25 d_X6_endPlan_24 rfl rfl) ?_
      refine xv (x_getfield 28 d_X6_endPlan_25 rfl f_6_35 (Nat.le_of_ble_eq_true rfl) (Nat.le_of_ble_eq_true rfl) (q_gf_of (wh_o hW) rfl)) ?_
      refine xv (x_aload_n 29 d_X6_endPlan_28 rfl rfl) ?_
      refine xv (x_getfield 32 d_X6_endPlan_29 rfl f_6_112 (Nat.le_of_ble_eq_true rfl) (Nat.le_of_ble_eq_true rfl) (q_gf_of (wh_r hW (by omega) (by omega)).1 rfl)) ?_
      have q29 := gr r (by omega) (by omega)
      refine xv (x_aaload 33 d_X6_endPlan_32 rfl (wh_os hW (by omega) (by omega))) ?_
      refine xv (x_astore_n 34 d_X6_endPlan_33 rfl (Nat.le_of_ble_eq_true rfl)) ?_
      show Xv E q_m_X6_endPlan 34 [Value.ref w, Value.ref (p r), Value.ref (oa w (rb l r 2))] [] h Q
      refine xv (x_aload_n 35 d_X6_endPlan_34 rfl rfl) ?_
      refine xv (x_aload_n 36 d_X6_endPlan_35 rfl rfl) ?_
      refine xv (x_getfield 39 d_X6_endPlan_36 rfl f_6_168 (Nat.le_of_ble_eq_true rfl) (Nat.le_of_ble_eq_true rfl) (q_gf_of (wh_r hW (by omega) (by omega)).1 rfl)) ?_
      have q36 := gr r (by omega) (by omega)
      refine xv (x_inv1 42 (as := [Value.int (zi (rb l r 0))]) d_X6_endPlan_39 rfl c_6_175 rfl (Nat.le_of_ble_eq_true rfl) (Nat.le_of_ble_eq_true rfl) (wh_ob hW (by omega) (by omega)).1 (Nat.le_of_ble_eq_true rfl) (Nat.le_of_ble_eq_true rfl) rfl (S_X3_isNextLine (wh_ob (o := rb l r 2) hW (by omega) (by omega)) (go (rb l r 2) (by omega) (by omega)) (by omega) (by omega) (by omega))) ?_
      show Xv E q_m_X6_endPlan 42 [Value.ref w, Value.ref (p r), Value.ref (oa w (rb l r 2))] [Value.int (zi (bI (ob l (rb l r 2) 2 < ob l (rb l r 2) 1 ∧ ob l (rb l r 2) (5 + ob l (rb l r 2) 2) = (rb l r 0))))] h Q
      refine v_if_eq 58 45 d_X6_endPlan_42 rfl rfl (by have := bI_r (ob l (rb l r 2) 2 < ob l (rb l r 2) 1 ∧ ob l (rb l r 2) (5 + ob l (rb l r 2) 2) = (rb l r 0)); omega) (by have := bI_r (ob l (rb l r 2) 2 < ob l (rb l r 2) 1 ∧ ob l (rb l r 2) (5 + ob l (rb l r 2) 2) = (rb l r 0)); omega) (fun k42 => ?_) (fun k42 => ?_)
      · replace k42 := bI_0.mp k42
        refine xv (x_aload_n 59 d_X6_endPlan_58 rfl rfl) ?_
        refine xv (x_inv1 62 (as := []) d_X6_endPlan_59 rfl c_6_146 rfl (Nat.le_of_ble_eq_true rfl) (Nat.le_of_ble_eq_true rfl) (wh_ob hW (by omega) (by omega)).1 (Nat.le_of_ble_eq_true rfl) (Nat.le_of_ble_eq_true rfl) rfl (S_X3_linesLeft (wh_ob (o := rb l r 2) hW (by omega) (by omega)) (go (rb l r 2) (by omega) (by omega)))) ?_
        have q59 := (go (rb l r 2) (by omega) (by omega))
        show Xv E q_m_X6_endPlan 62 [Value.ref w, Value.ref (p r), Value.ref (oa w (rb l r 2))] [Value.int (zi (ob l (rb l r 2) 1 - ob l (rb l r 2) 2))] h Q
        refine v_if_ne 93 65 d_X6_endPlan_62 rfl rfl (by omega) (by omega) (fun k62 => ?_) (fun k62 => ?_)
        · refine xv (x_iconst 94 d_X6_endPlan_93 rfl) ?_
          refine xv_r (x_ireturn d_X6_endPlan_94 rfl rfl) ?_
          refine hQ _ _ ⟨?_, ?_, fr_rf⟩
          · rw [show epV l r = 0 from if_neg (by omega)]
          · unfold epL; rw [if_neg (by omega), if_neg (by omega)]; exact hW
        · refine xv (x_aload_n 66 d_X6_endPlan_65 rfl rfl) ?_
          refine xv (x_getfield 69 d_X6_endPlan_66 rfl f_6_18 (Nat.le_of_ble_eq_true rfl) (Nat.le_of_ble_eq_true rfl) (q_gf_of (wh_o hW) rfl)) ?_
          refine xv (x_aload_n 70 d_X6_endPlan_69 rfl rfl) ?_
          refine xv (x_getfield 73 d_X6_endPlan_70 rfl f_6_168 (Nat.le_of_ble_eq_true rfl) (Nat.le_of_ble_eq_true rfl) (q_gf_of (wh_r hW (by omega) (by omega)).1 rfl)) ?_
          have q70 := gr r (by omega) (by omega)
          refine xv (x_iaload 74 d_X6_endPlan_73 rfl (ai_g (wh_k hW) (by omega) (by omega) (by decide))) ?_
          have q73 := gk (rb l r 0) (by omega) (by omega)
          refine xv (x_iconst 75 d_X6_endPlan_74 rfl) ?_
          refine v_icmp_ne 93 78 d_X6_endPlan_75 rfl rfl (by omega) (by omega) (by omega) (by omega) (fun k75 => ?_) (fun k75 => ?_)
          · refine xv (x_iconst 94 d_X6_endPlan_93 rfl) ?_
            refine xv_r (x_ireturn d_X6_endPlan_94 rfl rfl) ?_
            refine hQ _ _ ⟨?_, ?_, fr_rf⟩
            · rw [show epV l r = 0 from if_neg (by omega)]
            · unfold epL; rw [if_neg (by omega), if_neg (by omega)]; exact hW
          · refine xv (x_aload_n 79 d_X6_endPlan_78 rfl rfl) ?_
            refine xv (x_aload_n 80 d_X6_endPlan_79 rfl rfl) ?_
            refine xv (x_getfield 83 d_X6_endPlan_80 rfl f_6_52 (Nat.le_of_ble_eq_true rfl) (Nat.le_of_ble_eq_true rfl) (q_gf_of (wh_o hW) rfl)) ?_
            obtain ⟨h83, e83, w83, f83⟩ := wh_of3 (o := rb l r 2) (v := l 2) hW (by omega) (by omega)
            have F83 : Fr w 38 h h83 := fr_tr fr_rf (fr_in f83 (by omega) (by omega))
            refine xv (x_putfield 86 d_X6_endPlan_83 rfl f_6_127 (Nat.le_of_ble_eq_true rfl) e83 rfl rfl (fun e => absurd e (by decide))) ?_
            show Xv E q_m_X6_endPlan 86 [Value.ref w, Value.ref (p r), Value.ref (oa w (rb l r 2))] [] h83 Q
            refine xv (x_aload_n 87 d_X6_endPlan_86 rfl rfl) ?_
            refine xv (x_iconst 88 d_X6_endPlan_87 rfl) ?_
            obtain ⟨h88, e88, w88, f88⟩ := wh_rf2 (r := r) (v := (-1)) w83 (by omega) (by omega)
            have F88 : Fr w 38 h h88 := fr_tr F83 (fr_in f88 (by omega) (by omega))
            refine xv (x_putfield 91 d_X6_endPlan_88 rfl f_6_112 (Nat.le_of_ble_eq_true rfl) e88 rfl rfl (fun e => absurd e (by decide))) ?_
            show Xv E q_m_X6_endPlan 91 [Value.ref w, Value.ref (p r), Value.ref (oa w (rb l r 2))] [] h88 Q
            refine xv (x_iconst 92 d_X6_endPlan_91 rfl) ?_
            refine xv_r (x_ireturn d_X6_endPlan_92 rfl rfl) ?_
            refine hQ _ _ ⟨?_, ?_, F88⟩
            · rw [show epV l r = 1 from if_pos (by omega)]
            · unfold epL; rw [if_neg (by omega), if_pos (by omega)]; exact w88
      · replace k42 := bI_n0.mp k42
        refine xv (x_aload_n 46 d_X6_endPlan_45 rfl rfl) ?_
        refine xv (x_dup 47 d_X6_endPlan_46 rfl rfl) ?_
        refine xv (x_getfield 50 d_X6_endPlan_47 rfl f_6_118 (Nat.le_of_ble_eq_true rfl) (Nat.le_of_ble_eq_true rfl) (q_gf_of (wh_ob hW (by omega) (by omega)).1 rfl)) ?_
        have q47 := go (rb l r 2) (by omega) (by omega)
        refine xv (x_iconst 51 d_X6_endPlan_50 rfl) ?_
        refine xv (x_iadd 52 d_X6_endPlan_51 rfl) ?_
        obtain ⟨h52, e52, w52, f52⟩ := wh_of2 (o := rb l r 2) (v := (ob l (rb l r 2) 2) + 1) hW (by omega) (by omega)
        have F52 : Fr w 38 h h52 := fr_tr fr_rf (fr_in f52 (by omega) (by omega))
        refine xv (x_putfield 55 d_X6_endPlan_52 rfl f_6_118 (Nat.le_of_ble_eq_true rfl) e52 rfl rfl (fun e => absurd e (by decide))) ?_
        show Xv E q_m_X6_endPlan 55 [Value.ref w, Value.ref (p r), Value.ref (oa w (rb l r 2))] [] h52 Q
        refine xv (x_goto 93 d_X6_endPlan_55 rfl) ?_
        refine xv (x_iconst 94 d_X6_endPlan_93 rfl) ?_
        refine xv_r (x_ireturn d_X6_endPlan_94 rfl rfl) ?_
        refine hQ _ _ ⟨?_, ?_, F52⟩
        · rw [show epV l r = 0 from if_neg (by omega)]
        · unfold epL; rw [if_pos (by omega)]; exact w52
    · replace k19 := bI_0.mp k19
      refine xv (x_iconst 23 d_X6_endPlan_22 rfl) ?_
      refine xv_r (x_ireturn d_X6_endPlan_23 rfl rfl) ?_
      refine hQ _ _ ⟨?_, ?_, fr_rf⟩
      · rw [show epV l r = 0 from if_neg (by omega)]
      · unfold epL; rw [if_neg (by omega), if_neg (by omega)]; exact hW
end CT
