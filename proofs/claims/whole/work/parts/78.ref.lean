/-! the reference: the fewest ticks of a plan (printed by program) -/
section RA4
variable {E : q_E} {h : q_H} {am : Nat} {M M2 : q_Im} {l C : Int → Int} {r g t k w : Int}
def cnL (l : Int → Int) (r g t : Int) : Prop := (∃ w, (0 ≤ w ∧ w < 4) ∧ 0 ≤ bes l g w ∧ rea l r (t - 1).toNat (bes l g w) ∧ mgo l r (bes l g w) g (t - 1)) ∧ wbe l g (t + 1) r < 0
noncomputable def fwM (l : Int → Int) (r g : Int) : Int := fnd (cnL l r g) (l 7).toNat 1
theorem cn_cm (hR : RgC (M 1)) (hI : CmI (M 1) r C (M 1 7) 0 0) (hg : isC (M 1) g) (h1 : 1 ≤ t) (h2 : t ≤ M 1 7) : cnE (uA M 5 C) r g t ↔ cnL (M 1) r g t := by
  have gc := hR.2.2.2.2.2.1
  have key (w : Int) : cmE (uA M 5 C) r g t w ↔ 0 ≤ bes (M 1) g w ∧ rea (M 1) r (t - 1).toNat (bes (M 1) g w) ∧ mgo (M 1) r (bes (M 1) g w) g (t - 1) := by
    have hb := besC_r (w := w) hR hg
    show (0 ≤ bes (M 1) g w ∧ ¬ C (48 * (t - 1) + bes (M 1) g w) = 0 ∧ mgo (M 1) r (bes (M 1) g w) g (t - 1)) ↔ _
    refine and_congr_right fun h0 => and_congr_left fun _ => ?_
    have q := hI.2.1 (t - 1) (by omega) (by omega) (bes (M 1) g w) h0 (by omega)
    have g7 := hR.2.2.2.2.2.2.2.2.1
    have q2 := hI.1 (48 * (t - 1) + bes (M 1) g w) (by omega) (by omega)
    rw [← q]
    omega
  unfold cnE cnL
  refine and_congr ⟨?_, ?_⟩ Iff.rfl
  · rintro ⟨w, a, b⟩
    exact ⟨w, a, (key w).mp b⟩
  · rintro ⟨w, a, b⟩
    exact ⟨w, a, (key w).mpr b⟩
theorem S_X8_fewest (hR : Rg (M 1)) (hT : 0 ≤ M 1 2) {r g : Int} (hr_ : isR (M 1) r) (hg : isC (M 1) g) : ∃ r_ h', q_cl E q_m_X8_fewest [Value.ref am, Value.int (zi r), Value.int (zi g)] (q_mw h am M) = some (r_, h') ∧ (r_ = .inl (some (.int (zi (fwM (M 1) r g)))) ∧ ∃ C, h' = q_mw h am (uA M 5 C)) := by
  suffices K : ∀ Q : q_R → q_H → Prop, (∀ r_ h', (r_ = .inl (some (.int (zi (fwM (M 1) r g)))) ∧ ∃ C, h' = q_mw h am (uA M 5 C)) → Q r_ h') → Xv E q_m_X8_fewest 0 [Value.ref am, Value.int (zi r), Value.int (zi g), Value.null] [] (q_mw h am M) Q from K _ fun _ _ p => p
  intro Q hQ
  have hR0 := hR
  obtain ⟨hr, g0, g1, g3, g4, gc, g5, g6, g7, gk, gl, gr, go⟩ := hR0
  have hC := rgc_of hR hT
  refine xv (x_aload_n 1 d_X8_fewest_0 rfl rfl) ?_
  refine xv (x_iload_n 2 d_X8_fewest_1 rfl rfl) ?_
  obtain ⟨r2, h2, e2, z2, C, y2, hI⟩ := S_X8_findComing (E := E) (h := h) (am := am) (M := M) (r := r) hR hT hr_
  subst z2
  subst y2
  refine xv (x_inv0 5 (as := [Value.int (zi r)]) d_X8_fewest_2 rfl c_8_131 rfl (Nat.le_of_ble_eq_true rfl) (Nat.le_of_ble_eq_true rfl) m_o (Nat.le_of_ble_eq_true rfl) (Nat.le_of_ble_eq_true rfl) rfl e2) ?_
  show Xv E q_m_X8_fewest 5 [Value.ref am, Value.int (zi r), Value.int (zi g), Value.null] [] (q_mw h am (uA M 5 C)) Q
  refine xv (x_iconst 6 d_X8_fewest_5 rfl) ?_
  refine xv (x_istore_n 7 d_X8_fewest_6 rfl (Nat.le_of_ble_eq_true rfl)) ?_
  show Xv E q_m_X8_fewest 7 [Value.ref am, Value.int (zi r), Value.int (zi g), Value.int (zi 1)] [] (q_mw h am (uA M 5 C)) Q
  have L7 : ∀ (n_ : Nat) (t : Int), (1 ≤ t) → (t ≤ M 1 7 + 1) → (fwM (M 1) r g = fnd (cnL (M 1) r g) (M 1 7 + 1 - t).toNat t) → (M 1 7 + 1 - t).toNat = n_ → Xv E q_m_X8_fewest 7 [Value.ref am, Value.int (zi r), Value.int (zi g), Value.int (zi t)] [] (q_mw h am (uA M 5 C)) Q := by
    intro n_
    induction n_ using Nat.strongRecOn with
    | _ n_ ih7 =>
      intro t t0 t1 hv em
      refine xv (x_iload_n 8 d_X8_fewest_7 rfl rfl) ?_
      refine xv (x_aload_n 9 d_X8_fewest_8 rfl rfl) ?_
      refine xv (x_getfield 12 d_X8_fewest_9 rfl f_8_9 (Nat.le_of_ble_eq_true rfl) (Nat.le_of_ble_eq_true rfl) (q_gf_of m_o rfl)) ?_
      refine xv (x_bipush 14 d_X8_fewest_12 rfl rfl) ?_
      refine xv (x_iaload 15 d_X8_fewest_14 rfl ((m_g1 (by omega) (by omega)).trans (rfl : _ = some (Value.int (zi ((M 1) 7)))))) ?_
      have q_1 : -1000000 ≤ (M 1) 7 ∧ (M 1) 7 ≤ 1000000 := hr _
      refine v_icmp_gt 34 18 d_X8_fewest_15 rfl rfl (by omega) (by omega) (by omega) (by omega) (fun k15 => ?_) (fun k15 => ?_)
      · refine xv (x_iload_n 35 d_X8_fewest_34 rfl rfl) ?_
        refine xv (x_aload_n 36 d_X8_fewest_35 rfl rfl) ?_
        refine xv (x_getfield 39 d_X8_fewest_36 rfl f_8_9 (Nat.le_of_ble_eq_true rfl) (Nat.le_of_ble_eq_true rfl) (q_gf_of m_o rfl)) ?_
        refine xv (x_bipush 41 d_X8_fewest_39 rfl rfl) ?_
        refine xv (x_iaload 42 d_X8_fewest_41 rfl ((m_g1 (by omega) (by omega)).trans (rfl : _ = some (Value.int (zi ((M 1) 7)))))) ?_
        have q_2 : -1000000 ≤ (M 1) 7 ∧ (M 1) 7 ≤ 1000000 := hr _
        refine v_icmp_gt 49 45 d_X8_fewest_42 rfl rfl (by omega) (by omega) (by omega) (by omega) (fun k42 => ?_) (fun k42 => ?_)
        · refine xv (x_iconst 50 d_X8_fewest_49 rfl) ?_
          refine xv_r (x_ireturn d_X8_fewest_50 rfl rfl) ?_
          have ev : fwM (M 1) r g = (-1) := by first | (exfalso; omega) | exact hv.trans (fnd_h (by omega) ((cn_cm hC hI hg (by omega) (by omega)).mp k25)) | exact hv.trans (fnd_e (by omega))
          exact hQ _ _ ⟨by rw [ev], _, rfl⟩
        · refine xv (x_iload_n 46 d_X8_fewest_45 rfl rfl) ?_
          refine xv (x_goto 50 d_X8_fewest_46 rfl) ?_
          refine xv_r (x_ireturn d_X8_fewest_50 rfl rfl) ?_
          have ev : fwM (M 1) r g = t := by first | (exfalso; omega) | exact hv.trans (fnd_h (by omega) ((cn_cm hC hI hg (by omega) (by omega)).mp k25)) | exact hv.trans (fnd_e (by omega))
          exact hQ _ _ ⟨by rw [ev], _, rfl⟩
      · refine xv (x_aload_n 19 d_X8_fewest_18 rfl rfl) ?_
        refine xv (x_iload_n 20 d_X8_fewest_19 rfl rfl) ?_
        refine xv (x_iload_n 21 d_X8_fewest_20 rfl rfl) ?_
        refine xv (x_iload_n 22 d_X8_fewest_21 rfl rfl) ?_
        obtain ⟨r22, h22, e22, z22, y22⟩ := S_X8_canEnd (E := E) (h := h) (am := am) (M := (uA M 5 C)) hR hI.1 (r := r) (g := g) (t := t) hr_ hg (by omega)
        subst z22
        subst y22
        refine xv (x_inv1 25 (as := [Value.int (zi r), Value.int (zi g), Value.int (zi t)]) d_X8_fewest_22 rfl c_8_135 rfl (Nat.le_of_ble_eq_true rfl) (Nat.le_of_ble_eq_true rfl) m_o (Nat.le_of_ble_eq_true rfl) (Nat.le_of_ble_eq_true rfl) rfl e22) ?_
        show Xv E q_m_X8_fewest 25 [Value.ref am, Value.int (zi r), Value.int (zi g), Value.int (zi t)] [Value.int (zi (bI (cnE (uA M 5 C) r g t)))] (q_mw h am (uA M 5 C)) Q
        refine v_if_ne 34 28 d_X8_fewest_25 rfl rfl (by have := bI_r (cnE (uA M 5 C) r g t); omega) (by have := bI_r (cnE (uA M 5 C) r g t); omega) (fun k25 => ?_) (fun k25 => ?_)
        · replace k25 := bI_n0.mp k25
          refine xv (x_iload_n 35 d_X8_fewest_34 rfl rfl) ?_
          refine xv (x_aload_n 36 d_X8_fewest_35 rfl rfl) ?_
          refine xv (x_getfield 39 d_X8_fewest_36 rfl f_8_9 (Nat.le_of_ble_eq_true rfl) (Nat.le_of_ble_eq_true rfl) (q_gf_of m_o rfl)) ?_
          refine xv (x_bipush 41 d_X8_fewest_39 rfl rfl) ?_
          refine xv (x_iaload 42 d_X8_fewest_41 rfl ((m_g1 (by omega) (by omega)).trans (rfl : _ = some (Value.int (zi ((M 1) 7)))))) ?_
          have q_3 : -1000000 ≤ (M 1) 7 ∧ (M 1) 7 ≤ 1000000 := hr _
          refine v_icmp_gt 49 45 d_X8_fewest_42 rfl rfl (by omega) (by omega) (by omega) (by omega) (fun k42 => ?_) (fun k42 => ?_)
          · refine xv (x_iconst 50 d_X8_fewest_49 rfl) ?_
            refine xv_r (x_ireturn d_X8_fewest_50 rfl rfl) ?_
            have ev : fwM (M 1) r g = (-1) := by first | (exfalso; omega) | exact hv.trans (fnd_h (by omega) ((cn_cm hC hI hg (by omega) (by omega)).mp k25)) | exact hv.trans (fnd_e (by omega))
            exact hQ _ _ ⟨by rw [ev], _, rfl⟩
          · refine xv (x_iload_n 46 d_X8_fewest_45 rfl rfl) ?_
            refine xv (x_goto 50 d_X8_fewest_46 rfl) ?_
            refine xv_r (x_ireturn d_X8_fewest_50 rfl rfl) ?_
            have ev : fwM (M 1) r g = t := by first | (exfalso; omega) | exact hv.trans (fnd_h (by omega) ((cn_cm hC hI hg (by omega) (by omega)).mp k25)) | exact hv.trans (fnd_e (by omega))
            exact hQ _ _ ⟨by rw [ev], _, rfl⟩
        · replace k25 := bI_0.mp k25
          refine xv (x_iinc 31 d_X8_fewest_28 rfl rfl) ?_
          show Xv E q_m_X8_fewest 31 [Value.ref am, Value.int (zi r), Value.int (zi g), Value.int (zi (t + 1))] [] (q_mw h am (uA M 5 C)) Q
          refine xv (x_goto 7 d_X8_fewest_31 rfl) ?_
          exact ih7 _ (by omega) (t + 1) (by omega) (by omega) (hv.trans (fnd_b (by omega) (fun z_ => k25 ((cn_cm hC hI hg (by omega) (by omega)).mpr z_)))) rfl
  exact L7 _ 1 (by omega) (by omega) (by unfold fwM; rw [show M 1 7 + 1 - 1 = M 1 7 by omega]) rfl
end RA4
