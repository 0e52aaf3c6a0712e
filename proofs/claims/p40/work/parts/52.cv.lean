/-! the class itself: layout (printed by program) -/
abbrev ff (c : Int → Int) (n : Int) : Int × Int × Int := fpl c n n.toNat 0 0 0 0
theorem fpl_f {c : Int → Int} {n : Int} : ∀ (m : Nat) (i R C x : Int), 0 ≤ i → i + m = n → -1 ≤ (fpl c n m i R C x).1 ∧ (fpl c n m i R C x).1 ≤ n
  | 0, i, R, C, x, h, e => by
    show -1 ≤ (if cer R C x then ((-1, R + 1, x) : Int × Int × Int) else (n, R, C)).1 ∧ (if cer R C x then ((-1, R + 1, x) : Int × Int × Int) else (n, R, C)).1 ≤ n
    split
    · exact ⟨Int.le_refl _, by show -1 ≤ n; omega⟩
    · exact ⟨by show -1 ≤ n; omega, Int.le_refl _⟩
  | m + 1, i, R, C, x, h, e => by
    show -1 ≤ (if c i = 47 ∧ cer R C x ∧ R + 1 < 6 then fpl c n m (i + 1) (R + 1) x 0 else if ¬ kd (c i) = -1 ∧ cgr R C x then fpl c n m (i + 1) R C (x + 1) else (i, R, C)).1 ∧ (if c i = 47 ∧ cer R C x ∧ R + 1 < 6 then fpl c n m (i + 1) (R + 1) x 0 else if ¬ kd (c i) = -1 ∧ cgr R C x then fpl c n m (i + 1) R C (x + 1) else (i, R, C)).1 ≤ n
    split
    · exact fpl_f m _ _ _ _ (by omega) (by omega)
    · split
      · exact fpl_f m _ _ _ _ (by omega) (by omega)
      · exact ⟨by show -1 ≤ i; omega, by show i ≤ n; omega⟩
section CV4
variable {E : q_E} {h h' : q_H} {x w v a b t N k d : Nat} {l lo ls f g c q : Int → Int} {p p2 pk : Int → Nat} {hs fa kr kd_ nx ct n : Int} {kl : Int → Int → Int}
theorem S_X7_layout (hC : CA h x l ls nx ct kl n c hs fa kr kd_) (hR : RgC l) (hn : 0 ≤ nx ∧ nx < 8) (hc : 0 ≤ ct ∧ ct ≤ 8) (hnn : 0 ≤ n ∧ n ≤ 60) (hE : q_EN E N) (hLo : Lo h N) (hN : N ≤ x) (hcc : ∀ i, 0 ≤ i → i < n → 0 ≤ c i ∧ c i < 65536)  : ∃ r_ h', q_cl E q_m_X7_layout [Value.ref x] h = some (r_, h') ∧ (MuL h x l ls nx ct kl n c hs kr kd_ r_ h') := by
  suffices K : ∀ Q : q_R → q_H → Prop, (∀ r_ h', (MuL h x l ls nx ct kl n c hs kr kd_ r_ h') → Q r_ h') → Xv E q_m_X7_layout 0 [Value.ref x] [] h Q from K _ fun _ _ p => p
  intro Q hQ
  obtain ⟨g0, g1, g2, g3, g4, gc, g5, g6, g7, gk, gl, gr, go⟩ := id hR
  obtain ⟨hX, ⟨p, hW⟩, hSN, hHI, ⟨R0, C0, hT, hTC⟩, hDS, hPL⟩ := id hC
  refine xv (x_aload_n 1 d_X7_layout_0 rfl rfl) ?_
  refine xv (x_aload_n 2 d_X7_layout_1 rfl rfl) ?_
  refine xv (x_getfield 5 d_X7_layout_2 rfl f_7_29 (Nat.le_of_ble_eq_true rfl) (Nat.le_of_ble_eq_true rfl) (q_gf_of hX rfl)) ?_
  obtain ⟨r5, h5, e5, z5, w5, f5⟩ := S_X2_findFault (E := E) hE hLo (by omega) hT hTC hnn hcc
  subst z5
  have X_5 := (f5.2 _ (by omega)).trans hX
  have W_5 := wh_fr hW f5 (by omega)
  have SN_5 := sn_fr hSN f5 (by omega)
  have HI_5 := hi_fr hHI f5 (by omega)
  have DS_5 := ds_fr hDS f5 (by omega)
  have PLX_5 := plx_fr hPL f5 (by omega)
  have C_5 := ai_fr hTC f5 (by omega)
  have LO_5 := lo_fr hLo f5 (by omega)
  have F5 : Fr x 444 h h5 := fr_tr fr_rf (fr_in f5 (by omega) (by omega))
  refine xv (x_inv1 8 (as := []) d_X7_layout_5 rfl c_7_77 rfl (Nat.le_of_ble_eq_true rfl) (Nat.le_of_ble_eq_true rfl) hT (Nat.le_of_ble_eq_true rfl) (Nat.le_of_ble_eq_true rfl) rfl e5) ?_
  have q5 : -1 ≤ (ff c n).1 ∧ (ff c n).1 ≤ n := fpl_f n.toNat 0 0 0 0 (by omega) (by omega)
  show Xv E q_m_X7_layout 8 [Value.ref x] [Value.int (zi ((ff c n).1)), Value.ref x] h5 Q
  obtain ⟨h8, e8, w8, f8⟩ := obj_pf (k := 7) (v := Value.int (zi ((ff c n).1))) X_5 (Nat.le_of_ble_eq_true rfl)
  have W_8 := wh_fr W_5 f8 (by omega)
  have SN_8 := sn_fr SN_5 f8 (by omega)
  have HI_8 := hi_fr HI_5 f8 (by omega)
  have DS_8 := ds_fr DS_5 f8 (by omega)
  have PLX_8 := plx_fr PLX_5 f8 (by omega)
  have T_8 := (f8.2 _ (by omega)).trans w5
  have C_8 := ai_fr C_5 f8 (by omega)
  have LO_8 := lo_fr LO_5 f8 (by omega)
  have F8 : Fr x 444 h h8 := fr_tr F5 (fr_in f8 (by omega) (by omega))
  replace w8 : h8.1 x = some (.inr (7, [Value.ref (x + 1), Value.ref (x + 39), Value.ref (x + 77), Value.ref (x + 383), Value.ref (x + 385), Value.ref (x + 439), Value.int (zi hs), Value.int (zi ((ff c n).1)), Value.int (zi kr), Value.int (zi kd_)])) := w8
  refine xv (x_putfield 11 d_X7_layout_8 rfl f_7_53 (Nat.le_of_ble_eq_true rfl) e8 rfl rfl (fun e => absurd e (by decide))) ?_
  show Xv E q_m_X7_layout 11 [Value.ref x] [] h8 Q
  refine xv (x_aload_n 12 d_X7_layout_11 rfl rfl) ?_
  refine xv (x_getfield 15 d_X7_layout_12 rfl f_7_53 (Nat.le_of_ble_eq_true rfl) (Nat.le_of_ble_eq_true rfl) (q_gf_of w8 rfl)) ?_
  refine xv (x_iconst 16 d_X7_layout_15 rfl) ?_
  refine v_icmp_eq 35 19 d_X7_layout_16 rfl rfl (by omega) (by omega) (by omega) (by omega) (fun k16 => ?_) (fun k16 => ?_)
  · have k0_ : (ff c n).1 = -1 := by omega
    have hRL : RgC (lay c n (ff c n).2.1 (ff c n).2.2 l) := lay_rgc hR hnn.1 k0_
    have hcs : cs (lay c n (ff c n).2.1 (ff c n).2.2 l) = (ff c n).2.1 * (ff c n).2.2 := lay_cs hnn.1 k0_
    refine xv (x_aload_n 36 d_X7_layout_35 rfl rfl) ?_
    refine xv (x_getfield 39 d_X7_layout_36 rfl f_7_22 (Nat.le_of_ble_eq_true rfl) (Nat.le_of_ble_eq_true rfl) (q_gf_of w8 rfl)) ?_
    refine xv (x_aload_n 40 d_X7_layout_39 rfl rfl) ?_
    refine xv (x_getfield 43 d_X7_layout_40 rfl f_7_12 (Nat.le_of_ble_eq_true rfl) (Nat.le_of_ble_eq_true rfl) (q_gf_of w8 rfl)) ?_
    obtain ⟨r43, h43, e43, z43, l43, i43, g43, f43⟩ := S_X1_keep (E := E) hR HI_8 W_8 hn hc (by omega)
    subst z43
    have X_43 := (f43.2 _ (by omega)).trans w8
    have W_43 := wh_fr W_8 f43 (by omega)
    have SN_43 := sn_fr SN_8 f43 (by omega)
    have DS_43 := ds_fr DS_8 f43 (by omega)
    have PLX_43 := plx_fr PLX_8 f43 (by omega)
    have T_43 := (f43.2 _ (by omega)).trans T_8
    have C_43 := ai_fr C_8 f43 (by omega)
    have LO_43 := lo_fr LO_8 f43 (by omega)
    have F43 : Fr x 444 h h43 := fr_tr F8 (fr_in f43 (by omega) (by omega))
    refine xv (x_inv0 46 (as := [Value.ref (x + 1)]) d_X7_layout_43 rfl c_7_84 rfl (Nat.le_of_ble_eq_true rfl) (Nat.le_of_ble_eq_true rfl) HI_8.1 (Nat.le_of_ble_eq_true rfl) (Nat.le_of_ble_eq_true rfl) rfl e43) ?_
    show Xv E q_m_X7_layout 46 [Value.ref x] [] h43 Q
    refine xv (x_aload_n 47 d_X7_layout_46 rfl rfl) ?_
    refine xv (x_getfield 50 d_X7_layout_47 rfl f_7_12 (Nat.le_of_ble_eq_true rfl) (Nat.le_of_ble_eq_true rfl) (q_gf_of X_43 rfl)) ?_
    refine xv (x_aload_n 51 d_X7_layout_50 rfl rfl) ?_
    refine xv (x_getfield 54 d_X7_layout_51 rfl f_7_29 (Nat.le_of_ble_eq_true rfl) (Nat.le_of_ble_eq_true rfl) (q_gf_of X_43 rfl)) ?_
    obtain ⟨r54, h54, e54, z54, w54, f54⟩ := S_X6_rebuild (E := E) W_43 hE LO_43 (by omega) (by omega) T_43 C_43 hnn hcc
    subst z54
    have X_54 := (f54.2 _ (by omega)).trans X_43
    have SN_54 := sn_fr SN_43 f54 (by omega)
    have HI_54 := hi_fr g43 f54 (by omega)
    have DS_54 := ds_fr DS_43 f54 (by omega)
    have PLX_54 := plx_fr PLX_43 f54 (by omega)
    have T_54 := (f54.2 _ (by omega)).trans T_43
    have C_54 := ai_fr C_43 f54 (by omega)
    have LO_54 := lo_fr LO_43 f54 (by omega)
    have F54 : Fr x 444 h h54 := fr_tr F43 (fr_in f54 (by omega) (by omega))
    refine xv (x_inv0 57 (as := [Value.ref (x + 383)]) d_X7_layout_54 rfl c_7_87 rfl (Nat.le_of_ble_eq_true rfl) (Nat.le_of_ble_eq_true rfl) (wh_o W_43) (Nat.le_of_ble_eq_true rfl) (Nat.le_of_ble_eq_true rfl) rfl e54) ?_
    show Xv E q_m_X7_layout 57 [Value.ref x] [] h54 Q
    refine xv (x_aload_n 58 d_X7_layout_57 rfl rfl) ?_
    refine xv (x_getfield 61 d_X7_layout_58 rfl f_7_29 (Nat.le_of_ble_eq_true rfl) (Nat.le_of_ble_eq_true rfl) (q_gf_of X_54 rfl)) ?_
    refine xv (x_iconst 62 d_X7_layout_61 rfl) ?_
    obtain ⟨h62, e62, w62, f62⟩ := obj_pf (k := 1) (v := Value.int (zi 0)) T_54 (Nat.le_of_ble_eq_true rfl)
    have X_62 := (f62.2 _ (by omega)).trans X_54
    have W_62 := wh_fr w54 f62 (by omega)
    have SN_62 := sn_fr SN_54 f62 (by omega)
    have HI_62 := hi_fr HI_54 f62 (by omega)
    have DS_62 := ds_fr DS_54 f62 (by omega)
    have PLX_62 := plx_fr PLX_54 f62 (by omega)
    have C_62 := ai_fr C_54 f62 (by omega)
    have LO_62 := lo_fr LO_54 f62 (by omega)
    have F62 : Fr x 444 h h62 := fr_tr F54 (fr_in f62 (by omega) (by omega))
    replace w62 : h62.1 (x + 383) = some (.inr (2, [Value.ref (x + 384), Value.int (zi 0), Value.int (zi ((ff c n).2.1)), Value.int (zi ((ff c n).2.2))])) := w62
    refine xv (x_putfield 65 d_X7_layout_62 rfl f_7_74 (Nat.le_of_ble_eq_true rfl) e62 rfl rfl (fun e => absurd e (by decide))) ?_
    show Xv E q_m_X7_layout 65 [Value.ref x] [] h62 Q
    refine xv (x_aload_n 66 d_X7_layout_65 rfl rfl) ?_
    refine xv (x_getfield 69 d_X7_layout_66 rfl f_7_12 (Nat.le_of_ble_eq_true rfl) (Nat.le_of_ble_eq_true rfl) (q_gf_of X_62 rfl)) ?_
    refine xv (x_inv1 72 (as := []) d_X7_layout_69 rfl c_7_91 rfl (Nat.le_of_ble_eq_true rfl) (Nat.le_of_ble_eq_true rfl) (wh_o W_62) (Nat.le_of_ble_eq_true rfl) (Nat.le_of_ble_eq_true rfl) rfl ((S_X6_cellCount (E := E) (l := lay c n (ff c n).2.1 (ff c n).2.2 l) W_62 hRL).trans (by rw [hcs]))) ?_
    show Xv E q_m_X7_layout 72 [Value.ref x] [Value.int (zi ((ff c n).2.1 * (ff c n).2.2))] h62 Q
    refine xv_r (x_ireturn d_X7_layout_72 rfl rfl) ?_
    rw [k0_] at X_62
    exact hQ _ _ (.inl ⟨k0_, rfl, hRL, _, _, _, ⟨rfl, rfl, l43, i43, rfl⟩, ⟨X_62, ⟨_, W_62⟩, SN_62, HI_62, ⟨_, _, w62, C_62⟩, DS_62, PLX_62⟩, F62⟩)
  · refine xv (x_aload_n 20 d_X7_layout_19 rfl rfl) ?_
    refine xv (x_getfield 23 d_X7_layout_20 rfl f_7_29 (Nat.le_of_ble_eq_true rfl) (Nat.le_of_ble_eq_true rfl) (q_gf_of w8 rfl)) ?_
    refine xv (x_iconst 24 d_X7_layout_23 rfl) ?_
    obtain ⟨h24, e24, w24, f24⟩ := obj_pf (k := 1) (v := Value.int (zi 0)) T_8 (Nat.le_of_ble_eq_true rfl)
    have X_24 := (f24.2 _ (by omega)).trans w8
    have W_24 := wh_fr W_8 f24 (by omega)
    have SN_24 := sn_fr SN_8 f24 (by omega)
    have HI_24 := hi_fr HI_8 f24 (by omega)
    have DS_24 := ds_fr DS_8 f24 (by omega)
    have PLX_24 := plx_fr PLX_8 f24 (by omega)
    have C_24 := ai_fr C_8 f24 (by omega)
    have LO_24 := lo_fr LO_8 f24 (by omega)
    have F24 : Fr x 444 h h24 := fr_tr F8 (fr_in f24 (by omega) (by omega))
    replace w24 : h24.1 (x + 383) = some (.inr (2, [Value.ref (x + 384), Value.int (zi 0), Value.int (zi ((ff c n).2.1)), Value.int (zi ((ff c n).2.2))])) := w24
    refine xv (x_putfield 27 d_X7_layout_24 rfl f_7_74 (Nat.le_of_ble_eq_true rfl) e24 rfl rfl (fun e => absurd e (by decide))) ?_
    show Xv E q_m_X7_layout 27 [Value.ref x] [] h24 Q
    refine xv_r (x_throw d_X7_layout_27 rfl rfl (Nat.le_of_ble_eq_true rfl) (Nat.le_of_ble_eq_true rfl) rfl rfl (Nat.le_of_ble_eq_true rfl)) ?_
    exact hQ _ _ (.inr ⟨k16, rfl, _, ⟨X_24, ⟨_, W_24⟩, SN_24, HI_24, ⟨_, _, w24, C_24⟩, DS_24, PLX_24⟩, F24, rfl⟩)
end CV4
