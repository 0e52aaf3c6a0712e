/-! the class's planner: the first plan (printed by program) -/
section CS
variable {E : q_E} {h h' : q_H} {w v a b t N k d P' : Nat} {l lo f g c q PQ PO PP : Int → Int} {p p2 pk : Int → Nat} {n R C z tr tc ro go_ gt : Int} {to : Int64} {TK : Int → Int64}
theorem fi_or {q o Pi Wy : Int → Int} {g gt n hd wy x : Int} (h : FI l ro g gt q o Pi Wy n hd wy) (x0 : 0 ≤ x) (x1 : x < 1488) : -1 ≤ o x ∧ o x < 1488 := by
  obtain ⟨h0, h1, h2, h3, h4, h5, h6, h7⟩ := h
  rcases h5 x x0 x1 with y | ⟨i, hi, e⟩
  · omega
  · have t := h2 i hi.1 hi.2
    have := h1 (Pi i) t.1.1 (by omega)
    rw [← e, t.2.2.2.2.1]
    omega
theorem grd_cg {g T : Int} {x x' : Int → Int} (hT : 0 ≤ T) (e : ∀ t, 0 ≤ t → t ≤ T → x t = x' t) (h : Grd l ro g T x) : Grd l ro g T x' := by
  obtain ⟨h0, h1⟩ := h
  refine ⟨(e 0 (by omega) hT).symm.trans h0, fun t a b => ?_⟩
  rw [← e t a (by omega), ← e (t + 1) (by omega) (by omega)]
  exact h1 t a b
theorem grd_r {g T : Int} {x : Int → Int} (hR : RgC l) (hr : isR l ro) (h : Grd l ro g T x) : ∀ t : Nat, (t : Int) ≤ T → isC l (x t) := by
  intro t
  induction t with
  | zero => intro _; rw [show ((0 : Nat) : Int) = 0 from rfl, h.1]; exact (rgc_r hR hr).1
  | succ t ih =>
    intro a
    obtain ⟨w, w1, w2, _⟩ := h.2 t (by omega) (by omega)
    have := besC_r (w := w) hR (ih (by omega))
    rw [w2.1] at this
    have e : ((t + 1 : Nat) : Int) = (t : Int) + 1 := by omega
    rw [e]
    omega
theorem S_X4_findFirst (hW : WH h w l p) (hR : RgC l) (hP : PLo h P' w ro go_ gt) (hK : AL h (P' + 3) 31 TK) (hQQ : AI h (P' + 1) 0 1488 PQ) (hO : AI h (P' + 2) 0 1488 PO) (hPP : AI h (P' + 4) 0 30 PP) {x y : Int} (hx : isR l x) (hy : isC l y) (he : ent l y) (sp : P' + 5 ≤ w ∨ w + 38 ≤ P') : ∃ r_ h', q_cl E q_m_X4_findFirst [Value.ref (P'), Value.int (zi x), Value.int (zi y)] h = some (r_, h') ∧ (r_ = .inl (some (.int (zi (fT l x y)))) ∧ ∃ TK' gt' PQ' PO' PP', (WH h' w l p ∧ PLo h' P' w x y gt' ∧ AL h' (P' + 3) 31 TK' ∧ AI h' (P' + 1) 0 1488 PQ' ∧ AI h' (P' + 2) 0 1488 PO' ∧ AI h' (P' + 4) 0 30 PP') ∧ (¬ fT l x y = -1 → Grd l x y (fT l x y) (fun t => if t = 0 then rb l x 0 else PP' (t - 1))) ∧ Fr P' 5 h h') := by
  suffices K : ∀ Q : q_R → q_H → Prop, (∀ r_ h', (r_ = .inl (some (.int (zi (fT l x y)))) ∧ ∃ TK' gt' PQ' PO' PP', (WH h' w l p ∧ PLo h' P' w x y gt' ∧ AL h' (P' + 3) 31 TK' ∧ AI h' (P' + 1) 0 1488 PQ' ∧ AI h' (P' + 2) 0 1488 PO' ∧ AI h' (P' + 4) 0 30 PP') ∧ (¬ fT l x y = -1 → Grd l x y (fT l x y) (fun t => if t = 0 then rb l x 0 else PP' (t - 1))) ∧ Fr P' 5 h h') → Q r_ h') → Xv E q_m_X4_findFirst 0 [Value.ref (P'), Value.int (zi x), Value.int (zi y), Value.null, Value.null, Value.null, Value.null, Value.null, Value.null, Value.null, Value.null] [] h Q from K _ fun _ _ p => p
  intro Q hQ
  obtain ⟨g0, g1, g2, g3, g4, gc, g5, g6, g7, gk, gl, gr, go⟩ := id hR
  have gq := gr x hx.1 hx.2
  refine xv (x_aload_n 1 d_X4_findFirst_0 rfl rfl) ?_
  refine xv (x_iload_n 2 d_X4_findFirst_1 rfl rfl) ?_
  refine xv (x_iload_n 3 d_X4_findFirst_2 rfl rfl) ?_
  obtain ⟨r3, h3, e3, z3, K3, ⟨w3, d3, m3⟩, t3, g3, f3⟩ := S_X4_prepare (E := E) (x := x) (y := y) hW hR hP hK hx hy he (by omega)
  subst z3
  have Q3 := fq_fr f3
  have PQ_3 := ai_fq hQQ f3 (by omega)
  have PO_3 := ai_fq hO f3 (by omega)
  have PP_3 := ai_fq hPP f3 (by omega)
  have F3 : Fr (P') 5 h h3 := fr_tr fr_rf (fr_in Q3 (by omega) (by omega))
  refine xv (x_inv1 6 (as := [Value.int (zi x), Value.int (zi y)]) d_X4_findFirst_3 rfl c_4_29 rfl (Nat.le_of_ble_eq_true rfl) (Nat.le_of_ble_eq_true rfl) hP (Nat.le_of_ble_eq_true rfl) (Nat.le_of_ble_eq_true rfl) rfl e3) ?_
  have hT := t3
  have hgt := g3
  show Xv E q_m_X4_findFirst 6 [Value.ref (P'), Value.int (zi x), Value.int (zi y), Value.null, Value.null, Value.null, Value.null, Value.null, Value.null, Value.null, Value.null] [Value.int (zi (bI (gtu l x y < l 7)))] h3 Q
  refine v_if_ne 11 9 d_X4_findFirst_6 rfl rfl (by have := bI_r (gtu l x y < l 7); omega) (by have := bI_r (gtu l x y < l 7); omega) (fun k6 => ?_) (fun k6 => ?_)
  · replace k6 := bI_n0.mp k6
    refine xv (x_aload_n 12 d_X4_findFirst_11 rfl rfl) ?_
    refine xv (x_getfield 15 d_X4_findFirst_12 rfl f_4_19 (Nat.le_of_ble_eq_true rfl) (Nat.le_of_ble_eq_true rfl) (q_gf_of d3 rfl)) ?_
    refine xv (x_iconst 16 d_X4_findFirst_15 rfl) ?_
    obtain ⟨r16, h16, e16, z16, w16, f16⟩ := S_J7_fill (E := E) (x := (-1)) PO_3 (by decide)
    subst z16
    have W_16 := wh_fr w3 f16 (by omega)
    have PL_16 := (f16.2 _ (by omega)).trans d3
    have TK_16 := al_fr m3 f16 (by omega)
    have PQ_16 := ai_fr PQ_3 f16 (by omega)
    have PP_16 := ai_fr PP_3 f16 (by omega)
    have F16 : Fr (P') 5 h h16 := fr_tr F3 (fr_in f16 (by omega) (by omega))
    refine xv (x_ins0 19 (as := [Value.ref (P' + 2), Value.int (zi (-1))]) d_X4_findFirst_16 rfl c_4_33 rfl (Nat.le_of_ble_eq_true rfl) (Nat.le_of_ble_eq_true rfl) (Nat.le_of_ble_eq_true rfl) rfl e16) ?_
    show Xv E q_m_X4_findFirst 19 [Value.ref (P'), Value.int (zi x), Value.int (zi y), Value.null, Value.null, Value.null, Value.null, Value.null, Value.null, Value.null, Value.null] [] h16 Q
    refine xv (x_aload_n 20 d_X4_findFirst_19 rfl rfl) ?_
    refine xv (x_inv1 23 (as := []) d_X4_findFirst_20 rfl c_4_39 rfl (Nat.le_of_ble_eq_true rfl) (Nat.le_of_ble_eq_true rfl) PL_16 (Nat.le_of_ble_eq_true rfl) (Nat.le_of_ble_eq_true rfl) rfl (S_X4_horizon W_16 hR PL_16)) ?_
    show Xv E q_m_X4_findFirst 23 [Value.ref (P'), Value.int (zi x), Value.int (zi y), Value.null, Value.null, Value.null, Value.null, Value.null, Value.null, Value.null, Value.null] [Value.int (zi (l 7))] h16 Q
    refine xv (x_istore_n 24 d_X4_findFirst_23 rfl (Nat.le_of_ble_eq_true rfl)) ?_
    show Xv E q_m_X4_findFirst 24 [Value.ref (P'), Value.int (zi x), Value.int (zi y), Value.int (zi (l 7)), Value.null, Value.null, Value.null, Value.null, Value.null, Value.null, Value.null] [] h16 Q
    refine xv (x_aload_n 25 d_X4_findFirst_24 rfl rfl) ?_
    refine xv (x_getfield 28 d_X4_findFirst_25 rfl f_4_15 (Nat.le_of_ble_eq_true rfl) (Nat.le_of_ble_eq_true rfl) (q_gf_of PL_16 rfl)) ?_
    refine xv (x_iconst 29 d_X4_findFirst_28 rfl) ?_
    refine xv (x_aload_n 30 d_X4_findFirst_29 rfl rfl) ?_
    refine xv (x_getfield 33 d_X4_findFirst_30 rfl f_4_9 (Nat.le_of_ble_eq_true rfl) (Nat.le_of_ble_eq_true rfl) (q_gf_of PL_16 rfl)) ?_
    refine xv (x_getfield 36 d_X4_findFirst_33 rfl f_4_43 (Nat.le_of_ble_eq_true rfl) (Nat.le_of_ble_eq_true rfl) (q_gf_of (wh_o W_16) rfl)) ?_
    refine xv (x_aload_n 37 d_X4_findFirst_36 rfl rfl) ?_
    refine xv (x_getfield 40 d_X4_findFirst_37 rfl f_4_49 (Nat.le_of_ble_eq_true rfl) (Nat.le_of_ble_eq_true rfl) (q_gf_of PL_16 rfl)) ?_
    refine xv (x_aaload 41 d_X4_findFirst_40 rfl (wh_rs W_16 (by omega) (by omega))) ?_
    refine xv (x_getfield 44 d_X4_findFirst_41 rfl f_4_53 (Nat.le_of_ble_eq_true rfl) (Nat.le_of_ble_eq_true rfl) (q_gf_of (wh_r W_16 (by omega) (by omega)).1 rfl)) ?_
    obtain ⟨h44, e44, w44, f44⟩ := ai_s (z := 0) (v := rb l x 0) PQ_16 (by omega) (by omega) (by decide)
    have W_44 := wh_fr W_16 f44 (by omega)
    have PL_44 := (f44.2 _ (by omega)).trans PL_16
    have TK_44 := al_fr TK_16 f44 (by omega)
    have PO_44 := ai_fr w16 f44 (by omega)
    have PP_44 := ai_fr PP_16 f44 (by omega)
    have F44 : Fr (P') 5 h h44 := fr_tr F16 (fr_in f44 (by omega) (by omega))
    refine xv (x_iastore 45 d_X4_findFirst_44 rfl e44) ?_
    show Xv E q_m_X4_findFirst 45 [Value.ref (P'), Value.int (zi x), Value.int (zi y), Value.int (zi (l 7)), Value.null, Value.null, Value.null, Value.null, Value.null, Value.null, Value.null] [] h44 Q
    refine xv (x_iconst 46 d_X4_findFirst_45 rfl) ?_
    refine xv (x_istore 48 d_X4_findFirst_46 rfl (Nat.le_of_ble_eq_true rfl)) ?_
    show Xv E q_m_X4_findFirst 48 [Value.ref (P'), Value.int (zi x), Value.int (zi y), Value.int (zi (l 7)), Value.int (zi 1), Value.null, Value.null, Value.null, Value.null, Value.null, Value.null] [] h44 Q
    refine xv (x_iconst 49 d_X4_findFirst_48 rfl) ?_
    refine xv (x_istore 51 d_X4_findFirst_49 rfl (Nat.le_of_ble_eq_true rfl)) ?_
    show Xv E q_m_X4_findFirst 51 [Value.ref (P'), Value.int (zi x), Value.int (zi y), Value.int (zi (l 7)), Value.int (zi 1), Value.int (zi 0), Value.null, Value.null, Value.null, Value.null, Value.null] [] h44 Q
    have L51 : ∀ (n_ : Nat) (n : Int) (hd : Int) (q : Int → Int) (o : Int → Int) (Pi : Int → Int) (Wy : Int → Int) (x6 : Value) (x7 : Value) (x8 : Value) (x9 : Value) (x10 : Value) (H : q_H), (0 ≤ hd) → (hd ≤ n) → (n ≤ 1488) → (FI l x y (gtu l x y) q o Pi Wy n hd 0) → (WH H w l p) → (PLo H P' w x y (gtu l x y)) → (AL H (P' + 3) 31 K3) → (AI H (P' + 1) 0 1488 q) → (AI H (P' + 2) 0 1488 o) → (AI H (P' + 4) 0 30 PP) → (Fr P' 5 h H) → (1488 - hd).toNat = n_ → Xv E q_m_X4_findFirst 51 [Value.ref (P'), Value.int (zi x), Value.int (zi y), Value.int (zi (l 7)), Value.int (zi n), Value.int (zi hd), x6, x7, x8, x9, x10] [] H Q := by
      intro n_
      induction n_ using Nat.strongRecOn with
      | _ n_ ih51 =>
        intro n hd q o Pi Wy x6 x7 x8 x9 x10 H hd0 hdn n0 hFI hW2 hP2 hK2 hQQ2 hO2 hPP2 hF2 em
        refine xv (x_iload 53 d_X4_findFirst_51 rfl rfl) ?_
        refine xv (x_iload 55 d_X4_findFirst_53 rfl rfl) ?_
        refine v_icmp_ge 227 58 d_X4_findFirst_55 rfl rfl (by omega) (by omega) (by omega) (by omega) (fun k55 => ?_) (fun k55 => ?_)
        · refine xv (x_iconst 228 d_X4_findFirst_227 rfl) ?_
          refine xv_r (x_ireturn d_X4_findFirst_228 rfl rfl) ?_
          have ev : fT l x y = -1 := fi_none hR hx hy hFI hd0 (fun j a b c => by omega)
          exact hQ _ _ ⟨by rw [ev], _, _, _, _, _, ⟨hW2, hP2, hK2, hQQ2, hO2, hPP2⟩, fun e => absurd ev e, hF2⟩
        · refine xv (x_iload 60 d_X4_findFirst_58 rfl rfl) ?_
          refine xv (x_sipush 63 d_X4_findFirst_60 rfl rfl) ?_
          refine v_icmp_ge 227 66 d_X4_findFirst_63 rfl rfl (by omega) (by omega) (by omega) (by omega) (fun k63 => ?_) (fun k63 => ?_)
          · refine xv (x_iconst 228 d_X4_findFirst_227 rfl) ?_
            refine xv_r (x_ireturn d_X4_findFirst_228 rfl rfl) ?_
            have ev : fT l x y = -1 := fi_none hR hx hy hFI hd0 (fun j a b c => by omega)
            exact hQ _ _ ⟨by rw [ev], _, _, _, _, _, ⟨hW2, hP2, hK2, hQQ2, hO2, hPP2⟩, fun e => absurd ev e, hF2⟩
          · refine xv (x_aload_n 67 d_X4_findFirst_66 rfl rfl) ?_
            refine xv (x_getfield 70 d_X4_findFirst_67 rfl f_4_15 (Nat.le_of_ble_eq_true rfl) (Nat.le_of_ble_eq_true rfl) (q_gf_of hP2 rfl)) ?_
            refine xv (x_iload 72 d_X4_findFirst_70 rfl rfl) ?_
            refine xv (x_iaload 73 d_X4_findFirst_72 rfl (ai_g hQQ2 (by omega) (by omega) (by decide))) ?_
            have I1 := hFI.2.1 hd hd0 (by omega)
            refine xv (x_istore 75 d_X4_findFirst_73 rfl (Nat.le_of_ble_eq_true rfl)) ?_
            show Xv E q_m_X4_findFirst 75 [Value.ref (P'), Value.int (zi x), Value.int (zi y), Value.int (zi (l 7)), Value.int (zi n), Value.int (zi hd), Value.int (zi (q hd)), x7, x8, x9, x10] [] H Q
            refine xv (x_iload 77 d_X4_findFirst_75 rfl rfl) ?_
            refine xv (x_bipush 79 d_X4_findFirst_77 rfl rfl) ?_
            refine xv (x_irem 80 d_X4_findFirst_79 rfl (by omega) (by omega) (by omega) (by omega)) ?_
            refine xv (x_istore 82 d_X4_findFirst_80 rfl (Nat.le_of_ble_eq_true rfl)) ?_
            show Xv E q_m_X4_findFirst 82 [Value.ref (P'), Value.int (zi x), Value.int (zi y), Value.int (zi (l 7)), Value.int (zi n), Value.int (zi hd), Value.int (zi (q hd)), Value.int (zi ((q hd) % 48)), x8, x9, x10] [] H Q
            refine xv (x_iload 84 d_X4_findFirst_82 rfl rfl) ?_
            refine xv (x_bipush 86 d_X4_findFirst_84 rfl rfl) ?_
            refine xv (x_idiv 87 d_X4_findFirst_86 rfl (by omega) (by omega) (by omega) (by omega)) ?_
            refine xv (x_iconst 88 d_X4_findFirst_87 rfl) ?_
            refine xv (x_iadd 89 d_X4_findFirst_88 rfl) ?_
            refine xv (x_istore 91 d_X4_findFirst_89 rfl (Nat.le_of_ble_eq_true rfl)) ?_
            show Xv E q_m_X4_findFirst 91 [Value.ref (P'), Value.int (zi x), Value.int (zi y), Value.int (zi (l 7)), Value.int (zi n), Value.int (zi hd), Value.int (zi (q hd)), Value.int (zi ((q hd) % 48)), Value.int (zi (((q hd) / 48) + 1)), x9, x10] [] H Q
            refine xv (x_iload 93 d_X4_findFirst_91 rfl rfl) ?_
            refine xv (x_iload_n 94 d_X4_findFirst_93 rfl rfl) ?_
            refine v_icmp_le 99 97 d_X4_findFirst_94 rfl rfl (by omega) (by omega) (by omega) (by omega) (fun k94 => ?_) (fun k94 => ?_)
            · refine xv (x_iconst 100 d_X4_findFirst_99 rfl) ?_
              refine xv (x_istore 102 d_X4_findFirst_100 rfl (Nat.le_of_ble_eq_true rfl)) ?_
              show Xv E q_m_X4_findFirst 102 [Value.ref (P'), Value.int (zi x), Value.int (zi y), Value.int (zi (l 7)), Value.int (zi n), Value.int (zi hd), Value.int (zi (q hd)), Value.int (zi ((q hd) % 48)), Value.int (zi (((q hd) / 48) + 1)), Value.int (zi 0), x10] [] H Q
              have L102 : ∀ (n_ : Nat) (wy : Int) (n2 : Int) (q2 : Int → Int) (o2 : Int → Int) (Pi2 : Int → Int) (Wy2 : Int → Int) (x10 : Value) (H2 : q_H), (0 ≤ wy ∧ wy ≤ 5) → (n ≤ n2) → (n2 ≤ 1488) → (FI l x y (gtu l x y) q2 o2 Pi2 Wy2 n2 hd wy) → (q2 hd = q hd) → (WH H2 w l p) → (PLo H2 P' w x y (gtu l x y)) → (AL H2 (P' + 3) 31 K3) → (AI H2 (P' + 1) 0 1488 q2) → (AI H2 (P' + 2) 0 1488 o2) → (AI H2 (P' + 4) 0 30 PP) → (Fr P' 5 h H2) → (5 - wy).toNat = n_ → Xv E q_m_X4_findFirst 102 [Value.ref (P'), Value.int (zi x), Value.int (zi y), Value.int (zi (l 7)), Value.int (zi n2), Value.int (zi hd), Value.int (zi (q hd)), Value.int (zi ((q hd) % 48)), Value.int (zi (((q hd) / 48) + 1)), Value.int (zi wy), x10] [] H2 Q := by
                intro n_
                induction n_ using Nat.strongRecOn with
                | _ n_ ih102 =>
                  intro wy n2 q2 o2 Pi2 Wy2 x10 H2 w0 nn n20 hFI2 hq hW3 hP3 hK3 hQQ3 hO3 hPP3 hF3 em
                  refine xv (x_iload 104 d_X4_findFirst_102 rfl rfl) ?_
                  refine xv (x_iconst 105 d_X4_findFirst_104 rfl) ?_
                  refine v_icmp_gt 221 108 d_X4_findFirst_105 rfl rfl (by omega) (by omega) (by omega) (by omega) (fun k105 => ?_) (fun k105 => ?_)
                  · refine xv (x_iinc 224 d_X4_findFirst_221 rfl rfl) ?_
                    show Xv E q_m_X4_findFirst 224 [Value.ref (P'), Value.int (zi x), Value.int (zi y), Value.int (zi (l 7)), Value.int (zi n2), Value.int (zi (hd + 1)), Value.int (zi (q hd)), Value.int (zi ((q hd) % 48)), Value.int (zi (((q hd) / 48) + 1)), Value.int (zi wy), x10] [] H2 Q
                    refine xv (x_goto 51 d_X4_findFirst_224 rfl) ?_
                    rw [show wy = 5 by omega] at hFI2
                    exact ih51 _ (by omega) n2 (hd + 1) _ _ _ _ _ _ _ _ _ _ (by omega) (by omega) (by omega) (fi_h hFI2) hW3 hP3 hK3 hQQ3 hO3 hPP3 hF3 rfl
                  · refine xv (x_aload_n 109 d_X4_findFirst_108 rfl rfl) ?_
                    refine xv (x_getfield 112 d_X4_findFirst_109 rfl f_4_9 (Nat.le_of_ble_eq_true rfl) (Nat.le_of_ble_eq_true rfl) (q_gf_of hP3 rfl)) ?_
                    refine xv (x_iload 114 d_X4_findFirst_112 rfl rfl) ?_
                    refine xv (x_iload 116 d_X4_findFirst_114 rfl rfl) ?_
                    refine xv (x_inv1 119 (as := [Value.int (zi ((q hd) % 48)), Value.int (zi wy)]) d_X4_findFirst_116 rfl c_4_58 rfl (Nat.le_of_ble_eq_true rfl) (Nat.le_of_ble_eq_true rfl) (wh_o hW3) (Nat.le_of_ble_eq_true rfl) (Nat.le_of_ble_eq_true rfl) rfl (S_X6_neighbor hW3 hR (by omega) (by omega) (by omega))) ?_
                    have q116 := besC_r (w := wy) hR (show isC l ((q hd) % 48) by omega)
                    show Xv E q_m_X4_findFirst 119 [Value.ref (P'), Value.int (zi x), Value.int (zi y), Value.int (zi (l 7)), Value.int (zi n2), Value.int (zi hd), Value.int (zi (q hd)), Value.int (zi ((q hd) % 48)), Value.int (zi (((q hd) / 48) + 1)), Value.int (zi wy), x10] [Value.int (zi (bes l ((q hd) % 48) wy))] H2 Q
                    refine xv (x_istore 121 d_X4_findFirst_119 rfl (Nat.le_of_ble_eq_true rfl)) ?_
                    show Xv E q_m_X4_findFirst 121 [Value.ref (P'), Value.int (zi x), Value.int (zi y), Value.int (zi (l 7)), Value.int (zi n2), Value.int (zi hd), Value.int (zi (q hd)), Value.int (zi ((q hd) % 48)), Value.int (zi (((q hd) / 48) + 1)), Value.int (zi wy), Value.int (zi (bes l ((q hd) % 48) wy))] [] H2 Q
                    have I2 := hFI2.2.1 hd hd0 (by omega)
                    rw [hq] at I2
                    have en : nch l q2 hd wy = (q hd / 48 + 1) * 48 + bes l (q hd % 48) wy := by unfold nch; rw [hq]
                    refine xv (x_aload_n 122 d_X4_findFirst_121 rfl rfl) ?_
                    refine xv (x_iload 124 d_X4_findFirst_122 rfl rfl) ?_
                    refine xv (x_iload 126 d_X4_findFirst_124 rfl rfl) ?_
                    refine xv (x_iload 128 d_X4_findFirst_126 rfl rfl) ?_
                    refine xv (x_inv1 131 (as := [Value.int (zi ((q hd) % 48)), Value.int (zi (bes l ((q hd) % 48) wy)), Value.int (zi (((q hd) / 48) + 1))]) d_X4_findFirst_128 rfl c_4_62 rfl (Nat.le_of_ble_eq_true rfl) (Nat.le_of_ble_eq_true rfl) hP3 (Nat.le_of_ble_eq_true rfl) (Nat.le_of_ble_eq_true rfl) rfl (S_X4_canStep hW3 hR hP3 hK3 hx hT (by omega) (by omega) (by omega) (by omega) (by omega) (by omega))) ?_
                    show Xv E q_m_X4_findFirst 131 [Value.ref (P'), Value.int (zi x), Value.int (zi y), Value.int (zi (l 7)), Value.int (zi n2), Value.int (zi hd), Value.int (zi (q hd)), Value.int (zi ((q hd) % 48)), Value.int (zi (((q hd) / 48) + 1)), Value.int (zi wy), Value.int (zi (bes l ((q hd) % 48) wy))] [Value.int (zi (bI (isC l (bes l ((q hd) % 48) wy) ∧ mgo l x ((q hd) % 48) (bes l ((q hd) % 48) wy) ((((q hd) / 48) + 1) - 1))))] H2 Q
                    refine v_if_eq 215 134 d_X4_findFirst_131 rfl rfl (by have := bI_r (isC l (bes l ((q hd) % 48) wy) ∧ mgo l x ((q hd) % 48) (bes l ((q hd) % 48) wy) ((((q hd) / 48) + 1) - 1)); omega) (by have := bI_r (isC l (bes l ((q hd) % 48) wy) ∧ mgo l x ((q hd) % 48) (bes l ((q hd) % 48) wy) ((((q hd) / 48) + 1) - 1)); omega) (fun k131 => ?_) (fun k131 => ?_)
                    · replace k131 := bI_0.mp k131
                      refine xv (x_iinc 218 d_X4_findFirst_215 rfl rfl) ?_
                      show Xv E q_m_X4_findFirst 218 [Value.ref (P'), Value.int (zi x), Value.int (zi y), Value.int (zi (l 7)), Value.int (zi n2), Value.int (zi hd), Value.int (zi (q hd)), Value.int (zi ((q hd) % 48)), Value.int (zi (((q hd) / 48) + 1)), Value.int (zi (wy + 1)), Value.int (zi (bes l ((q hd) % 48) wy))] [] H2 Q
                      refine xv (x_goto 102 d_X4_findFirst_218 rfl) ?_
                      refine ih102 _ (by omega) (wy + 1) n2 _ _ Pi2 Wy2 _ _ (by omega) (by omega) (by omega) (fi_w hFI2 ⟨hd0, by omega⟩ ?_) hq hW3 hP3 hK3 hQQ3 hO3 hPP3 hF3 rfl
                      first
                      | exact .inl (fun z => k131 ⟨by have := z.1; rw [hq] at this; omega, by have := z.2; rw [hq] at this; rw [show q hd / 48 + 1 - 1 = q hd / 48 by omega]; exact this⟩)
                      | exact .inr ⟨by rw [en]; exact k148, by rw [en]; omega, by rw [en]; omega⟩
                    · replace k131 := bI_n0.mp k131
                      refine xv (x_aload_n 135 d_X4_findFirst_134 rfl rfl) ?_
                      refine xv (x_getfield 138 d_X4_findFirst_135 rfl f_4_19 (Nat.le_of_ble_eq_true rfl) (Nat.le_of_ble_eq_true rfl) (q_gf_of hP3 rfl)) ?_
                      refine xv (x_iload 140 d_X4_findFirst_138 rfl rfl) ?_
                      refine xv (x_bipush 142 d_X4_findFirst_140 rfl rfl) ?_
                      refine xv (x_imul 143 d_X4_findFirst_142 rfl) ?_
                      refine xv (x_iload 145 d_X4_findFirst_143 rfl rfl) ?_
                      refine xv (x_iadd 146 d_X4_findFirst_145 rfl) ?_
                      refine xv (x_iaload 147 d_X4_findFirst_146 rfl (ai_g hO3 (by omega) (by omega) (by decide))) ?_
                      have q146 := fi_or hFI2 (x := (q hd / 48 + 1) * 48 + bes l (q hd % 48) wy) (by omega) (by omega)
                      refine xv (x_iconst 148 d_X4_findFirst_147 rfl) ?_
                      refine v_icmp_ne 215 151 d_X4_findFirst_148 rfl rfl (by omega) (by omega) (by omega) (by omega) (fun k148 => ?_) (fun k148 => ?_)
                      · refine xv (x_iinc 218 d_X4_findFirst_215 rfl rfl) ?_
                        show Xv E q_m_X4_findFirst 218 [Value.ref (P'), Value.int (zi x), Value.int (zi y), Value.int (zi (l 7)), Value.int (zi n2), Value.int (zi hd), Value.int (zi (q hd)), Value.int (zi ((q hd) % 48)), Value.int (zi (((q hd) / 48) + 1)), Value.int (zi (wy + 1)), Value.int (zi (bes l ((q hd) % 48) wy))] [] H2 Q
                        refine xv (x_goto 102 d_X4_findFirst_218 rfl) ?_
                        refine ih102 _ (by omega) (wy + 1) n2 _ _ Pi2 Wy2 _ _ (by omega) (by omega) (by omega) (fi_w hFI2 ⟨hd0, by omega⟩ ?_) hq hW3 hP3 hK3 hQQ3 hO3 hPP3 hF3 rfl
                        first
                        | exact .inl (fun z => k131 ⟨by have := z.1; rw [hq] at this; omega, by have := z.2; rw [hq] at this; rw [show q hd / 48 + 1 - 1 = q hd / 48 by omega]; exact this⟩)
                        | exact .inr ⟨by rw [en]; exact k148, by rw [en]; omega, by rw [en]; omega⟩
                      · have ho : o2 (nch l q2 hd wy) = -1 := by rw [en]; exact k148
                        have nk : nok l x q2 hd wy := by refine ⟨by rw [hq]; omega, ?_⟩; rw [hq]; have := k131.2; rw [show q hd / 48 + 1 - 1 = q hd / 48 by omega] at this; exact this
                        have n1488 := (fi_new (by omega) hFI2 ⟨hd0, by omega⟩ ho (by rw [hq]; omega) ⟨by rw [hq]; omega, by rw [hq]; omega⟩).2
                        refine xv (x_iload 153 d_X4_findFirst_151 rfl rfl) ?_
                        refine xv (x_sipush 156 d_X4_findFirst_153 rfl rfl) ?_
                        refine v_icmp_lt 162 159 d_X4_findFirst_156 rfl rfl (by omega) (by omega) (by omega) (by omega) (fun k156 => ?_) (fun k156 => ?_)
                        · refine xv (x_aload_n 163 d_X4_findFirst_162 rfl rfl) ?_
                          refine xv (x_getfield 166 d_X4_findFirst_163 rfl f_4_19 (Nat.le_of_ble_eq_true rfl) (Nat.le_of_ble_eq_true rfl) (q_gf_of hP3 rfl)) ?_
                          refine xv (x_iload 168 d_X4_findFirst_166 rfl rfl) ?_
                          refine xv (x_bipush 170 d_X4_findFirst_168 rfl rfl) ?_
                          refine xv (x_imul 171 d_X4_findFirst_170 rfl) ?_
                          refine xv (x_iload 173 d_X4_findFirst_171 rfl rfl) ?_
                          refine xv (x_iadd 174 d_X4_findFirst_173 rfl) ?_
                          refine xv (x_iload 176 d_X4_findFirst_174 rfl rfl) ?_
                          obtain ⟨h176, e176, w176, f176⟩ := ai_s (z := ((((q hd) / 48) + 1) * 48) + (bes l ((q hd) % 48) wy)) (v := q hd) hO3 (by omega) (by omega) (by decide)
                          have W_176 := wh_fr hW3 f176 (by omega)
                          have PL_176 := (f176.2 _ (by omega)).trans hP3
                          have TK_176 := al_fr hK3 f176 (by omega)
                          have PQ_176 := ai_fr hQQ3 f176 (by omega)
                          have PP_176 := ai_fr hPP3 f176 (by omega)
                          have F176 : Fr (P') 5 h h176 := fr_tr hF3 (fr_in f176 (by omega) (by omega))
                          refine xv (x_iastore 177 d_X4_findFirst_176 rfl e176) ?_
                          show Xv E q_m_X4_findFirst 177 [Value.ref (P'), Value.int (zi x), Value.int (zi y), Value.int (zi (l 7)), Value.int (zi n2), Value.int (zi hd), Value.int (zi (q hd)), Value.int (zi ((q hd) % 48)), Value.int (zi (((q hd) / 48) + 1)), Value.int (zi wy), Value.int (zi (bes l ((q hd) % 48) wy))] [] h176 Q
                          refine xv (x_aload_n 178 d_X4_findFirst_177 rfl rfl) ?_
                          refine xv (x_getfield 181 d_X4_findFirst_178 rfl f_4_15 (Nat.le_of_ble_eq_true rfl) (Nat.le_of_ble_eq_true rfl) (q_gf_of PL_176 rfl)) ?_
                          refine xv (x_iload 183 d_X4_findFirst_181 rfl rfl) ?_
                          refine xv (x_iload 185 d_X4_findFirst_183 rfl rfl) ?_
                          refine xv (x_bipush 187 d_X4_findFirst_185 rfl rfl) ?_
                          refine xv (x_imul 188 d_X4_findFirst_187 rfl) ?_
                          refine xv (x_iload 190 d_X4_findFirst_188 rfl rfl) ?_
                          refine xv (x_iadd 191 d_X4_findFirst_190 rfl) ?_
                          obtain ⟨h191, e191, w191, f191⟩ := ai_s (z := n2) (v := ((((q hd) / 48) + 1) * 48) + (bes l ((q hd) % 48) wy)) PQ_176 (by omega) (by omega) (by decide)
                          have W_191 := wh_fr W_176 f191 (by omega)
                          have PL_191 := (f191.2 _ (by omega)).trans PL_176
                          have TK_191 := al_fr TK_176 f191 (by omega)
                          have PO_191 := ai_fr w176 f191 (by omega)
                          have PP_191 := ai_fr PP_176 f191 (by omega)
                          have F191 : Fr (P') 5 h h191 := fr_tr F176 (fr_in f191 (by omega) (by omega))
                          refine xv (x_iastore 192 d_X4_findFirst_191 rfl e191) ?_
                          show Xv E q_m_X4_findFirst 192 [Value.ref (P'), Value.int (zi x), Value.int (zi y), Value.int (zi (l 7)), Value.int (zi n2), Value.int (zi hd), Value.int (zi (q hd)), Value.int (zi ((q hd) % 48)), Value.int (zi (((q hd) / 48) + 1)), Value.int (zi wy), Value.int (zi (bes l ((q hd) % 48) wy))] [] h191 Q
                          refine xv (x_iinc 195 d_X4_findFirst_192 rfl rfl) ?_
                          show Xv E q_m_X4_findFirst 195 [Value.ref (P'), Value.int (zi x), Value.int (zi y), Value.int (zi (l 7)), Value.int (zi (n2 + 1)), Value.int (zi hd), Value.int (zi (q hd)), Value.int (zi ((q hd) % 48)), Value.int (zi (((q hd) / 48) + 1)), Value.int (zi wy), Value.int (zi (bes l ((q hd) % 48) wy))] [] h191 Q
                          refine xv (x_aload_n 196 d_X4_findFirst_195 rfl rfl) ?_
                          refine xv (x_iload 198 d_X4_findFirst_196 rfl rfl) ?_
                          refine xv (x_iload 200 d_X4_findFirst_198 rfl rfl) ?_
                          refine xv (x_inv1 203 (as := [Value.int (zi (bes l ((q hd) % 48) wy)), Value.int (zi (((q hd) / 48) + 1))]) d_X4_findFirst_200 rfl c_4_66 rfl (Nat.le_of_ble_eq_true rfl) (Nat.le_of_ble_eq_true rfl) PL_191 (Nat.le_of_ble_eq_true rfl) (Nat.le_of_ble_eq_true rfl) rfl (S_X4_canEndAt W_191 hR PL_191 (by omega) hgt (by omega) (by omega) (by omega) (by omega))) ?_
                          show Xv E q_m_X4_findFirst 203 [Value.ref (P'), Value.int (zi x), Value.int (zi y), Value.int (zi (l 7)), Value.int (zi (n2 + 1)), Value.int (zi hd), Value.int (zi (q hd)), Value.int (zi ((q hd) % 48)), Value.int (zi (((q hd) / 48) + 1)), Value.int (zi wy), Value.int (zi (bes l ((q hd) % 48) wy))] [Value.int (zi (bI ((bes l ((q hd) % 48) wy) = y ∧ (gtu l x y) < (((q hd) / 48) + 1))))] h191 Q
                          refine v_if_eq 215 206 d_X4_findFirst_203 rfl rfl (by have := bI_r ((bes l ((q hd) % 48) wy) = y ∧ (gtu l x y) < (((q hd) / 48) + 1)); omega) (by have := bI_r ((bes l ((q hd) % 48) wy) = y ∧ (gtu l x y) < (((q hd) / 48) + 1)); omega) (fun k203 => ?_) (fun k203 => ?_)
                          · replace k203 := bI_0.mp k203
                            refine xv (x_iinc 218 d_X4_findFirst_215 rfl rfl) ?_
                            show Xv E q_m_X4_findFirst 218 [Value.ref (P'), Value.int (zi x), Value.int (zi y), Value.int (zi (l 7)), Value.int (zi (n2 + 1)), Value.int (zi hd), Value.int (zi (q hd)), Value.int (zi ((q hd) % 48)), Value.int (zi (((q hd) / 48) + 1)), Value.int (zi (wy + 1)), Value.int (zi (bes l ((q hd) % 48) wy))] [] h191 Q
                            refine xv (x_goto 102 d_X4_findFirst_218 rfl) ?_
                            refine ih102 _ (by omega) (wy + 1) (n2 + 1) _ _ (u1 Pi2 n2 hd) (u1 Wy2 n2 wy) _ _ (by omega) (by omega) (by omega) ?_ ((u1_ne (by omega)).trans hq) W_191 PL_191 TK_191 w191 PO_191 PP_191 F191 rfl
                            have := fi_a hR (by omega) hFI2 ⟨hd0, by omega⟩ (by omega) ho (by rw [hq]; omega) nk (by rw [hq]; omega) (by rw [hq]; exact k203)
                            rw [en, hq] at this
                            exact this
                          · replace k203 := bI_n0.mp k203
                            have hG2 := fi_G hR hx hy hFI2 ⟨hd0, by omega⟩ (by omega) (by rw [hq]; omega) nk (by rw [hq]; exact k203.1) ho
                            rw [en, hq] at hG2
                            obtain ⟨hnd, hGr⟩ := hG2
                            have hz := k203.1
                            refine xv (x_aload_n 207 d_X4_findFirst_206 rfl rfl) ?_
                            refine xv (x_iload 209 d_X4_findFirst_207 rfl rfl) ?_
                            obtain ⟨r209, h209, e209, z209, T209, ⟨w209, d209, m209, u209⟩, t209, f209⟩ := S_X4_tracePath (E := E) (t := ((q hd) / 48) + 1) W_191 hR PL_191 PO_191 PP_191 (by omega) (by omega) (by omega) hnd (by omega)
                            subst z209
                            have TK_209 := al_fr TK_191 f209 (by omega)
                            have PQ_209 := ai_fr w191 f209 (by omega)
                            have F209 : Fr (P') 5 h h209 := fr_tr F191 (fr_in f209 (by omega) (by omega))
                            refine xv (x_inv0 212 (as := [Value.int (zi (((q hd) / 48) + 1))]) d_X4_findFirst_209 rfl c_4_69 rfl (Nat.le_of_ble_eq_true rfl) (Nat.le_of_ble_eq_true rfl) PL_191 (Nat.le_of_ble_eq_true rfl) (Nat.le_of_ble_eq_true rfl) rfl e209) ?_
                            show Xv E q_m_X4_findFirst 212 [Value.ref (P'), Value.int (zi x), Value.int (zi y), Value.int (zi (l 7)), Value.int (zi (n2 + 1)), Value.int (zi hd), Value.int (zi (q hd)), Value.int (zi ((q hd) % 48)), Value.int (zi (((q hd) / 48) + 1)), Value.int (zi wy), Value.int (zi (bes l ((q hd) % 48) wy))] [] h209 Q
                            refine xv (x_iload 214 d_X4_findFirst_212 rfl rfl) ?_
                            refine xv_r (x_ireturn d_X4_findFirst_214 rfl rfl) ?_
                            have ev : fT l x y = q hd / 48 + 1 := by have := fi_T hR hx hy hFI2 ⟨hd0, by omega⟩ (by omega) (by rw [hq]; omega) nk (by rw [hq]; exact k203.1) (by rw [hq]; exact k203.2); rw [hq] at this; exact this
                            refine hQ _ _ ⟨by rw [ev], _, _, _, _, _, ⟨w209, d209, TK_209, PQ_209, m209, u209⟩, fun _ => ?_, F209⟩
                            rw [ev]
                            refine grd_cg (by omega) (fun t a b => ?_) hGr
                            by_cases z : t = 0
                            · subst z; rw [if_pos rfl]; exact hGr.1
                            · rw [if_neg z, t209 (t - 1) (by omega) (by omega), show q hd / 48 + 1 - 1 - (t - 1) = q hd / 48 + 1 - t by omega, k203.1]
                        · exact absurd (fi_new (by omega) hFI2 ⟨hd0, by omega⟩ (by rw [en]; exact k148) (by rw [hq]; omega) ⟨by rw [hq]; omega, by rw [hq]; omega⟩).2 k156
              exact L102 _ 0 n _ _ Pi Wy _ _ (by omega) (by omega) (by omega) hFI rfl hW2 hP2 hK2 hQQ2 hO2 hPP2 hF2 rfl
            · refine xv (x_iconst 98 d_X4_findFirst_97 rfl) ?_
              refine xv_r (x_ireturn d_X4_findFirst_98 rfl rfl) ?_
              have ev : fT l x y = -1 := fi_none hR hx hy hFI hd0 (fun j a b c => by
                rcases Int.lt_or_le j hd with y1 | y1
                · exact y1
                · have := fi_mono hR (by omega) hFI _ hd j rfl hd0 y1 b
                  omega)
              exact hQ _ _ ⟨by rw [ev], _, _, _, _, _, ⟨hW2, hP2, hK2, hQQ2, hO2, hPP2⟩, fun e => absurd ev e, hF2⟩
    exact L51 _ 1 0 _ _ _ _ _ _ _ _ _ _ (by omega) (by omega) (by omega) (fi_0 hR hx) W_44 PL_44 TK_44 w44 PO_44 PP_44 F44 rfl
  · replace k6 := bI_0.mp k6
    refine xv (x_iconst 10 d_X4_findFirst_9 rfl) ?_
    refine xv_r (x_ireturn d_X4_findFirst_10 rfl rfl) ?_
    have ev : fT l x y = -1 := fnd_no (fun t a b c => by omega)
    exact hQ _ _ ⟨by rw [ev], _, _, _, _, _, ⟨w3, d3, m3, PQ_3, PO_3, PP_3⟩, fun e => absurd ev e, F3⟩
end CS
