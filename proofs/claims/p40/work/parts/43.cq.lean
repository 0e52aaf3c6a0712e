/-! the class's planner: reserved cells, a path counted and traced, tick by tick (printed by program) -/
/-- only the planner itself and its row of reserved cells are written -/
def Fq (P' : Nat) (h h' : q_H) : Prop := h'.2 = h.2 ∧ ∀ a, a ≠ P' → a ≠ P' + 3 → h'.1 a = h.1 a
theorem fq_rf {P' : Nat} {h : q_H} : Fq P' h h := ⟨rfl, fun _ _ _ => rfl⟩
theorem fq_tr {P' : Nat} {h h' h'' : q_H} (h1 : Fq P' h h') (h2 : Fq P' h' h'') : Fq P' h h'' := ⟨h2.1.trans h1.1, fun a k l => (h2.2 a k l).trans (h1.2 a k l)⟩
theorem fq_in {P' b n : Nat} {h h' : q_H} (h1 : Fr b n h h') (k : n = 1 ∧ (b = P' ∨ b = P' + 3)) : Fq P' h h' := ⟨h1.1, fun a x y => h1.2 a (by omega)⟩
theorem fq_fr {P' : Nat} {h h' : q_H} (h1 : Fq P' h h') : Fr P' 5 h h' := ⟨h1.1, fun a x => h1.2 a (by omega) (by omega)⟩
theorem ai_fq {P' a t n : Nat} {h h' : q_H} {f : Int → Int} (H : AI h a t n f) (F : Fq P' h h') (k : a ≠ P' ∧ a ≠ P' + 3) : AI h' a t n f := by
  obtain ⟨g, e, x⟩ := H
  exact ⟨g, (F.2 a k.1 k.2).trans e, x⟩
section CQ
variable {E : q_E} {h h' : q_H} {w v a b t N k d P' : Nat} {l lo f g c q PQ PO PP : Int → Int} {p p2 pk : Int → Nat} {n R C z tr tc ro go_ gt : Int} {to : Int64} {TK : Int → Int64}
/-- one robot's cells put in -/
abbrev TKr (l : Int → Int) (r m : Int) (TK TK' : Int → Int64) : Prop := ∀ t, 0 ≤ t → t < 31 → ∀ c, 0 ≤ c → c < 64 → (bt (TK' t) c ↔ bt (TK t) c ∨ (t < m ∧ ahd l r t = c))
theorem S_X4_noteOther (hW : WH h w l p) (hR : RgC l) (hP : PLo h P' w ro go_ gt) (hK : AL h (P' + 3) 31 TK) {r : Int} (hr : isR l r) (hg : isC l go_) (hgt : -1 ≤ gt ∧ gt ≤ 30) (sp : P' + 5 ≤ w ∨ w + 38 ≤ P') : ∃ r_ h', q_cl E q_m_X4_noteOther [Value.ref (P'), Value.ref (p r)] h = some (r_, h') ∧ (r_ = .inl none ∧ ∃ TK', (WH h' w l p ∧ PLo h' P' w ro go_ (max gt (lti (rb l r) go_)) ∧ AL h' (P' + 3) 31 TK') ∧ TKr l r 31 TK TK' ∧ Fq P' h h') := by
  suffices K : ∀ Q : q_R → q_H → Prop, (∀ r_ h', (r_ = .inl none ∧ ∃ TK', (WH h' w l p ∧ PLo h' P' w ro go_ (max gt (lti (rb l r) go_)) ∧ AL h' (P' + 3) 31 TK') ∧ TKr l r 31 TK TK' ∧ Fq P' h h') → Q r_ h') → Xv E q_m_X4_noteOther 0 [Value.ref (P'), Value.ref (p r), Value.null] [] h Q from K _ fun _ _ p => p
  intro Q hQ
  obtain ⟨g0, g1, g2, g3, g4, gc, g5, g6, g7, gk, gl, gr, go⟩ := id hR
  have gq := gr r hr.1 hr.2
  refine xv (x_iconst 1 d_X4_noteOther_0 rfl) ?_
  refine xv (x_istore_n 2 d_X4_noteOther_1 rfl (Nat.le_of_ble_eq_true rfl)) ?_
  show Xv E q_m_X4_noteOther 2 [Value.ref (P'), Value.ref (p r), Value.int (zi 0)] [] h Q
  have L2 : ∀ (n_ : Nat) (k : Int) (TK2 : Int → Int64) (H : q_H), (0 ≤ k) → (k ≤ 31) → (TKr l r k TK TK2) → (WH H w l p) → (PLo H P' w ro go_ gt) → (AL H (P' + 3) 31 TK2) → (Fq P' h H) → (31 - k).toNat = n_ → Xv E q_m_X4_noteOther 2 [Value.ref (P'), Value.ref (p r), Value.int (zi k)] [] H Q := by
    intro n_
    induction n_ using Nat.strongRecOn with
    | _ n_ ih2 =>
      intro k TK2 H k0 k1 hk hW2 hP2 hK2 hF2 em
      refine xv (x_iload_n 3 d_X4_noteOther_2 rfl rfl) ?_
      refine xv (x_aload_n 4 d_X4_noteOther_3 rfl rfl) ?_
      refine xv (x_getfield 7 d_X4_noteOther_4 rfl f_4_22 (Nat.le_of_ble_eq_true rfl) (Nat.le_of_ble_eq_true rfl) (q_gf_of hP2 rfl)) ?_
      refine xv (x_arraylength 8 d_X4_noteOther_7 rfl (al_l hK2)) ?_
      refine v_icmp_ge 33 11 d_X4_noteOther_8 rfl rfl (by omega) (by omega) (by omega) (by omega) (fun k8 => ?_) (fun k8 => ?_)
      · refine xv (x_aload_n 34 d_X4_noteOther_33 rfl rfl) ?_
        refine xv (x_aload_n 35 d_X4_noteOther_34 rfl rfl) ?_
        refine xv (x_getfield 38 d_X4_noteOther_35 rfl f_4_94 (Nat.le_of_ble_eq_true rfl) (Nat.le_of_ble_eq_true rfl) (q_gf_of hP2 rfl)) ?_
        refine xv (x_aload_n 39 d_X4_noteOther_38 rfl rfl) ?_
        refine xv (x_aload_n 40 d_X4_noteOther_39 rfl rfl) ?_
        refine xv (x_getfield 43 d_X4_noteOther_40 rfl f_4_73 (Nat.le_of_ble_eq_true rfl) (Nat.le_of_ble_eq_true rfl) (q_gf_of hP2 rfl)) ?_
        refine xv (x_inv1 46 (as := [Value.int (zi go_)]) d_X4_noteOther_43 rfl c_4_108 rfl (Nat.le_of_ble_eq_true rfl) (Nat.le_of_ble_eq_true rfl) (wh_r hW2 (by omega) (by omega)).1 (Nat.le_of_ble_eq_true rfl) (Nat.le_of_ble_eq_true rfl) rfl (S_X5_lastTickIn (wh_r (r := r) hW2 (by omega) (by omega)) (gr r (by omega) (by omega)) (by omega) (by omega) (by omega))) ?_
        have q43 := @lti_r (rb l r) go_ (by have := (gr r (by omega) (by omega)); omega)
        show Xv E q_m_X4_noteOther 46 [Value.ref (P'), Value.ref (p r), Value.int (zi k)] [Value.int (zi (lti (rb l r) go_)), Value.int (zi gt), Value.ref (P')] H Q
        refine xv (x_mmax 49 d_X4_noteOther_46 rfl rfl rfl rfl (Nat.le_of_ble_eq_true rfl) (Nat.le_of_ble_eq_true rfl) (Nat.le_of_ble_eq_true rfl) (by omega) (by omega) (by omega) (by omega)) ?_
        obtain ⟨h49, e49, w49, f49⟩ := obj_pf (k := 7) (v := Value.int (zi (max gt (lti (rb l r) go_)))) hP2 (Nat.le_of_ble_eq_true rfl)
        have W_49 := wh_fr hW2 f49 (by omega)
        have TK_49 := al_fr hK2 f49 (by omega)
        have F49 : Fq P' h h49 := fq_tr hF2 (fq_in f49 (by omega))
        replace w49 : h49.1 (P') = some (.inr (4, [Value.ref w, Value.ref (P' + 1), Value.ref (P' + 2), Value.ref (P' + 3), Value.ref (P' + 4), Value.int (zi ro), Value.int (zi go_), Value.int (zi (max gt (lti (rb l r) go_)))])) := w49
        refine xv (x_putfield 52 d_X4_noteOther_49 rfl f_4_94 (Nat.le_of_ble_eq_true rfl) e49 rfl rfl (fun e => absurd e (by decide))) ?_
        show Xv E q_m_X4_noteOther 52 [Value.ref (P'), Value.ref (p r), Value.int (zi k)] [] h49 Q
        refine xv_r (x_return d_X4_noteOther_52 rfl) ?_
        refine hQ _ _ ⟨rfl, _, ⟨W_49, w49, TK_49⟩, fun t a b c d e => ?_, F49⟩
        rw [hk t a b c d e, show k = 31 by omega]
      · refine xv (x_aload_n 12 d_X4_noteOther_11 rfl rfl) ?_
        refine xv (x_getfield 15 d_X4_noteOther_12 rfl f_4_22 (Nat.le_of_ble_eq_true rfl) (Nat.le_of_ble_eq_true rfl) (q_gf_of hP2 rfl)) ?_
        refine xv (x_iload_n 16 d_X4_noteOther_15 rfl rfl) ?_
        refine xv (x_dup2 17 d_X4_noteOther_16 rfl rfl rfl) ?_
        refine xv (x_laload 18 d_X4_noteOther_17 rfl (al_g hK2 (by omega) (by omega) (by decide))) ?_
        refine xv (x_lconst 19 d_X4_noteOther_18 rfl) ?_
        show Xv E q_m_X4_noteOther 19 [Value.ref (P'), Value.ref (p r), Value.int (zi k)] [Value.long 1, Value.long (TK2 k), Value.int (zi k), Value.ref (P' + 3)] H Q
        refine xv (x_aload_n 20 d_X4_noteOther_19 rfl rfl) ?_
        refine xv (x_iload_n 21 d_X4_noteOther_20 rfl rfl) ?_
        refine xv (x_inv1 24 (as := [Value.int (zi k)]) d_X4_noteOther_21 rfl c_4_104 rfl (Nat.le_of_ble_eq_true rfl) (Nat.le_of_ble_eq_true rfl) (wh_r hW2 (by omega) (by omega)).1 (Nat.le_of_ble_eq_true rfl) (Nat.le_of_ble_eq_true rfl) rfl (S_X5_cellAhead (wh_r (r := r) hW2 (by omega) (by omega)) (gr r (by omega) (by omega)) (by omega) (by omega))) ?_
        have q21 := ahf_r (t := k) (gr r (by omega) (by omega)) (by omega)
        show Xv E q_m_X4_noteOther 24 [Value.ref (P'), Value.ref (p r), Value.int (zi k)] [Value.int (zi (ahf (rb l r) k)), Value.long 1, Value.long (TK2 k), Value.int (zi k), Value.ref (P' + 3)] H Q
        refine xv (x_lshl 25 d_X4_noteOther_24 rfl) ?_
        show Xv E q_m_X4_noteOther 25 [Value.ref (P'), Value.ref (p r), Value.int (zi k)] [Value.long (lsh 1 (zi (ahf (rb l r) k))), Value.long (TK2 k), Value.int (zi k), Value.ref (P' + 3)] H Q
        refine xv (x_lor 26 d_X4_noteOther_25 rfl) ?_
        obtain ⟨h26, e26, w26, f26⟩ := al_s (z := k) (v := (TK2 k) ||| (lsh 1 (zi (ahf (rb l r) k)))) hK2 (by omega) (by omega) (by decide)
        have W_26 := wh_fr hW2 f26 (by omega)
        have PL_26 := (f26.2 _ (by omega)).trans hP2
        have F26 : Fq P' h h26 := fq_tr hF2 (fq_in f26 (by omega))
        refine xv (x_lastore 27 d_X4_noteOther_26 rfl e26) ?_
        show Xv E q_m_X4_noteOther 27 [Value.ref (P'), Value.ref (p r), Value.int (zi k)] [] h26 Q
        refine xv (x_iinc 30 d_X4_noteOther_27 rfl rfl) ?_
        show Xv E q_m_X4_noteOther 30 [Value.ref (P'), Value.ref (p r), Value.int (zi (k + 1))] [] h26 Q
        refine xv (x_goto 2 d_X4_noteOther_30 rfl) ?_
        refine ih2 _ (by omega) (k + 1) _ _ (by omega) (by omega) (fun t a b c d e => ?_) W_26 PL_26 w26 F26 rfl
        by_cases z : t = k
        · subst z
          rw [uL_eq, bt_or, hk t a b c d e, show lsh 1 (zi (ahf (rb l r) t)) = lsh 1 (zi (ahd l r t)) from rfl, bt_sh (show 0 ≤ ahd l r t from q21.1) (show ahd l r t < 64 by have := q21.2; show ahf (rb l r) t < 64; omega) d e]
          constructor
          · rintro ((u | u) | u)
            · exact .inl u
            · omega
            · exact .inr ⟨by omega, u.symm⟩
          · rintro (u | u)
            · exact .inl (.inl u)
            · exact .inr u.2.symm
        · rw [uL_ne z, hk t a b c d e]
          constructor
          · rintro (u | u)
            · exact .inl u
            · exact .inr ⟨by omega, u.2⟩
          · rintro (u | u)
            · exact .inl u
            · exact .inr ⟨by omega, u.2⟩
  exact L2 _ 0 TK _ (by omega) (by omega) (fun t a b c d e => ⟨fun z => .inl z, fun z => z.elim id (fun y => by omega)⟩) hW hP hK fq_rf rfl
theorem tkk_s {r0 : Int} {TK TK' : Int → Int64} (hT : TKk l r0 k TK) (e : ¬ (k : Int) = r0) (h : TKr l k 31 TK TK') : TKk l r0 (k + 1) TK' := by
  intro t a b c d f
  rw [h t a b c d f, hT t a b c d f]
  constructor
  · rintro (⟨r, x, y, z⟩ | ⟨_, z⟩)
    · exact ⟨r, by omega, y, z⟩
    · exact ⟨k, by omega, e, z⟩
  · rintro ⟨r, x, y, z⟩
    by_cases q : r = k
    · subst q; exact .inr ⟨b, z⟩
    · exact .inl ⟨r, by omega, y, z⟩
theorem tkk_s' {r0 k : Int} {TK TK' : Int → Int64} (k0 : 0 ≤ k) (hT : TKk l r0 k TK) (e : ¬ k = r0) (h : TKr l k 31 TK TK') : TKk l r0 (k + 1) TK' := by
  obtain ⟨j, rfl⟩ := Int.eq_ofNat_of_zero_le k0
  exact tkk_s hT e h
theorem tkk_n {k : Int} {TK : Int → Int64} (hT : TKk l k k TK) : TKk l k (k + 1) TK := by
  intro t a b c d f
  rw [hT t a b c d f]
  constructor
  · rintro ⟨r, x, y, z⟩
    exact ⟨r, by omega, y, z⟩
  · rintro ⟨r, x, y, z⟩
    exact ⟨r, by omega, y, z⟩
theorem S_X4_prepare (hW : WH h w l p) (hR : RgC l) (hP : PLo h P' w ro go_ gt) (hK : AL h (P' + 3) 31 TK) {x y : Int} (hx : isR l x) (hy : isC l y) (he : ent l y) (sp : P' + 5 ≤ w ∨ w + 38 ≤ P') : ∃ r_ h', q_cl E q_m_X4_prepare [Value.ref (P'), Value.int (zi x), Value.int (zi y)] h = some (r_, h') ∧ (r_ = .inl (some (.int (zi (bI (gtu l x y < l 7))))) ∧ ∃ TK', (WH h' w l p ∧ PLo h' P' w x y (gtu l x y) ∧ AL h' (P' + 3) 31 TK') ∧ TKk l x (l 3) TK' ∧ (-1 ≤ gtu l x y ∧ gtu l x y ≤ 30) ∧ Fq P' h h') := by
  suffices K : ∀ Q : q_R → q_H → Prop, (∀ r_ h', (r_ = .inl (some (.int (zi (bI (gtu l x y < l 7))))) ∧ ∃ TK', (WH h' w l p ∧ PLo h' P' w x y (gtu l x y) ∧ AL h' (P' + 3) 31 TK') ∧ TKk l x (l 3) TK' ∧ (-1 ≤ gtu l x y ∧ gtu l x y ≤ 30) ∧ Fq P' h h') → Q r_ h') → Xv E q_m_X4_prepare 0 [Value.ref (P'), Value.int (zi x), Value.int (zi y), Value.null] [] h Q from K _ fun _ _ p => p
  intro Q hQ
  obtain ⟨g0, g1, g2, g3, g4, gc, g5, g6, g7, gk, gl, gr, go⟩ := id hR
  have gq := gr x hx.1 hx.2
  refine xv (x_aload_n 1 d_X4_prepare_0 rfl rfl) ?_
  refine xv (x_getfield 4 d_X4_prepare_1 rfl f_4_9 (Nat.le_of_ble_eq_true rfl) (Nat.le_of_ble_eq_true rfl) (q_gf_of hP rfl)) ?_
  refine xv (x_iload_n 5 d_X4_prepare_4 rfl rfl) ?_
  refine xv (x_inv1 8 (as := [Value.int (zi x)]) d_X4_prepare_5 rfl c_4_88 rfl (Nat.le_of_ble_eq_true rfl) (Nat.le_of_ble_eq_true rfl) (wh_o hW) (Nat.le_of_ble_eq_true rfl) (Nat.le_of_ble_eq_true rfl) rfl (S_X6_isRobot hW hR (by omega) (by omega))) ?_
  show Xv E q_m_X4_prepare 8 [Value.ref (P'), Value.int (zi x), Value.int (zi y), Value.null] [Value.int (zi (bI (isR l x)))] h Q
  refine v_if_eq 44 11 d_X4_prepare_8 rfl rfl (by have := bI_r (isR l x); omega) (by have := bI_r (isR l x); omega) (fun k8 => ?_) (fun k8 => ?_)
  · replace k8 := bI_0.mp k8
    exact absurd hx k8
  · replace k8 := bI_n0.mp k8
    refine xv (x_aload_n 12 d_X4_prepare_11 rfl rfl) ?_
    refine xv (x_getfield 15 d_X4_prepare_12 rfl f_4_9 (Nat.le_of_ble_eq_true rfl) (Nat.le_of_ble_eq_true rfl) (q_gf_of hP rfl)) ?_
    refine xv (x_aload_n 16 d_X4_prepare_15 rfl rfl) ?_
    refine xv (x_getfield 19 d_X4_prepare_16 rfl f_4_9 (Nat.le_of_ble_eq_true rfl) (Nat.le_of_ble_eq_true rfl) (q_gf_of hP rfl)) ?_
    refine xv (x_getfield 22 d_X4_prepare_19 rfl f_4_43 (Nat.le_of_ble_eq_true rfl) (Nat.le_of_ble_eq_true rfl) (q_gf_of (wh_o hW) rfl)) ?_
    refine xv (x_iload_n 23 d_X4_prepare_22 rfl rfl) ?_
    refine xv (x_aaload 24 d_X4_prepare_23 rfl (wh_rs hW (by omega) (by omega))) ?_
    refine xv (x_getfield 27 d_X4_prepare_24 rfl f_4_53 (Nat.le_of_ble_eq_true rfl) (Nat.le_of_ble_eq_true rfl) (q_gf_of (wh_r hW (by omega) (by omega)).1 rfl)) ?_
    refine xv (x_inv1 30 (as := [Value.int (zi (rb l x 0))]) d_X4_prepare_27 rfl c_4_80 rfl (Nat.le_of_ble_eq_true rfl) (Nat.le_of_ble_eq_true rfl) (wh_o hW) (Nat.le_of_ble_eq_true rfl) (Nat.le_of_ble_eq_true rfl) rfl (S_X6_isCell hW hR (by omega) (by omega))) ?_
    show Xv E q_m_X4_prepare 30 [Value.ref (P'), Value.int (zi x), Value.int (zi y), Value.null] [Value.int (zi (bI (isC l (rb l x 0))))] h Q
    refine v_if_eq 44 33 d_X4_prepare_30 rfl rfl (by have := bI_r (isC l (rb l x 0)); omega) (by have := bI_r (isC l (rb l x 0)); omega) (fun k30 => ?_) (fun k30 => ?_)
    · replace k30 := bI_0.mp k30
      exact absurd gq.1 k30
    · replace k30 := bI_n0.mp k30
      refine xv (x_aload_n 34 d_X4_prepare_33 rfl rfl) ?_
      refine xv (x_getfield 37 d_X4_prepare_34 rfl f_4_9 (Nat.le_of_ble_eq_true rfl) (Nat.le_of_ble_eq_true rfl) (q_gf_of hP rfl)) ?_
      refine xv (x_iload_n 38 d_X4_prepare_37 rfl rfl) ?_
      refine xv (x_inv1 41 (as := [Value.int (zi y)]) d_X4_prepare_38 rfl c_4_91 rfl (Nat.le_of_ble_eq_true rfl) (Nat.le_of_ble_eq_true rfl) (wh_o hW) (Nat.le_of_ble_eq_true rfl) (Nat.le_of_ble_eq_true rfl) rfl (S_X6_canEnter hW hR (by omega) (by omega))) ?_
      show Xv E q_m_X4_prepare 41 [Value.ref (P'), Value.int (zi x), Value.int (zi y), Value.null] [Value.int (zi (bI (isC l y ∧ ent l y)))] h Q
      refine v_if_ne 46 44 d_X4_prepare_41 rfl rfl (by have := bI_r (isC l y ∧ ent l y); omega) (by have := bI_r (isC l y ∧ ent l y); omega) (fun k41 => ?_) (fun k41 => ?_)
      · replace k41 := bI_n0.mp k41
        refine xv (x_aload_n 47 d_X4_prepare_46 rfl rfl) ?_
        refine xv (x_iload_n 48 d_X4_prepare_47 rfl rfl) ?_
        obtain ⟨h48, e48, w48, f48⟩ := obj_pf (k := 5) (v := Value.int (zi x)) hP (Nat.le_of_ble_eq_true rfl)
        have W_48 := wh_fr hW f48 (by omega)
        have TK_48 := al_fr hK f48 (by omega)
        have F48 : Fq P' h h48 := fq_tr fq_rf (fq_in f48 (by omega))
        replace w48 : h48.1 (P') = some (.inr (4, [Value.ref w, Value.ref (P' + 1), Value.ref (P' + 2), Value.ref (P' + 3), Value.ref (P' + 4), Value.int (zi x), Value.int (zi go_), Value.int (zi gt)])) := w48
        refine xv (x_putfield 51 d_X4_prepare_48 rfl f_4_49 (Nat.le_of_ble_eq_true rfl) e48 rfl rfl (fun e => absurd e (by decide))) ?_
        show Xv E q_m_X4_prepare 51 [Value.ref (P'), Value.int (zi x), Value.int (zi y), Value.null] [] h48 Q
        refine xv (x_aload_n 52 d_X4_prepare_51 rfl rfl) ?_
        refine xv (x_iload_n 53 d_X4_prepare_52 rfl rfl) ?_
        obtain ⟨h53, e53, w53, f53⟩ := obj_pf (k := 6) (v := Value.int (zi y)) w48 (Nat.le_of_ble_eq_true rfl)
        have W_53 := wh_fr W_48 f53 (by omega)
        have TK_53 := al_fr TK_48 f53 (by omega)
        have F53 : Fq P' h h53 := fq_tr F48 (fq_in f53 (by omega))
        replace w53 : h53.1 (P') = some (.inr (4, [Value.ref w, Value.ref (P' + 1), Value.ref (P' + 2), Value.ref (P' + 3), Value.ref (P' + 4), Value.int (zi x), Value.int (zi y), Value.int (zi gt)])) := w53
        refine xv (x_putfield 56 d_X4_prepare_53 rfl f_4_73 (Nat.le_of_ble_eq_true rfl) e53 rfl rfl (fun e => absurd e (by decide))) ?_
        show Xv E q_m_X4_prepare 56 [Value.ref (P'), Value.int (zi x), Value.int (zi y), Value.null] [] h53 Q
        refine xv (x_aload_n 57 d_X4_prepare_56 rfl rfl) ?_
        refine xv (x_iconst 58 d_X4_prepare_57 rfl) ?_
        obtain ⟨h58, e58, w58, f58⟩ := obj_pf (k := 7) (v := Value.int (zi (-1))) w53 (Nat.le_of_ble_eq_true rfl)
        have W_58 := wh_fr W_53 f58 (by omega)
        have TK_58 := al_fr TK_53 f58 (by omega)
        have F58 : Fq P' h h58 := fq_tr F53 (fq_in f58 (by omega))
        replace w58 : h58.1 (P') = some (.inr (4, [Value.ref w, Value.ref (P' + 1), Value.ref (P' + 2), Value.ref (P' + 3), Value.ref (P' + 4), Value.int (zi x), Value.int (zi y), Value.int (zi (-1))])) := w58
        refine xv (x_putfield 61 d_X4_prepare_58 rfl f_4_94 (Nat.le_of_ble_eq_true rfl) e58 rfl rfl (fun e => absurd e (by decide))) ?_
        show Xv E q_m_X4_prepare 61 [Value.ref (P'), Value.int (zi x), Value.int (zi y), Value.null] [] h58 Q
        refine xv (x_aload_n 62 d_X4_prepare_61 rfl rfl) ?_
        refine xv (x_getfield 65 d_X4_prepare_62 rfl f_4_22 (Nat.le_of_ble_eq_true rfl) (Nat.le_of_ble_eq_true rfl) (q_gf_of w58 rfl)) ?_
        refine xv (x_lconst 66 d_X4_prepare_65 rfl) ?_
        show Xv E q_m_X4_prepare 66 [Value.ref (P'), Value.int (zi x), Value.int (zi y), Value.null] [Value.long 0, Value.ref (P' + 3)] h58 Q
        obtain ⟨r66, h66, e66, z66, w66, f66⟩ := S_J7_fillL (E := E) (v := 0) TK_58 (by decide)
        subst z66
        have W_66 := wh_fr W_58 f66 (by omega)
        have PL_66 := (f66.2 _ (by omega)).trans w58
        have F66 : Fq P' h h66 := fq_tr F58 (fq_in f66 (by omega))
        refine xv (x_ins0 69 (as := [Value.ref (P' + 3), Value.long 0]) d_X4_prepare_66 rfl c_4_97 rfl (Nat.le_of_ble_eq_true rfl) (Nat.le_of_ble_eq_true rfl) (Nat.le_of_ble_eq_true rfl) rfl e66) ?_
        show Xv E q_m_X4_prepare 69 [Value.ref (P'), Value.int (zi x), Value.int (zi y), Value.null] [] h66 Q
        refine xv (x_iconst 70 d_X4_prepare_69 rfl) ?_
        refine xv (x_istore_n 71 d_X4_prepare_70 rfl (Nat.le_of_ble_eq_true rfl)) ?_
        show Xv E q_m_X4_prepare 71 [Value.ref (P'), Value.int (zi x), Value.int (zi y), Value.int (zi 0)] [] h66 Q
        have L71 : ∀ (n_ : Nat) (i : Int) (m : Int) (TK2 : Int → Int64) (H : q_H), (0 ≤ i) → (i ≤ l 3) → (-1 ≤ m ∧ m ≤ 30) → (TKk l x i TK2) → (WH H w l p) → (PLo H P' w x y m) → (AL H (P' + 3) 31 TK2) → (Fq P' h H) → (gtu l x y = gtF l x y (l 3 - i).toNat i m) → (l 3 - i).toNat = n_ → Xv E q_m_X4_prepare 71 [Value.ref (P'), Value.int (zi x), Value.int (zi y), Value.int (zi i)] [] H Q := by
          intro n_
          induction n_ using Nat.strongRecOn with
          | _ n_ ih71 =>
            intro i m TK2 H i0 i1 m0 hT2 hW2 hP2 hK2 hF2 hv em
            refine xv (x_aload_n 72 d_X4_prepare_71 rfl rfl) ?_
            refine xv (x_getfield 75 d_X4_prepare_72 rfl f_4_9 (Nat.le_of_ble_eq_true rfl) (Nat.le_of_ble_eq_true rfl) (q_gf_of hP2 rfl)) ?_
            refine xv (x_iload_n 76 d_X4_prepare_75 rfl rfl) ?_
            refine xv (x_inv1 79 (as := [Value.int (zi i)]) d_X4_prepare_76 rfl c_4_88 rfl (Nat.le_of_ble_eq_true rfl) (Nat.le_of_ble_eq_true rfl) (wh_o hW2) (Nat.le_of_ble_eq_true rfl) (Nat.le_of_ble_eq_true rfl) rfl (S_X6_isRobot hW2 hR (by omega) (by omega))) ?_
            show Xv E q_m_X4_prepare 79 [Value.ref (P'), Value.int (zi x), Value.int (zi y), Value.int (zi i)] [Value.int (zi (bI (isR l i)))] H Q
            refine v_if_eq 115 82 d_X4_prepare_79 rfl rfl (by have := bI_r (isR l i); omega) (by have := bI_r (isR l i); omega) (fun k79 => ?_) (fun k79 => ?_)
            · replace k79 := bI_0.mp k79
              refine xv (x_aload_n 116 d_X4_prepare_115 rfl rfl) ?_
              refine xv (x_getfield 119 d_X4_prepare_116 rfl f_4_94 (Nat.le_of_ble_eq_true rfl) (Nat.le_of_ble_eq_true rfl) (q_gf_of hP2 rfl)) ?_
              refine xv (x_aload_n 120 d_X4_prepare_119 rfl rfl) ?_
              refine xv (x_inv1 123 (as := []) d_X4_prepare_120 rfl c_4_39 rfl (Nat.le_of_ble_eq_true rfl) (Nat.le_of_ble_eq_true rfl) hP2 (Nat.le_of_ble_eq_true rfl) (Nat.le_of_ble_eq_true rfl) rfl (S_X4_horizon hW2 hR hP2)) ?_
              show Xv E q_m_X4_prepare 123 [Value.ref (P'), Value.int (zi x), Value.int (zi y), Value.int (zi i)] [Value.int (zi (l 7)), Value.int (zi m)] H Q
              refine v_icmp_ge 130 126 d_X4_prepare_123 rfl rfl (by omega) (by omega) (by omega) (by omega) (fun k123 => ?_) (fun k123 => ?_)
              · refine xv (x_iconst 131 d_X4_prepare_130 rfl) ?_
                refine xv_r (x_ireturn d_X4_prepare_131 rfl rfl) ?_
                have eg : gtu l x y = m := hv.trans (gtF_e (by omega))
                have ei : i = l 3 := by omega
                rw [ei] at hT2
                refine hQ _ _ ?_
                rw [eg]
                refine ⟨?_, _, ⟨hW2, hP2, hK2⟩, hT2, by omega, hF2⟩
                first | rw [bI_t (by omega)] | rw [bI_f (by omega)]
              · refine xv (x_iconst 127 d_X4_prepare_126 rfl) ?_
                refine xv (x_goto 131 d_X4_prepare_127 rfl) ?_
                refine xv_r (x_ireturn d_X4_prepare_131 rfl rfl) ?_
                have eg : gtu l x y = m := hv.trans (gtF_e (by omega))
                have ei : i = l 3 := by omega
                rw [ei] at hT2
                refine hQ _ _ ?_
                rw [eg]
                refine ⟨?_, _, ⟨hW2, hP2, hK2⟩, hT2, by omega, hF2⟩
                first | rw [bI_t (by omega)] | rw [bI_f (by omega)]
            · replace k79 := bI_n0.mp k79
              refine xv (x_iload_n 83 d_X4_prepare_82 rfl rfl) ?_
              refine xv (x_bipush 85 d_X4_prepare_83 rfl rfl) ?_
              refine v_icmp_ge 115 88 d_X4_prepare_85 rfl rfl (by omega) (by omega) (by omega) (by omega) (fun k85 => ?_) (fun k85 => ?_)
              · omega
              · refine xv (x_iload_n 89 d_X4_prepare_88 rfl rfl) ?_
                refine xv (x_aload_n 90 d_X4_prepare_89 rfl rfl) ?_
                refine xv (x_getfield 93 d_X4_prepare_90 rfl f_4_49 (Nat.le_of_ble_eq_true rfl) (Nat.le_of_ble_eq_true rfl) (q_gf_of hP2 rfl)) ?_
                refine v_icmp_eq 109 96 d_X4_prepare_93 rfl rfl (by omega) (by omega) (by omega) (by omega) (fun k93 => ?_) (fun k93 => ?_)
                · refine xv (x_iinc 112 d_X4_prepare_109 rfl rfl) ?_
                  show Xv E q_m_X4_prepare 112 [Value.ref (P'), Value.int (zi x), Value.int (zi y), Value.int (zi (i + 1))] [] H Q
                  refine xv (x_goto 71 d_X4_prepare_112 rfl) ?_
                  refine ih71 _ (by omega) (i + 1) _ _ _ (by omega) (by omega) (by omega) (k93 ▸ tkk_n (k93 ▸ hT2)) hW2 hP2 hK2 hF2 (hv.trans ((gtF_b (by omega)).trans (by rw [if_pos k93]))) rfl
                · refine xv (x_aload_n 97 d_X4_prepare_96 rfl rfl) ?_
                  refine xv (x_aload_n 98 d_X4_prepare_97 rfl rfl) ?_
                  refine xv (x_getfield 101 d_X4_prepare_98 rfl f_4_9 (Nat.le_of_ble_eq_true rfl) (Nat.le_of_ble_eq_true rfl) (q_gf_of hP2 rfl)) ?_
                  refine xv (x_getfield 104 d_X4_prepare_101 rfl f_4_43 (Nat.le_of_ble_eq_true rfl) (Nat.le_of_ble_eq_true rfl) (q_gf_of (wh_o hW2) rfl)) ?_
                  refine xv (x_iload_n 105 d_X4_prepare_104 rfl rfl) ?_
                  refine xv (x_aaload 106 d_X4_prepare_105 rfl (wh_rs hW2 (by omega) (by omega))) ?_
                  obtain ⟨r106, h106, e106, z106, K106, ⟨w106, d106, m106⟩, t106, f106⟩ := S_X4_noteOther (E := E) (r := i) hW2 hR hP2 hK2 (by omega) (by omega) (by omega) (by omega)
                  subst z106
                  have Q106 := f106
                  have F106 : Fq P' h h106 := fq_tr hF2 Q106
                  refine xv (x_inv0 109 (as := [Value.ref (p i)]) d_X4_prepare_106 rfl c_4_100 rfl (Nat.le_of_ble_eq_true rfl) (Nat.le_of_ble_eq_true rfl) hP2 (Nat.le_of_ble_eq_true rfl) (Nat.le_of_ble_eq_true rfl) rfl e106) ?_
                  have q106 := lti_r (f := rb l i) (c := y) (by have := gr i (by omega) (by omega); omega)
                  show Xv E q_m_X4_prepare 109 [Value.ref (P'), Value.int (zi x), Value.int (zi y), Value.int (zi i)] [] h106 Q
                  refine xv (x_iinc 112 d_X4_prepare_109 rfl rfl) ?_
                  show Xv E q_m_X4_prepare 112 [Value.ref (P'), Value.int (zi x), Value.int (zi y), Value.int (zi (i + 1))] [] h106 Q
                  refine xv (x_goto 71 d_X4_prepare_112 rfl) ?_
                  refine ih71 _ (by omega) (i + 1) _ _ _ (by omega) (by omega) (by omega) (tkk_s' i0 hT2 k93 t106) w106 d106 m106 F106 (hv.trans ((gtF_b (by omega)).trans (by rw [if_neg k93]))) rfl
        exact L71 _ 0 (-1) _ _ (by omega) (by omega) (by omega) (fun t a b c d e => ⟨fun z => absurd z bt_0, fun ⟨r, z, _⟩ => by omega⟩) W_66 PL_66 w66 F66 (by rw [Int.sub_zero]; rfl) rfl
      · replace k41 := bI_0.mp k41
        exact absurd ⟨hy, he⟩ k41
theorem S_X4_stepsOfPath (hW : WH h w l p) (hR : RgC l) (hP : PLo h P' w ro go_ gt) (hro : isR l ro) (hPP : AI h (P' + 4) 0 30 PP) {t : Int} (t0 : 0 ≤ t) (t1 : t ≤ 30) (hp : ∀ i, 0 ≤ i → i < t → 0 ≤ PP i ∧ PP i < 48) : q_cl E q_m_X4_stepsOfPath [Value.ref (P'), Value.int (zi t)] h = some (.inl (some (Value.int (zi (mvc PP t.toNat 0 (rb l ro 0) 0)))), h) := by
  suffices K : ∀ Q : q_R → q_H → Prop, Q (.inl (some (Value.int (zi (mvc PP t.toNat 0 (rb l ro 0) 0))))) h → Xv E q_m_X4_stepsOfPath 0 [Value.ref (P'), Value.int (zi t), Value.null, Value.null, Value.null] [] h Q by
    obtain ⟨r_, g_, a_, b_, c_⟩ := K (fun r_ g_ => r_ = .inl (some (Value.int (zi (mvc PP t.toNat 0 (rb l ro 0) 0)))) ∧ g_ = h) ⟨rfl, rfl⟩
    subst b_; subst c_; exact a_
  intro Q hQ
  obtain ⟨g0, g1, g2, g3, g4, gc, g5, g6, g7, gk, gl, gr, go⟩ := id hR
  have gq := gr ro hro.1 hro.2
  refine xv (x_iconst 1 d_X4_stepsOfPath_0 rfl) ?_
  refine xv (x_istore_n 2 d_X4_stepsOfPath_1 rfl (Nat.le_of_ble_eq_true rfl)) ?_
  show Xv E q_m_X4_stepsOfPath 2 [Value.ref (P'), Value.int (zi t), Value.int (zi 0), Value.null, Value.null] [] h Q
  refine xv (x_aload_n 3 d_X4_stepsOfPath_2 rfl rfl) ?_
  refine xv (x_getfield 6 d_X4_stepsOfPath_3 rfl f_4_9 (Nat.le_of_ble_eq_true rfl) (Nat.le_of_ble_eq_true rfl) (q_gf_of hP rfl)) ?_
  refine xv (x_getfield 9 d_X4_stepsOfPath_6 rfl f_4_43 (Nat.le_of_ble_eq_true rfl) (Nat.le_of_ble_eq_true rfl) (q_gf_of (wh_o hW) rfl)) ?_
  refine xv (x_aload_n 10 d_X4_stepsOfPath_9 rfl rfl) ?_
  refine xv (x_getfield 13 d_X4_stepsOfPath_10 rfl f_4_49 (Nat.le_of_ble_eq_true rfl) (Nat.le_of_ble_eq_true rfl) (q_gf_of hP rfl)) ?_
  refine xv (x_aaload 14 d_X4_stepsOfPath_13 rfl (wh_rs hW (by omega) (by omega))) ?_
  refine xv (x_getfield 17 d_X4_stepsOfPath_14 rfl f_4_53 (Nat.le_of_ble_eq_true rfl) (Nat.le_of_ble_eq_true rfl) (q_gf_of (wh_r hW (by omega) (by omega)).1 rfl)) ?_
  refine xv (x_istore_n 18 d_X4_stepsOfPath_17 rfl (Nat.le_of_ble_eq_true rfl)) ?_
  show Xv E q_m_X4_stepsOfPath 18 [Value.ref (P'), Value.int (zi t), Value.int (zi 0), Value.int (zi (rb l ro 0)), Value.null] [] h Q
  refine xv (x_iconst 19 d_X4_stepsOfPath_18 rfl) ?_
  refine xv (x_istore 21 d_X4_stepsOfPath_19 rfl (Nat.le_of_ble_eq_true rfl)) ?_
  show Xv E q_m_X4_stepsOfPath 21 [Value.ref (P'), Value.int (zi t), Value.int (zi 0), Value.int (zi (rb l ro 0)), Value.int (zi 0)] [] h Q
  have L21 : ∀ (n_ : Nat) (x : Int) (y : Int) (i : Int), (0 ≤ i) → (i ≤ t) → (0 ≤ x ∧ x ≤ i) → (0 ≤ y ∧ y < 48) → (mvc PP t.toNat 0 (rb l ro 0) 0 = mvc PP (t - i).toNat i y x) → (t - i).toNat = n_ → Xv E q_m_X4_stepsOfPath 21 [Value.ref (P'), Value.int (zi t), Value.int (zi x), Value.int (zi y), Value.int (zi i)] [] h Q := by
    intro n_
    induction n_ using Nat.strongRecOn with
    | _ n_ ih21 =>
      intro x y i i0 i1 x0 y0 hv em
      have hpi : i < t → 0 ≤ PP i ∧ PP i < 48 := fun z => hp i i0 z
      refine xv (x_iload 23 d_X4_stepsOfPath_21 rfl rfl) ?_
      refine xv (x_iload_n 24 d_X4_stepsOfPath_23 rfl rfl) ?_
      refine v_icmp_ge 62 27 d_X4_stepsOfPath_24 rfl rfl (by omega) (by omega) (by omega) (by omega) (fun k24 => ?_) (fun k24 => ?_)
      · refine xv (x_iload_n 63 d_X4_stepsOfPath_62 rfl rfl) ?_
        refine xv_r (x_ireturn d_X4_stepsOfPath_63 rfl rfl) ?_
        refine lq hQ ?_
        exact ((mvc_e (by omega)).symm.trans hv.symm)
      · refine xv (x_iload 29 d_X4_stepsOfPath_27 rfl rfl) ?_
        refine xv (x_bipush 31 d_X4_stepsOfPath_29 rfl rfl) ?_
        refine v_icmp_ge 62 34 d_X4_stepsOfPath_31 rfl rfl (by omega) (by omega) (by omega) (by omega) (fun k31 => ?_) (fun k31 => ?_)
        · refine xv (x_iload_n 63 d_X4_stepsOfPath_62 rfl rfl) ?_
          refine xv_r (x_ireturn d_X4_stepsOfPath_63 rfl rfl) ?_
          refine lq hQ ?_
          exact ((mvc_e (by omega)).symm.trans hv.symm)
        · refine xv (x_aload_n 35 d_X4_stepsOfPath_34 rfl rfl) ?_
          refine xv (x_getfield 38 d_X4_stepsOfPath_35 rfl f_4_26 (Nat.le_of_ble_eq_true rfl) (Nat.le_of_ble_eq_true rfl) (q_gf_of hP rfl)) ?_
          refine xv (x_iload 40 d_X4_stepsOfPath_38 rfl rfl) ?_
          refine xv (x_iaload 41 d_X4_stepsOfPath_40 rfl (ai_g hPP (by omega) (by omega) (by decide))) ?_
          replace hpi := hpi (by omega)
          refine xv (x_iload_n 42 d_X4_stepsOfPath_41 rfl rfl) ?_
          refine v_icmp_eq 48 45 d_X4_stepsOfPath_42 rfl rfl (by omega) (by omega) (by omega) (by omega) (fun k42 => ?_) (fun k42 => ?_)
          · refine xv (x_aload_n 49 d_X4_stepsOfPath_48 rfl rfl) ?_
            refine xv (x_getfield 52 d_X4_stepsOfPath_49 rfl f_4_26 (Nat.le_of_ble_eq_true rfl) (Nat.le_of_ble_eq_true rfl) (q_gf_of hP rfl)) ?_
            refine xv (x_iload 54 d_X4_stepsOfPath_52 rfl rfl) ?_
            refine xv (x_iaload 55 d_X4_stepsOfPath_54 rfl (ai_g hPP (by omega) (by omega) (by decide))) ?_
            refine xv (x_istore_n 56 d_X4_stepsOfPath_55 rfl (Nat.le_of_ble_eq_true rfl)) ?_
            show Xv E q_m_X4_stepsOfPath 56 [Value.ref (P'), Value.int (zi t), Value.int (zi x), Value.int (zi (PP i)), Value.int (zi i)] [] h Q
            refine xv (x_iinc 59 d_X4_stepsOfPath_56 rfl rfl) ?_
            show Xv E q_m_X4_stepsOfPath 59 [Value.ref (P'), Value.int (zi t), Value.int (zi x), Value.int (zi (PP i)), Value.int (zi (i + 1))] [] h Q
            refine xv (x_goto 21 d_X4_stepsOfPath_59 rfl) ?_
            refine ih21 _ (by omega) _ _ (i + 1) (by omega) (by omega) (by omega) (by omega) (hv.trans ((mvc_b (by omega)).trans ?_)) rfl
            first | rw [if_pos (by omega)] | rw [if_neg (by omega)]
          · refine xv (x_iinc 48 d_X4_stepsOfPath_45 rfl rfl) ?_
            show Xv E q_m_X4_stepsOfPath 48 [Value.ref (P'), Value.int (zi t), Value.int (zi (x + 1)), Value.int (zi y), Value.int (zi i)] [] h Q
            refine xv (x_aload_n 49 d_X4_stepsOfPath_48 rfl rfl) ?_
            refine xv (x_getfield 52 d_X4_stepsOfPath_49 rfl f_4_26 (Nat.le_of_ble_eq_true rfl) (Nat.le_of_ble_eq_true rfl) (q_gf_of hP rfl)) ?_
            refine xv (x_iload 54 d_X4_stepsOfPath_52 rfl rfl) ?_
            refine xv (x_iaload 55 d_X4_stepsOfPath_54 rfl (ai_g hPP (by omega) (by omega) (by decide))) ?_
            refine xv (x_istore_n 56 d_X4_stepsOfPath_55 rfl (Nat.le_of_ble_eq_true rfl)) ?_
            show Xv E q_m_X4_stepsOfPath 56 [Value.ref (P'), Value.int (zi t), Value.int (zi (x + 1)), Value.int (zi (PP i)), Value.int (zi i)] [] h Q
            refine xv (x_iinc 59 d_X4_stepsOfPath_56 rfl rfl) ?_
            show Xv E q_m_X4_stepsOfPath 59 [Value.ref (P'), Value.int (zi t), Value.int (zi (x + 1)), Value.int (zi (PP i)), Value.int (zi (i + 1))] [] h Q
            refine xv (x_goto 21 d_X4_stepsOfPath_59 rfl) ?_
            refine ih21 _ (by omega) _ _ (i + 1) (by omega) (by omega) (by omega) (by omega) (hv.trans ((mvc_b (by omega)).trans ?_)) rfl
            first | rw [if_pos (by omega)] | rw [if_neg (by omega)]
  exact L21 _ 0 (rb l ro 0) 0 (by omega) (by omega) (by omega) (by omega) (by rw [Int.sub_zero]) rfl
theorem S_X4_tracePath (hW : WH h w l p) (hR : RgC l) (hP : PLo h P' w ro go_ gt) (hO : AI h (P' + 2) 0 1488 PO) (hPP : AI h (P' + 4) 0 30 PP) {t : Int} (t0 : 0 ≤ t) (t1 : t ≤ 30) (hg : 0 ≤ go_ ∧ go_ < 64) (hn : ∀ j : Nat, (j : Int) < t → 0 ≤ ndc PO (t * 48 + go_) j ∧ ndc PO (t * 48 + go_) j < 1488) (sp : P' + 5 ≤ w ∨ w + 38 ≤ P') : ∃ r_ h', q_cl E q_m_X4_tracePath [Value.ref (P'), Value.int (zi t)] h = some (r_, h') ∧ (r_ = .inl none ∧ ∃ PP', (WH h' w l p ∧ PLo h' P' w ro go_ gt ∧ AI h' (P' + 2) 0 1488 PO ∧ AI h' (P' + 4) 0 30 PP') ∧ (∀ i : Int, 0 ≤ i → i < t → PP' i = ndc PO (t * 48 + go_) (t - 1 - i).toNat % 48) ∧ Fr (P' + 4) 1 h h') := by
  suffices K : ∀ Q : q_R → q_H → Prop, (∀ r_ h', (r_ = .inl none ∧ ∃ PP', (WH h' w l p ∧ PLo h' P' w ro go_ gt ∧ AI h' (P' + 2) 0 1488 PO ∧ AI h' (P' + 4) 0 30 PP') ∧ (∀ i : Int, 0 ≤ i → i < t → PP' i = ndc PO (t * 48 + go_) (t - 1 - i).toNat % 48) ∧ Fr (P' + 4) 1 h h') → Q r_ h') → Xv E q_m_X4_tracePath 0 [Value.ref (P'), Value.int (zi t), Value.null, Value.null] [] h Q from K _ fun _ _ p => p
  intro Q hQ
  obtain ⟨g0, g1, g2, g3, g4, gc, g5, g6, g7, gk, gl, gr, go⟩ := id hR
  refine xv (x_iload_n 1 d_X4_tracePath_0 rfl rfl) ?_
  refine xv (x_bipush 3 d_X4_tracePath_1 rfl rfl) ?_
  refine xv (x_imul 4 d_X4_tracePath_3 rfl) ?_
  refine xv (x_aload_n 5 d_X4_tracePath_4 rfl rfl) ?_
  refine xv (x_getfield 8 d_X4_tracePath_5 rfl f_4_73 (Nat.le_of_ble_eq_true rfl) (Nat.le_of_ble_eq_true rfl) (q_gf_of hP rfl)) ?_
  refine xv (x_iadd 9 d_X4_tracePath_8 rfl) ?_
  refine xv (x_istore_n 10 d_X4_tracePath_9 rfl (Nat.le_of_ble_eq_true rfl)) ?_
  show Xv E q_m_X4_tracePath 10 [Value.ref (P'), Value.int (zi t), Value.int (zi ((t * 48) + go_)), Value.null] [] h Q
  refine xv (x_iload_n 11 d_X4_tracePath_10 rfl rfl) ?_
  refine xv (x_istore_n 12 d_X4_tracePath_11 rfl (Nat.le_of_ble_eq_true rfl)) ?_
  show Xv E q_m_X4_tracePath 12 [Value.ref (P'), Value.int (zi t), Value.int (zi ((t * 48) + go_)), Value.int (zi t)] [] h Q
  have L12 : ∀ (n_ : Nat) (x : Int) (i : Int) (PP2 : Int → Int) (H : q_H), (0 ≤ i) → (i ≤ t) → (x = ndc PO (t * 48 + go_) (t - i).toNat) → (∀ j : Int, i ≤ j → j < t → PP2 j = ndc PO (t * 48 + go_) (t - 1 - j).toNat % 48) → (WH H w l p) → (PLo H P' w ro go_ gt) → (AI H (P' + 2) 0 1488 PO) → (AI H (P' + 4) 0 30 PP2) → (Fr (P' + 4) 1 h H) → (-2147483648 ≤ x ∧ x < 2147483648 ∨ i = 0) → i.toNat = n_ → Xv E q_m_X4_tracePath 12 [Value.ref (P'), Value.int (zi t), Value.int (zi x), Value.int (zi i)] [] H Q := by
    intro n_
    induction n_ using Nat.strongRecOn with
    | _ n_ ih12 =>
      intro x i PP2 H i0 i1 hx hk hW2 hP2 hO2 hPP2 hF4 xb em
      have hnx : 0 < i → 0 ≤ x ∧ x < 1488 := fun z => hx ▸ hn (t - i).toNat (by omega)
      refine xv (x_iload_n 13 d_X4_tracePath_12 rfl rfl) ?_
      refine v_if_le 59 16 d_X4_tracePath_13 rfl rfl (by omega) (by omega) (fun k13 => ?_) (fun k13 => ?_)
      · refine xv_r (x_return d_X4_tracePath_59 rfl) ?_
        exact hQ _ _ ⟨rfl, _, ⟨hW2, hP2, hO2, hPP2⟩, fun i a b => hk i (by omega) b, hF4⟩
      · refine xv (x_iload_n 17 d_X4_tracePath_16 rfl rfl) ?_
        refine xv (x_bipush 19 d_X4_tracePath_17 rfl rfl) ?_
        refine v_icmp_gt 59 22 d_X4_tracePath_19 rfl rfl (by omega) (by omega) (by omega) (by omega) (fun k19 => ?_) (fun k19 => ?_)
        · refine xv_r (x_return d_X4_tracePath_59 rfl) ?_
          exact hQ _ _ ⟨rfl, _, ⟨hW2, hP2, hO2, hPP2⟩, fun i a b => hk i (by omega) b, hF4⟩
        · refine xv (x_iload_n 23 d_X4_tracePath_22 rfl rfl) ?_
          refine v_if_lt 33 26 d_X4_tracePath_23 rfl rfl (by omega) (by omega) (fun k23 => ?_) (fun k23 => ?_)
          · exact absurd k23 (by have := hn (t - i).toNat (by omega); omega)
          · refine xv (x_iload_n 27 d_X4_tracePath_26 rfl rfl) ?_
            refine xv (x_sipush 30 d_X4_tracePath_27 rfl rfl) ?_
            refine v_icmp_lt 34 33 d_X4_tracePath_30 rfl rfl (by omega) (by omega) (by omega) (by omega) (fun k30 => ?_) (fun k30 => ?_)
            · refine xv (x_aload_n 35 d_X4_tracePath_34 rfl rfl) ?_
              refine xv (x_getfield 38 d_X4_tracePath_35 rfl f_4_26 (Nat.le_of_ble_eq_true rfl) (Nat.le_of_ble_eq_true rfl) (q_gf_of hP2 rfl)) ?_
              refine xv (x_iload_n 39 d_X4_tracePath_38 rfl rfl) ?_
              refine xv (x_iconst 40 d_X4_tracePath_39 rfl) ?_
              refine xv (x_isub 41 d_X4_tracePath_40 rfl) ?_
              refine xv (x_iload_n 42 d_X4_tracePath_41 rfl rfl) ?_
              refine xv (x_bipush 44 d_X4_tracePath_42 rfl rfl) ?_
              refine xv (x_irem 45 d_X4_tracePath_44 rfl (by omega) (by omega) (by omega) (by omega)) ?_
              obtain ⟨h45, e45, w45, f45⟩ := ai_s (z := i - 1) (v := x % 48) hPP2 (by omega) (by omega) (by decide)
              have W_45 := wh_fr hW2 f45 (by omega)
              have PL_45 := (f45.2 _ (by omega)).trans hP2
              have PO_45 := ai_fr hO2 f45 (by omega)
              have F45 : Fr (P') 5 h h45 := fr_tr (fr_in hF4 (by omega) (by omega)) (fr_in f45 (by omega) (by omega))
              refine xv (x_iastore 46 d_X4_tracePath_45 rfl e45) ?_
              show Xv E q_m_X4_tracePath 46 [Value.ref (P'), Value.int (zi t), Value.int (zi x), Value.int (zi i)] [] h45 Q
              refine xv (x_aload_n 47 d_X4_tracePath_46 rfl rfl) ?_
              refine xv (x_getfield 50 d_X4_tracePath_47 rfl f_4_19 (Nat.le_of_ble_eq_true rfl) (Nat.le_of_ble_eq_true rfl) (q_gf_of PL_45 rfl)) ?_
              refine xv (x_iload_n 51 d_X4_tracePath_50 rfl rfl) ?_
              refine xv (x_iaload 52 d_X4_tracePath_51 rfl (ai_g PO_45 (by omega) (by omega) (by decide))) ?_
              refine xv (x_istore_n 53 d_X4_tracePath_52 rfl (Nat.le_of_ble_eq_true rfl)) ?_
              show Xv E q_m_X4_tracePath 53 [Value.ref (P'), Value.int (zi t), Value.int (zi (PO x)), Value.int (zi i)] [] h45 Q
              refine xv (x_iinc 56 d_X4_tracePath_53 rfl rfl) ?_
              show Xv E q_m_X4_tracePath 56 [Value.ref (P'), Value.int (zi t), Value.int (zi (PO x)), Value.int (zi (i + (-1)))] [] h45 Q
              refine xv (x_goto 12 d_X4_tracePath_56 rfl) ?_
              have en : x = ndc PO (t * 48 + go_) (t - i).toNat := hx
              have es : PO x = ndc PO (t * 48 + go_) (t - (i + -1)).toNat := by rw [show (t - (i + -1)).toNat = (t - i).toNat + 1 by omega, en]; rfl
              refine ih12 _ (by omega) _ (i + -1) _ _ (by omega) (by omega) es (fun j a b => ?_) W_45 PL_45 PO_45 w45 (fr_tr hF4 f45) (by by_cases z : i + -1 = 0; exact .inr z; have := hn (t - (i + -1)).toNat (by omega); rw [← es] at this; omega) rfl
              by_cases z : j = i - 1
              · subst z; rw [u1_eq, en, show t - 1 - (i - 1) = t - i by omega]
              · rw [u1_ne z]; exact hk j (by omega) b
            · exact absurd k30 (by have := hn (t - i).toNat (by omega); omega)
  exact L12 _ (t * 48 + go_) t _ _ (by omega) (by omega) (by rw [show (t - t).toNat = 0 by omega]; rfl) (fun j a b => by omega) hW hP hO hPP fr_rf (by omega) rfl
end CQ
