/-! the class itself: plan (printed by program) -/
/-- a step's cost -/
def stp (l : Int → Int) (r : Int) : Int := if isO l (rb l r 2) ∧ 0 < ob l (rb l r 2) 2 then l 6 else 1
def rfFnd (l : Int → Int) (r T : Int) (PP : Int → Int) : Int × Int := if T = -1 then (10, 0) else if rb l r 1 < mvc PP T.toNat 0 (rb l r 0) 0 * stp l r then (11, mvc PP T.toNat 0 (rb l r 0) 0 * stp l r) else (0, 0)
noncomputable def rfPln (l : Int → Int) (r g : Int) (PP : Int → Int) : Int × Int := if ¬ (rfGoa l r g).1 = 0 then rfGoa l r g else rfFnd l r (fT l r g) PP
def fo2 (f c : Int → Int) (k : Int) : Int → Int := fun i => if 6 ≤ i ∧ i < 6 + k then c (i - 6) else f i
section CV5
variable {E : q_E} {h h' : q_H} {x w v a b t N k d : Nat} {l lo ls f g c q PP : Int → Int} {p p2 pk : Int → Nat} {hs fa kr kd_ nx ct n ro go_ gt : Int} {kl : Int → Int → Int}
theorem mvc_r {f : Int → Int} : ∀ (n : Nat) (i b a : Int), a ≤ mvc f n i b a ∧ mvc f n i b a ≤ a + n
  | 0, i, b, a => ⟨Int.le_refl _, by show a ≤ a + 0; omega⟩
  | n + 1, i, b, a => by
    have := mvc_r (f := f) n (i + 1) (f i) (if f i = b then a else a + 1)
    show a ≤ mvc f n (i + 1) (f i) (if f i = b then a else a + 1) ∧ mvc f n (i + 1) (f i) (if f i = b then a else a + 1) ≤ a + (n + 1 : Nat)
    split at this <;> rename_i q
    · rw [if_pos q]; omega
    · rw [if_neg q]; omega
theorem stp_r {r : Int} (hR : RgC l) : 1 ≤ stp l r ∧ stp l r ≤ 3 := by
  have g6 := hR.2.2.2.2.2.2.2.1
  unfold stp
  split <;> omega
theorem mul_r {a b m : Int} (h1 : 0 ≤ a) (h2 : a ≤ m) (h3 : 1 ≤ b) (h4 : b ≤ 3) : 0 ≤ a * b ∧ a * b ≤ 3 * m := by
  have := Int.mul_nonneg h1 (show 0 ≤ b by omega)
  have a1 := Int.mul_le_mul_of_nonneg_left h4 h1
  omega
theorem fT_r {y z : Int} (hR : RgC l) : fT l y z = -1 ∨ 1 ≤ fT l y z ∧ fT l y z ≤ 30 := by
  have g7 := hR.2.2.2.2.2.2.2.2.1
  have := @fnd_r (fun t => rea l y t.toNat z ∧ gtu l y z < t) (l 7).toNat 1
  unfold fT
  omega
theorem S_X5_follow (hA : RB h a f) (hP : AI h b 0 30 c) (sp : b < a ∨ a + 2 ≤ b) {t z : Int} (ht : 0 ≤ t ∧ t ≤ 30) : ∃ r_ h', q_cl E q_m_X5_follow [Value.ref a, Value.ref b, Value.int (zi t), Value.int (zi z)] h = some (r_, h') ∧ (r_ = .inl none ∧ RB h' a (fol f c t z) ∧ Fr a 2 h h') := by
  suffices K : ∀ Q : q_R → q_H → Prop, (∀ r_ h', (r_ = .inl none ∧ RB h' a (fol f c t z) ∧ Fr a 2 h h') → Q r_ h') → Xv E q_m_X5_follow 0 [Value.ref a, Value.ref b, Value.int (zi t), Value.int (zi z), Value.null] [] h Q from K _ fun _ _ p => p
  intro Q hQ
  refine xv (x_iconst 1 d_X5_follow_0 rfl) ?_
  refine xv (x_istore 3 d_X5_follow_1 rfl (Nat.le_of_ble_eq_true rfl)) ?_
  show Xv E q_m_X5_follow 3 [Value.ref a, Value.ref b, Value.int (zi t), Value.int (zi z), Value.int (zi 0)] [] h Q
  have L3 : ∀ (n_ : Nat) (k : Int) (H : q_H), (0 ≤ k) → (k ≤ t) → (RB H a (fo2 f c k)) → (AI H b 0 30 c) → (Fr a 2 h H) → (t - k).toNat = n_ → Xv E q_m_X5_follow 3 [Value.ref a, Value.ref b, Value.int (zi t), Value.int (zi z), Value.int (zi k)] [] H Q := by
    intro n_
    induction n_ using Nat.strongRecOn with
    | _ n_ ih3 =>
      intro k H k0 k1 hA2 hP2 hF2 em
      refine xv (x_iload 5 d_X5_follow_3 rfl rfl) ?_
      refine xv (x_iload_n 6 d_X5_follow_5 rfl rfl) ?_
      refine v_icmp_ge 43 9 d_X5_follow_6 rfl rfl (by omega) (by omega) (by omega) (by omega) (fun k6 => ?_) (fun k6 => ?_)
      · refine xv (x_aload_n 44 d_X5_follow_43 rfl rfl) ?_
        refine xv (x_iload_n 45 d_X5_follow_44 rfl rfl) ?_
        obtain ⟨h45, e45, w45, f45⟩ := rb_pf4 (v := t) hA2
        have PP_45 := ai_fr hP2 f45 (by omega)
        have F45 : Fr a 2 h h45 := fr_tr hF2 (fr_in f45 (by omega) (by omega))
        refine xv (x_putfield 48 d_X5_follow_45 rfl f_5_28 (Nat.le_of_ble_eq_true rfl) e45 rfl rfl (fun e => absurd e (by decide))) ?_
        show Xv E q_m_X5_follow 48 [Value.ref a, Value.ref b, Value.int (zi t), Value.int (zi z), Value.int (zi k)] [] h45 Q
        refine xv (x_aload_n 49 d_X5_follow_48 rfl rfl) ?_
        refine xv (x_iload_n 50 d_X5_follow_49 rfl rfl) ?_
        obtain ⟨h50, e50, w50, f50⟩ := rb_pf5 (v := z) w45
        have PP_50 := ai_fr PP_45 f50 (by omega)
        have F50 : Fr a 2 h h50 := fr_tr F45 (fr_in f50 (by omega) (by omega))
        refine xv (x_putfield 53 d_X5_follow_50 rfl f_5_31 (Nat.le_of_ble_eq_true rfl) e50 rfl rfl (fun e => absurd e (by decide))) ?_
        show Xv E q_m_X5_follow 53 [Value.ref a, Value.ref b, Value.int (zi t), Value.int (zi z), Value.int (zi k)] [] h50 Q
        refine xv_r (x_return d_X5_follow_53 rfl) ?_
        have ek : k = t := by omega
        subst ek
        refine hQ _ _ ⟨rfl, rb_cg w50 fun i a_ b_ => ?_, F50⟩
        show (if i = 4 then z else if i = 3 then k else if 6 ≤ i ∧ i < 6 + k then c (i - 6) else f i) = if i = 3 then k else if i = 4 then z else if 6 ≤ i ∧ i < 6 + k then c (i - 6) else f i
        by_cases q1 : i = 3
        · subst q1; rfl
        · rw [if_neg q1, if_neg q1]
      · refine xv (x_iload 11 d_X5_follow_9 rfl rfl) ?_
        refine xv (x_aload_n 12 d_X5_follow_11 rfl rfl) ?_
        refine xv (x_arraylength 13 d_X5_follow_12 rfl (ai_l hP2 (by decide))) ?_
        refine v_icmp_ge 43 16 d_X5_follow_13 rfl rfl (by omega) (by omega) (by omega) (by omega) (fun k13 => ?_) (fun k13 => ?_)
        · refine xv (x_aload_n 44 d_X5_follow_43 rfl rfl) ?_
          refine xv (x_iload_n 45 d_X5_follow_44 rfl rfl) ?_
          obtain ⟨h45, e45, w45, f45⟩ := rb_pf4 (v := t) hA2
          have PP_45 := ai_fr hP2 f45 (by omega)
          have F45 : Fr a 2 h h45 := fr_tr hF2 (fr_in f45 (by omega) (by omega))
          refine xv (x_putfield 48 d_X5_follow_45 rfl f_5_28 (Nat.le_of_ble_eq_true rfl) e45 rfl rfl (fun e => absurd e (by decide))) ?_
          show Xv E q_m_X5_follow 48 [Value.ref a, Value.ref b, Value.int (zi t), Value.int (zi z), Value.int (zi k)] [] h45 Q
          refine xv (x_aload_n 49 d_X5_follow_48 rfl rfl) ?_
          refine xv (x_iload_n 50 d_X5_follow_49 rfl rfl) ?_
          obtain ⟨h50, e50, w50, f50⟩ := rb_pf5 (v := z) w45
          have PP_50 := ai_fr PP_45 f50 (by omega)
          have F50 : Fr a 2 h h50 := fr_tr F45 (fr_in f50 (by omega) (by omega))
          refine xv (x_putfield 53 d_X5_follow_50 rfl f_5_31 (Nat.le_of_ble_eq_true rfl) e50 rfl rfl (fun e => absurd e (by decide))) ?_
          show Xv E q_m_X5_follow 53 [Value.ref a, Value.ref b, Value.int (zi t), Value.int (zi z), Value.int (zi k)] [] h50 Q
          refine xv_r (x_return d_X5_follow_53 rfl) ?_
          have ek : k = t := by omega
          subst ek
          refine hQ _ _ ⟨rfl, rb_cg w50 fun i a_ b_ => ?_, F50⟩
          show (if i = 4 then z else if i = 3 then k else if 6 ≤ i ∧ i < 6 + k then c (i - 6) else f i) = if i = 3 then k else if i = 4 then z else if 6 ≤ i ∧ i < 6 + k then c (i - 6) else f i
          by_cases q1 : i = 3
          · subst q1; rfl
          · rw [if_neg q1, if_neg q1]
        · refine xv (x_iload 18 d_X5_follow_16 rfl rfl) ?_
          refine xv (x_aload_n 19 d_X5_follow_18 rfl rfl) ?_
          refine xv (x_getfield 22 d_X5_follow_19 rfl f_5_9 (Nat.le_of_ble_eq_true rfl) (Nat.le_of_ble_eq_true rfl) (q_gf_of hA2.1 rfl)) ?_
          refine xv (x_arraylength 23 d_X5_follow_22 rfl (ai_l hA2.2 (by decide))) ?_
          refine v_icmp_ge 43 26 d_X5_follow_23 rfl rfl (by omega) (by omega) (by omega) (by omega) (fun k23 => ?_) (fun k23 => ?_)
          · refine xv (x_aload_n 44 d_X5_follow_43 rfl rfl) ?_
            refine xv (x_iload_n 45 d_X5_follow_44 rfl rfl) ?_
            obtain ⟨h45, e45, w45, f45⟩ := rb_pf4 (v := t) hA2
            have PP_45 := ai_fr hP2 f45 (by omega)
            have F45 : Fr a 2 h h45 := fr_tr hF2 (fr_in f45 (by omega) (by omega))
            refine xv (x_putfield 48 d_X5_follow_45 rfl f_5_28 (Nat.le_of_ble_eq_true rfl) e45 rfl rfl (fun e => absurd e (by decide))) ?_
            show Xv E q_m_X5_follow 48 [Value.ref a, Value.ref b, Value.int (zi t), Value.int (zi z), Value.int (zi k)] [] h45 Q
            refine xv (x_aload_n 49 d_X5_follow_48 rfl rfl) ?_
            refine xv (x_iload_n 50 d_X5_follow_49 rfl rfl) ?_
            obtain ⟨h50, e50, w50, f50⟩ := rb_pf5 (v := z) w45
            have PP_50 := ai_fr PP_45 f50 (by omega)
            have F50 : Fr a 2 h h50 := fr_tr F45 (fr_in f50 (by omega) (by omega))
            refine xv (x_putfield 53 d_X5_follow_50 rfl f_5_31 (Nat.le_of_ble_eq_true rfl) e50 rfl rfl (fun e => absurd e (by decide))) ?_
            show Xv E q_m_X5_follow 53 [Value.ref a, Value.ref b, Value.int (zi t), Value.int (zi z), Value.int (zi k)] [] h50 Q
            refine xv_r (x_return d_X5_follow_53 rfl) ?_
            have ek : k = t := by omega
            subst ek
            refine hQ _ _ ⟨rfl, rb_cg w50 fun i a_ b_ => ?_, F50⟩
            show (if i = 4 then z else if i = 3 then k else if 6 ≤ i ∧ i < 6 + k then c (i - 6) else f i) = if i = 3 then k else if i = 4 then z else if 6 ≤ i ∧ i < 6 + k then c (i - 6) else f i
            by_cases q1 : i = 3
            · subst q1; rfl
            · rw [if_neg q1, if_neg q1]
          · refine xv (x_aload_n 27 d_X5_follow_26 rfl rfl) ?_
            refine xv (x_getfield 30 d_X5_follow_27 rfl f_5_9 (Nat.le_of_ble_eq_true rfl) (Nat.le_of_ble_eq_true rfl) (q_gf_of hA2.1 rfl)) ?_
            refine xv (x_iload 32 d_X5_follow_30 rfl rfl) ?_
            refine xv (x_aload_n 33 d_X5_follow_32 rfl rfl) ?_
            refine xv (x_iload 35 d_X5_follow_33 rfl rfl) ?_
            refine xv (x_iaload 36 d_X5_follow_35 rfl (ai_g hP2 (by omega) (by omega) (by decide))) ?_
            obtain ⟨h36, e36, w36, f36⟩ := rb_ps (z := k) (v := c k) hA2 (by omega) (by omega)
            have PP_36 := ai_fr hP2 f36 (by omega)
            have F36 : Fr a 2 h h36 := fr_tr hF2 (fr_in f36 (by omega) (by omega))
            refine xv (x_iastore 37 d_X5_follow_36 rfl e36) ?_
            show Xv E q_m_X5_follow 37 [Value.ref a, Value.ref b, Value.int (zi t), Value.int (zi z), Value.int (zi k)] [] h36 Q
            refine xv (x_iinc 40 d_X5_follow_37 rfl rfl) ?_
            show Xv E q_m_X5_follow 40 [Value.ref a, Value.ref b, Value.int (zi t), Value.int (zi z), Value.int (zi (k + 1))] [] h36 Q
            refine xv (x_goto 3 d_X5_follow_40 rfl) ?_
            refine ih3 _ (by omega) (k + 1) _ (by omega) (by omega) (rb_cg w36 fun i a_ b_ => ?_) PP_36 F36 rfl
            show (if i = 6 + k then c k else if 6 ≤ i ∧ i < 6 + k then c (i - 6) else f i) = if 6 ≤ i ∧ i < 6 + (k + 1) then c (i - 6) else f i
            by_cases q1 : i = 6 + k
            · rw [if_pos q1, if_pos (by omega), q1, show 6 + k - 6 = k by omega]
            · rw [if_neg q1]
              by_cases q2 : 6 ≤ i ∧ i < 6 + k
              · rw [if_pos q2, if_pos (by omega)]
              · rw [if_neg q2, if_neg (by omega)]
  refine L3 _ 0 _ (by omega) (by omega) (rb_cg hA fun i a_ b_ => ?_) hP fr_rf rfl
  exact (if_neg (by omega)).symm
theorem S_X7_refusesFound (hX : CAo h x hs fa kr kd_) (hW : WH h (x + 1) l p) (hR : RgC l) {y : Int} (hP : PLo h (x + 439) (x + 1) y go_ gt) (hPP : AI h (x + 443) 0 30 PP) {t : Int} (hy : isR l y) (ht : -1 ≤ t ∧ t ≤ 30) (hp : ∀ i, 0 ≤ i → i < t → 0 ≤ PP i ∧ PP i < 48) : ∃ r_ h', q_cl E q_m_X7_refusesFound [Value.ref x, Value.int (zi y), Value.int (zi t)] h = some (r_, h') ∧ (r_ = .inl (some (.int (zi (bI (¬ (rfFnd l y t PP).1 = 0))))) ∧ CAo h' x hs fa (krn (rfFnd l y t PP) kr) (kdn (rfFnd l y t PP) kd_) ∧ WH h' (x + 1) l p ∧ Fr x 1 h h') := by
  suffices K : ∀ Q : q_R → q_H → Prop, (∀ r_ h', (r_ = .inl (some (.int (zi (bI (¬ (rfFnd l y t PP).1 = 0))))) ∧ CAo h' x hs fa (krn (rfFnd l y t PP) kr) (kdn (rfFnd l y t PP) kd_) ∧ WH h' (x + 1) l p ∧ Fr x 1 h h') → Q r_ h') → Xv E q_m_X7_refusesFound 0 [Value.ref x, Value.int (zi y), Value.int (zi t), Value.null] [] h Q from K _ fun _ _ p => p
  intro Q hQ
  obtain ⟨g0, g1, g2, g3, g4, gc, g5, g6, g7, gk, gl, gr, go⟩ := id hR
  have gq := gr y hy.1 hy.2
  refine xv (x_iload_n 1 d_X7_refusesFound_0 rfl rfl) ?_
  refine xv (x_iconst 2 d_X7_refusesFound_1 rfl) ?_
  refine v_icmp_ne 13 5 d_X7_refusesFound_2 rfl rfl (by omega) (by omega) (by omega) (by omega) (fun k2 => ?_) (fun k2 => ?_)
  · refine xv (x_aload_n 14 d_X7_refusesFound_13 rfl rfl) ?_
    refine xv (x_getfield 17 d_X7_refusesFound_14 rfl f_7_45 (Nat.le_of_ble_eq_true rfl) (Nat.le_of_ble_eq_true rfl) (q_gf_of hX rfl)) ?_
    refine xv (x_iload_n 18 d_X7_refusesFound_17 rfl rfl) ?_
    refine xv (x_inv1 21 (as := [Value.int (zi t)]) d_X7_refusesFound_18 rfl c_7_236 rfl (Nat.le_of_ble_eq_true rfl) (Nat.le_of_ble_eq_true rfl) hP (Nat.le_of_ble_eq_true rfl) (Nat.le_of_ble_eq_true rfl) rfl (S_X4_stepsOfPath hW hR hP hy hPP (by omega) (by omega) hp)) ?_
    have qm := mvc_r (f := PP) (t).toNat 0 (rb l y 0) 0
    show Xv E q_m_X7_refusesFound 21 [Value.ref x, Value.int (zi y), Value.int (zi t), Value.null] [Value.int (zi (mvc PP (t).toNat 0 (rb l y 0) 0))] h Q
    refine xv (x_aload_n 22 d_X7_refusesFound_21 rfl rfl) ?_
    refine xv (x_getfield 25 d_X7_refusesFound_22 rfl f_7_12 (Nat.le_of_ble_eq_true rfl) (Nat.le_of_ble_eq_true rfl) (q_gf_of hX rfl)) ?_
    refine xv (x_iload_n 26 d_X7_refusesFound_25 rfl rfl) ?_
    refine xv (x_inv1 29 (as := [Value.int (zi y)]) d_X7_refusesFound_26 rfl c_7_223 rfl (Nat.le_of_ble_eq_true rfl) (Nat.le_of_ble_eq_true rfl) (wh_o hW) (Nat.le_of_ble_eq_true rfl) (Nat.le_of_ble_eq_true rfl) rfl (S_X6_stepCost hW hR hy)) ?_
    have qs := stp_r (r := y) hR
    show Xv E q_m_X7_refusesFound 29 [Value.ref x, Value.int (zi y), Value.int (zi t), Value.null] [Value.int (zi (stp l y)), Value.int (zi (mvc PP (t).toNat 0 (rb l y 0) 0))] h Q
    refine xv (x_imul 30 d_X7_refusesFound_29 rfl) ?_
    have qx := mul_r (a := mvc PP t.toNat 0 (rb l y 0) 0) (b := stp l y) (m := 30) (by omega) (by omega) qs.1 qs.2
    refine xv (x_istore_n 31 d_X7_refusesFound_30 rfl (Nat.le_of_ble_eq_true rfl)) ?_
    show Xv E q_m_X7_refusesFound 31 [Value.ref x, Value.int (zi y), Value.int (zi t), Value.int (zi ((mvc PP (t).toNat 0 (rb l y 0) 0) * (stp l y)))] [] h Q
    refine xv (x_aload_n 32 d_X7_refusesFound_31 rfl rfl) ?_
    refine xv (x_getfield 35 d_X7_refusesFound_32 rfl f_7_12 (Nat.le_of_ble_eq_true rfl) (Nat.le_of_ble_eq_true rfl) (q_gf_of hX rfl)) ?_
    refine xv (x_getfield 38 d_X7_refusesFound_35 rfl f_7_131 (Nat.le_of_ble_eq_true rfl) (Nat.le_of_ble_eq_true rfl) (q_gf_of (wh_o hW) rfl)) ?_
    refine xv (x_iload_n 39 d_X7_refusesFound_38 rfl rfl) ?_
    refine xv (x_aaload 40 d_X7_refusesFound_39 rfl (wh_rs hW (by omega) (by omega))) ?_
    refine xv (x_getfield 43 d_X7_refusesFound_40 rfl f_7_239 (Nat.le_of_ble_eq_true rfl) (Nat.le_of_ble_eq_true rfl) (q_gf_of (wh_r hW (by omega) (by omega)).1 rfl)) ?_
    have q40 := gr y (by omega) (by omega)
    refine xv (x_iload_n 44 d_X7_refusesFound_43 rfl rfl) ?_
    refine v_icmp_ge 55 47 d_X7_refusesFound_44 rfl rfl (by omega) (by omega) (by omega) (by omega) (fun k44 => ?_) (fun k44 => ?_)
    · refine xv (x_iconst 56 d_X7_refusesFound_55 rfl) ?_
      refine xv_r (x_ireturn d_X7_refusesFound_56 rfl rfl) ?_
      have er : rfFnd l y t PP = (0, 0) := by unfold rfFnd; repeat (first | rw [if_pos (by omega)] | rw [if_neg (by omega)])
      refine hQ _ _ ?_
      rw [er]
      exact ⟨by rw [bI_f (show ¬ ¬ ((0, 0) : Int × Int).1 = 0 from fun e_ => e_ rfl)], hX, hW, fr_rf⟩
    · refine xv (x_aload_n 48 d_X7_refusesFound_47 rfl rfl) ?_
      refine xv (x_bipush 50 d_X7_refusesFound_48 rfl rfl) ?_
      refine xv (x_iload_n 51 d_X7_refusesFound_50 rfl rfl) ?_
      obtain ⟨r51, h51, e51, z51, w51, f51⟩ := S_X7_refuse (E := E) (y := 11) (z := (mvc PP (t).toNat 0 (rb l y 0) 0) * (stp l y)) hX
      subst z51
      have W_51 := wh_fr hW f51 (by omega)
      have PL_51 := (f51.2 _ (by omega)).trans hP
      have PP_51 := ai_fr hPP f51 (by omega)
      have F51 : Fr x 1 h h51 := fr_tr fr_rf (fr_in f51 (by omega) (by omega))
      refine xv (x_inv1 54 (as := [Value.int (zi 11), Value.int (zi ((mvc PP (t).toNat 0 (rb l y 0) 0) * (stp l y)))]) d_X7_refusesFound_51 rfl c_7_109 rfl (Nat.le_of_ble_eq_true rfl) (Nat.le_of_ble_eq_true rfl) hX (Nat.le_of_ble_eq_true rfl) (Nat.le_of_ble_eq_true rfl) rfl e51) ?_
      show Xv E q_m_X7_refusesFound 54 [Value.ref x, Value.int (zi y), Value.int (zi t), Value.int (zi ((mvc PP (t).toNat 0 (rb l y 0) 0) * (stp l y)))] [Value.int (zi 1)] h51 Q
      refine xv_r (x_ireturn d_X7_refusesFound_54 rfl rfl) ?_
      have er : rfFnd l y t PP = (11, (mvc PP (t).toNat 0 (rb l y 0) 0) * (stp l y)) := by unfold rfFnd; repeat (first | rw [if_pos (by omega)] | rw [if_neg (by omega)])
      refine hQ _ _ ?_
      rw [er]
      exact ⟨by rw [bI_t (show ¬ ((11, (mvc PP (t).toNat 0 (rb l y 0) 0) * (stp l y)) : Int × Int).1 = 0 from fun e_ => absurd (show (11 : Int) = 0 from e_) (by decide))], w51, W_51, F51⟩
  · refine xv (x_aload_n 6 d_X7_refusesFound_5 rfl rfl) ?_
    refine xv (x_bipush 8 d_X7_refusesFound_6 rfl rfl) ?_
    refine xv (x_iconst 9 d_X7_refusesFound_8 rfl) ?_
    obtain ⟨r9, h9, e9, z9, w9, f9⟩ := S_X7_refuse (E := E) (y := 10) (z := 0) hX
    subst z9
    have W_9 := wh_fr hW f9 (by omega)
    have PL_9 := (f9.2 _ (by omega)).trans hP
    have PP_9 := ai_fr hPP f9 (by omega)
    have F9 : Fr x 1 h h9 := fr_tr fr_rf (fr_in f9 (by omega) (by omega))
    refine xv (x_inv1 12 (as := [Value.int (zi 10), Value.int (zi 0)]) d_X7_refusesFound_9 rfl c_7_109 rfl (Nat.le_of_ble_eq_true rfl) (Nat.le_of_ble_eq_true rfl) hX (Nat.le_of_ble_eq_true rfl) (Nat.le_of_ble_eq_true rfl) rfl e9) ?_
    show Xv E q_m_X7_refusesFound 12 [Value.ref x, Value.int (zi y), Value.int (zi t), Value.null] [Value.int (zi 1)] h9 Q
    refine xv_r (x_ireturn d_X7_refusesFound_12 rfl rfl) ?_
    have er : rfFnd l y t PP = (10, 0) := by unfold rfFnd; repeat (first | rw [if_pos (by omega)] | rw [if_neg (by omega)])
    refine hQ _ _ ?_
    rw [er]
    exact ⟨by rw [bI_t (show ¬ ((10, 0) : Int × Int).1 = 0 from fun e_ => absurd (show (10 : Int) = 0 from e_) (by decide))], w9, W_9, F9⟩
end CV5
