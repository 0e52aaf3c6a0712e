/-! distances by table, in the class: kept, made anew (printed by program) -/
theorem fnd_cg {P P' : Int → Prop} : ∀ {n : Nat} {k : Int}, (∀ i, k ≤ i → i < k + n → (P i ↔ P' i)) → fnd P n k = fnd P' n k
  | 0, _, _ => rfl
  | n + 1, k, h => by
    by_cases q : P k
    · rw [fnd_t q, fnd_t ((h k (by omega) (by omega)).mp q)]
    · rw [fnd_f q, fnd_f (fun x => q ((h k (by omega) (by omega)).mpr x))]
      exact fnd_cg (fun i a b => h i (by omega) (by omega))
theorem bes_cg {s s' : Int → Int} (h0 : s 0 = s' 0) (h1 : s 1 = s' 1) (c w : Int) : bes s c w = bes s' c w := by
  unfold bes cs
  rw [h0, h1]
theorem cs_cg {s s' : Int → Int} (h0 : s 0 = s' 0) (h1 : s 1 = s' 1) : cs s = cs s' := by
  unfold cs
  rw [h0, h1]
theorem wk_cg {s s' : Int → Int} (hR : RgC s) (h0 : s 0 = s' 0) (h1 : s 1 = s' 1) (he : ∀ c, isC s c → (ent s c ↔ ent s' c)) : ∀ (n : Nat) (a b : Int), isC s a → (wk s n a b ↔ wk s' n a b)
  | 0, a, b, _ => Iff.rfl
  | n + 1, a, b, ha => by
    constructor
    · rintro ⟨c, ⟨w, hw, e, e0, en⟩, k⟩
      have hc := edge_c hR ha ⟨w, hw, e, e0, en⟩
      exact ⟨c, ⟨w, hw, (bes_cg h0 h1 a w).symm.trans e, e0, (he c hc).mp en⟩, (wk_cg hR h0 h1 he n c b hc).mp k⟩
    · rintro ⟨c, ⟨w, hw, e, e0, en⟩, k⟩
      have e' : bes s a w = c := (bes_cg h0 h1 a w).trans e
      have hc : isC s c := by
        have := besC_r (w := w) hR ha
        rw [e'] at this
        omega
      exact ⟨c, ⟨w, hw, e', e0, (he c hc).mpr en⟩, (wk_cg hR h0 h1 he n c b hc).mpr k⟩
theorem dst_cg {s s' : Int → Int} (hR : RgC s) (h0 : s 0 = s' 0) (h1 : s 1 = s' 1) (he : ∀ c, isC s c → (ent s c ↔ ent s' c)) {a b : Int} (ha : isC s a) : dst s a b = dst s' a b := fnd_cg fun i _ _ => wk_cg hR h0 h1 he i.toNat a b ha
/-- what the class's table is good for -/
def CV (tr tc : Int) (to : Int64) (T : Int → Int → Int) : Prop := (0 ≤ tr ∧ tr ≤ 6 ∧ 0 ≤ tc ∧ tc ≤ 8) ∧ (tr = 0 ∨ ∃ s, RgC s ∧ s 0 = tr ∧ s 1 = tc ∧ (∀ c, 0 ≤ c → c < 64 → (bt to c ↔ isC s c ∧ ent s c)) ∧ ∀ a b, isC s a → isC s b → T a b = dst s a b)
theorem cv_use {l : Int → Int} {tr tc : Int} {to x : Int64} {T : Int → Int → Int} (hR : RgC l) (hv : CV tr tc to T) (h0 : tr = l 0) (h1 : tc = l 1) (h2 : to = x) (hx : ∀ c, 0 ≤ c → c < 64 → (bt x c ↔ isC l c ∧ ent l c)) : ∀ a b, isC l a → isC l b → T a b = dst l a b := by
  have g0 := hR.1
  have gc := hR.2.2.2.2.2.1
  rcases hv.2 with e | ⟨s, hs, e0, e1, e2, e3⟩
  · omega
  · intro a b ha hb
    have q0 : s 0 = l 0 := e0.trans h0
    have q1 : s 1 = l 1 := e1.trans h1
    have qc := cs_cg q0 q1
    have ha' : isC s a := by omega
    rw [e3 a b ha' (by omega)]
    refine dst_cg hs q0 q1 (fun c hc => ?_) ha'
    have a1 := e2 c (by omega) (by omega)
    have a2 := hx c (by omega) (by omega)
    rw [h2, a2] at a1
    constructor
    · exact fun y => (a1.mpr ⟨hc, y⟩).2
    · exact fun y => (a1.mp ⟨by omega, y⟩).2
section CG2
variable {E : q_E} {h h' : q_H} {w v a b t N k d : Nat} {l lo f g c q : Int → Int} {p p2 pk : Int → Nat} {n R C z tr tc : Int} {to : Int64} {T : Int → Int → Int} {NE WI : Int → Int64}
theorem S_X0_renewTable (hW : WH h w l p) (hR : RgC l) (hD : DSo h d w tr tc to) (hT : TB h d T) (hN : AL h (d + 52) 48 NE) (hI : AL h (d + 53) 48 WI) (sp : d + 54 ≤ w ∨ w + 38 ≤ d) (hv : CV tr tc to T) : ∃ r_ h', q_cl E q_m_X0_renewTable [Value.ref d] h = some (r_, h') ∧ (r_ = .inl none ∧ ∃ tr' tc' to' T' NE' WI', (WH h' w l p ∧ DSo h' d w tr' tc' to' ∧ TB h' d T' ∧ AL h' (d + 52) 48 NE' ∧ AL h' (d + 53) 48 WI') ∧ CV tr' tc' to' T' ∧ (∀ a b, isC l a → isC l b → T' a b = dst l a b) ∧ FrT d h h') := by
  suffices K : ∀ Q : q_R → q_H → Prop, (∀ r_ h', (r_ = .inl none ∧ ∃ tr' tc' to' T' NE' WI', (WH h' w l p ∧ DSo h' d w tr' tc' to' ∧ TB h' d T' ∧ AL h' (d + 52) 48 NE' ∧ AL h' (d + 53) 48 WI') ∧ CV tr' tc' to' T' ∧ (∀ a b, isC l a → isC l b → T' a b = dst l a b) ∧ FrT d h h') → Q r_ h') → Xv E q_m_X0_renewTable 0 [Value.ref d, Value.null, Value.null] [] h Q from K _ fun _ _ p => p
  intro Q hQ
  obtain ⟨g0, g1, g2, g3, g4, gc, g5, g6, g7, gk, gl, gr, go⟩ := id hR
  have hv0 := hv.1
  refine xv (x_aload_n 1 d_X0_renewTable_0 rfl rfl) ?_
  obtain ⟨r1, h1, e1, x1, ⟨z1, y1⟩, n1⟩ := S_X0_openCells (E := E) hW hR hD hN
  rw [z1, y1] at e1
  refine xv (x_inv1 4 (as := []) d_X0_renewTable_1 rfl c_0_104 rfl (Nat.le_of_ble_eq_true rfl) (Nat.le_of_ble_eq_true rfl) hD (Nat.le_of_ble_eq_true rfl) (Nat.le_of_ble_eq_true rfl) rfl e1) ?_
  show Xv E q_m_X0_renewTable 4 [Value.ref d, Value.null, Value.null] [Value.long x1] h Q
  refine xv (x_lstore_n 5 d_X0_renewTable_4 rfl (Nat.le_of_ble_eq_true rfl)) ?_
  show Xv E q_m_X0_renewTable 5 [Value.ref d, Value.long x1, Value.null] [] h Q
  refine xv (x_aload_n 6 d_X0_renewTable_5 rfl rfl) ?_
  refine xv (x_getfield 9 d_X0_renewTable_6 rfl f_0_108 (Nat.le_of_ble_eq_true rfl) (Nat.le_of_ble_eq_true rfl) (q_gf_of hD rfl)) ?_
  refine xv (x_aload_n 10 d_X0_renewTable_9 rfl rfl) ?_
  refine xv (x_getfield 13 d_X0_renewTable_10 rfl f_0_9 (Nat.le_of_ble_eq_true rfl) (Nat.le_of_ble_eq_true rfl) (q_gf_of hD rfl)) ?_
  refine xv (x_getfield 16 d_X0_renewTable_13 rfl f_0_111 (Nat.le_of_ble_eq_true rfl) (Nat.le_of_ble_eq_true rfl) (q_gf_of (wh_o hW) rfl)) ?_
  refine v_icmp_ne 43 19 d_X0_renewTable_16 rfl rfl (by omega) (by omega) (by omega) (by omega) (fun k16 => ?_) (fun k16 => ?_)
  · refine xv (x_aload_n 44 d_X0_renewTable_43 rfl rfl) ?_
    refine xv (x_aload_n 45 d_X0_renewTable_44 rfl rfl) ?_
    refine xv (x_getfield 48 d_X0_renewTable_45 rfl f_0_9 (Nat.le_of_ble_eq_true rfl) (Nat.le_of_ble_eq_true rfl) (q_gf_of hD rfl)) ?_
    refine xv (x_getfield 51 d_X0_renewTable_48 rfl f_0_111 (Nat.le_of_ble_eq_true rfl) (Nat.le_of_ble_eq_true rfl) (q_gf_of (wh_o hW) rfl)) ?_
    obtain ⟨h51, e51, w51, f51⟩ := obj_pf (k := 6) (v := Value.int (zi (l 0))) hD (Nat.le_of_ble_eq_true rfl)
    have W_51 := wh_fr hW f51 (by omega)
    have TA_51 := tb_fr hT f51 (by omega)
    have NE_51 := al_fr hN f51 (by omega)
    have WI_51 := al_fr hI f51 (by omega)
    have F51 : FrT d h h51 := frt_tr frt_rf f51 (by omega)
    replace w51 : h51.1 d = some (.inr (0, [Value.ref w, Value.ref (d + 1), Value.ref (d + 2), Value.ref (d + 3), Value.ref (d + 52), Value.ref (d + 53), Value.int (zi (l 0)), Value.int (zi tc), Value.long to])) := w51
    refine xv (x_putfield 54 d_X0_renewTable_51 rfl f_0_108 (Nat.le_of_ble_eq_true rfl) e51 rfl rfl (fun e => absurd e (by decide))) ?_
    show Xv E q_m_X0_renewTable 54 [Value.ref d, Value.long x1, Value.null] [] h51 Q
    refine xv (x_aload_n 55 d_X0_renewTable_54 rfl rfl) ?_
    refine xv (x_aload_n 56 d_X0_renewTable_55 rfl rfl) ?_
    refine xv (x_getfield 59 d_X0_renewTable_56 rfl f_0_9 (Nat.le_of_ble_eq_true rfl) (Nat.le_of_ble_eq_true rfl) (q_gf_of w51 rfl)) ?_
    refine xv (x_getfield 62 d_X0_renewTable_59 rfl f_0_117 (Nat.le_of_ble_eq_true rfl) (Nat.le_of_ble_eq_true rfl) (q_gf_of (wh_o W_51) rfl)) ?_
    obtain ⟨h62, e62, w62, f62⟩ := obj_pf (k := 7) (v := Value.int (zi (l 1))) w51 (Nat.le_of_ble_eq_true rfl)
    have W_62 := wh_fr W_51 f62 (by omega)
    have TA_62 := tb_fr TA_51 f62 (by omega)
    have NE_62 := al_fr NE_51 f62 (by omega)
    have WI_62 := al_fr WI_51 f62 (by omega)
    have F62 : FrT d h h62 := frt_tr F51 f62 (by omega)
    replace w62 : h62.1 d = some (.inr (0, [Value.ref w, Value.ref (d + 1), Value.ref (d + 2), Value.ref (d + 3), Value.ref (d + 52), Value.ref (d + 53), Value.int (zi (l 0)), Value.int (zi (l 1)), Value.long to])) := w62
    refine xv (x_putfield 65 d_X0_renewTable_62 rfl f_0_114 (Nat.le_of_ble_eq_true rfl) e62 rfl rfl (fun e => absurd e (by decide))) ?_
    show Xv E q_m_X0_renewTable 65 [Value.ref d, Value.long x1, Value.null] [] h62 Q
    refine xv (x_aload_n 66 d_X0_renewTable_65 rfl rfl) ?_
    refine xv (x_lload_n 67 d_X0_renewTable_66 rfl rfl) ?_
    obtain ⟨h67, e67, w67, f67⟩ := obj_pf (k := 8) (v := Value.long x1) w62 (Nat.le_of_ble_eq_true rfl)
    have W_67 := wh_fr W_62 f67 (by omega)
    have TA_67 := tb_fr TA_62 f67 (by omega)
    have NE_67 := al_fr NE_62 f67 (by omega)
    have WI_67 := al_fr WI_62 f67 (by omega)
    have F67 : FrT d h h67 := frt_tr F62 f67 (by omega)
    replace w67 : h67.1 d = some (.inr (0, [Value.ref w, Value.ref (d + 1), Value.ref (d + 2), Value.ref (d + 3), Value.ref (d + 52), Value.ref (d + 53), Value.int (zi (l 0)), Value.int (zi (l 1)), Value.long x1])) := w67
    refine xv (x_putfield 70 d_X0_renewTable_67 rfl f_0_120 (Nat.le_of_ble_eq_true rfl) e67 rfl rfl (fun e => absurd e (by decide))) ?_
    show Xv E q_m_X0_renewTable 70 [Value.ref d, Value.long x1, Value.null] [] h67 Q
    refine xv (x_aload_n 71 d_X0_renewTable_70 rfl rfl) ?_
    obtain ⟨r71, h71, e71, z71, T71, N71, I71, ⟨w71, d71, t71, m71, i71⟩, q71, f71⟩ := S_X0_fillTable (E := E) W_67 hR w67 TA_67 NE_67 WI_67 (by omega)
    subst z71
    have F71 : FrT d h h71 := frt_tt F67 f71
    refine xv (x_inv0 74 (as := []) d_X0_renewTable_71 rfl c_0_124 rfl (Nat.le_of_ble_eq_true rfl) (Nat.le_of_ble_eq_true rfl) w67 (Nat.le_of_ble_eq_true rfl) (Nat.le_of_ble_eq_true rfl) rfl e71) ?_
    show Xv E q_m_X0_renewTable 74 [Value.ref d, Value.long x1, Value.null] [] h71 Q
    refine xv_r (x_return d_X0_renewTable_74 rfl) ?_
    refine hQ _ _ ⟨rfl, _, _, _, _, _, _, ⟨w71, d71, t71, m71, i71⟩, ⟨by omega, .inr ⟨l, hR, rfl, rfl, n1, q71⟩⟩, q71, F71⟩
  · refine xv (x_aload_n 20 d_X0_renewTable_19 rfl rfl) ?_
    refine xv (x_getfield 23 d_X0_renewTable_20 rfl f_0_114 (Nat.le_of_ble_eq_true rfl) (Nat.le_of_ble_eq_true rfl) (q_gf_of hD rfl)) ?_
    refine xv (x_aload_n 24 d_X0_renewTable_23 rfl rfl) ?_
    refine xv (x_getfield 27 d_X0_renewTable_24 rfl f_0_9 (Nat.le_of_ble_eq_true rfl) (Nat.le_of_ble_eq_true rfl) (q_gf_of hD rfl)) ?_
    refine xv (x_getfield 30 d_X0_renewTable_27 rfl f_0_117 (Nat.le_of_ble_eq_true rfl) (Nat.le_of_ble_eq_true rfl) (q_gf_of (wh_o hW) rfl)) ?_
    refine v_icmp_ne 43 33 d_X0_renewTable_30 rfl rfl (by omega) (by omega) (by omega) (by omega) (fun k30 => ?_) (fun k30 => ?_)
    · refine xv (x_aload_n 44 d_X0_renewTable_43 rfl rfl) ?_
      refine xv (x_aload_n 45 d_X0_renewTable_44 rfl rfl) ?_
      refine xv (x_getfield 48 d_X0_renewTable_45 rfl f_0_9 (Nat.le_of_ble_eq_true rfl) (Nat.le_of_ble_eq_true rfl) (q_gf_of hD rfl)) ?_
      refine xv (x_getfield 51 d_X0_renewTable_48 rfl f_0_111 (Nat.le_of_ble_eq_true rfl) (Nat.le_of_ble_eq_true rfl) (q_gf_of (wh_o hW) rfl)) ?_
      obtain ⟨h51, e51, w51, f51⟩ := obj_pf (k := 6) (v := Value.int (zi (l 0))) hD (Nat.le_of_ble_eq_true rfl)
      have W_51 := wh_fr hW f51 (by omega)
      have TA_51 := tb_fr hT f51 (by omega)
      have NE_51 := al_fr hN f51 (by omega)
      have WI_51 := al_fr hI f51 (by omega)
      have F51 : FrT d h h51 := frt_tr frt_rf f51 (by omega)
      replace w51 : h51.1 d = some (.inr (0, [Value.ref w, Value.ref (d + 1), Value.ref (d + 2), Value.ref (d + 3), Value.ref (d + 52), Value.ref (d + 53), Value.int (zi (l 0)), Value.int (zi tc), Value.long to])) := w51
      refine xv (x_putfield 54 d_X0_renewTable_51 rfl f_0_108 (Nat.le_of_ble_eq_true rfl) e51 rfl rfl (fun e => absurd e (by decide))) ?_
      show Xv E q_m_X0_renewTable 54 [Value.ref d, Value.long x1, Value.null] [] h51 Q
      refine xv (x_aload_n 55 d_X0_renewTable_54 rfl rfl) ?_
      refine xv (x_aload_n 56 d_X0_renewTable_55 rfl rfl) ?_
      refine xv (x_getfield 59 d_X0_renewTable_56 rfl f_0_9 (Nat.le_of_ble_eq_true rfl) (Nat.le_of_ble_eq_true rfl) (q_gf_of w51 rfl)) ?_
      refine xv (x_getfield 62 d_X0_renewTable_59 rfl f_0_117 (Nat.le_of_ble_eq_true rfl) (Nat.le_of_ble_eq_true rfl) (q_gf_of (wh_o W_51) rfl)) ?_
      obtain ⟨h62, e62, w62, f62⟩ := obj_pf (k := 7) (v := Value.int (zi (l 1))) w51 (Nat.le_of_ble_eq_true rfl)
      have W_62 := wh_fr W_51 f62 (by omega)
      have TA_62 := tb_fr TA_51 f62 (by omega)
      have NE_62 := al_fr NE_51 f62 (by omega)
      have WI_62 := al_fr WI_51 f62 (by omega)
      have F62 : FrT d h h62 := frt_tr F51 f62 (by omega)
      replace w62 : h62.1 d = some (.inr (0, [Value.ref w, Value.ref (d + 1), Value.ref (d + 2), Value.ref (d + 3), Value.ref (d + 52), Value.ref (d + 53), Value.int (zi (l 0)), Value.int (zi (l 1)), Value.long to])) := w62
      refine xv (x_putfield 65 d_X0_renewTable_62 rfl f_0_114 (Nat.le_of_ble_eq_true rfl) e62 rfl rfl (fun e => absurd e (by decide))) ?_
      show Xv E q_m_X0_renewTable 65 [Value.ref d, Value.long x1, Value.null] [] h62 Q
      refine xv (x_aload_n 66 d_X0_renewTable_65 rfl rfl) ?_
      refine xv (x_lload_n 67 d_X0_renewTable_66 rfl rfl) ?_
      obtain ⟨h67, e67, w67, f67⟩ := obj_pf (k := 8) (v := Value.long x1) w62 (Nat.le_of_ble_eq_true rfl)
      have W_67 := wh_fr W_62 f67 (by omega)
      have TA_67 := tb_fr TA_62 f67 (by omega)
      have NE_67 := al_fr NE_62 f67 (by omega)
      have WI_67 := al_fr WI_62 f67 (by omega)
      have F67 : FrT d h h67 := frt_tr F62 f67 (by omega)
      replace w67 : h67.1 d = some (.inr (0, [Value.ref w, Value.ref (d + 1), Value.ref (d + 2), Value.ref (d + 3), Value.ref (d + 52), Value.ref (d + 53), Value.int (zi (l 0)), Value.int (zi (l 1)), Value.long x1])) := w67
      refine xv (x_putfield 70 d_X0_renewTable_67 rfl f_0_120 (Nat.le_of_ble_eq_true rfl) e67 rfl rfl (fun e => absurd e (by decide))) ?_
      show Xv E q_m_X0_renewTable 70 [Value.ref d, Value.long x1, Value.null] [] h67 Q
      refine xv (x_aload_n 71 d_X0_renewTable_70 rfl rfl) ?_
      obtain ⟨r71, h71, e71, z71, T71, N71, I71, ⟨w71, d71, t71, m71, i71⟩, q71, f71⟩ := S_X0_fillTable (E := E) W_67 hR w67 TA_67 NE_67 WI_67 (by omega)
      subst z71
      have F71 : FrT d h h71 := frt_tt F67 f71
      refine xv (x_inv0 74 (as := []) d_X0_renewTable_71 rfl c_0_124 rfl (Nat.le_of_ble_eq_true rfl) (Nat.le_of_ble_eq_true rfl) w67 (Nat.le_of_ble_eq_true rfl) (Nat.le_of_ble_eq_true rfl) rfl e71) ?_
      show Xv E q_m_X0_renewTable 74 [Value.ref d, Value.long x1, Value.null] [] h71 Q
      refine xv_r (x_return d_X0_renewTable_74 rfl) ?_
      refine hQ _ _ ⟨rfl, _, _, _, _, _, _, ⟨w71, d71, t71, m71, i71⟩, ⟨by omega, .inr ⟨l, hR, rfl, rfl, n1, q71⟩⟩, q71, F71⟩
    · refine xv (x_aload_n 34 d_X0_renewTable_33 rfl rfl) ?_
      refine xv (x_getfield 37 d_X0_renewTable_34 rfl f_0_120 (Nat.le_of_ble_eq_true rfl) (Nat.le_of_ble_eq_true rfl) (q_gf_of hD rfl)) ?_
      refine xv (x_lload_n 38 d_X0_renewTable_37 rfl rfl) ?_
      refine xv (x_lcmp 39 d_X0_renewTable_38 rfl) ?_
      refine v_lne 43 42 d_X0_renewTable_39 rfl rfl (fun k39 => ?_) (fun k39 => ?_)
      · refine xv (x_aload_n 44 d_X0_renewTable_43 rfl rfl) ?_
        refine xv (x_aload_n 45 d_X0_renewTable_44 rfl rfl) ?_
        refine xv (x_getfield 48 d_X0_renewTable_45 rfl f_0_9 (Nat.le_of_ble_eq_true rfl) (Nat.le_of_ble_eq_true rfl) (q_gf_of hD rfl)) ?_
        refine xv (x_getfield 51 d_X0_renewTable_48 rfl f_0_111 (Nat.le_of_ble_eq_true rfl) (Nat.le_of_ble_eq_true rfl) (q_gf_of (wh_o hW) rfl)) ?_
        obtain ⟨h51, e51, w51, f51⟩ := obj_pf (k := 6) (v := Value.int (zi (l 0))) hD (Nat.le_of_ble_eq_true rfl)
        have W_51 := wh_fr hW f51 (by omega)
        have TA_51 := tb_fr hT f51 (by omega)
        have NE_51 := al_fr hN f51 (by omega)
        have WI_51 := al_fr hI f51 (by omega)
        have F51 : FrT d h h51 := frt_tr frt_rf f51 (by omega)
        replace w51 : h51.1 d = some (.inr (0, [Value.ref w, Value.ref (d + 1), Value.ref (d + 2), Value.ref (d + 3), Value.ref (d + 52), Value.ref (d + 53), Value.int (zi (l 0)), Value.int (zi tc), Value.long to])) := w51
        refine xv (x_putfield 54 d_X0_renewTable_51 rfl f_0_108 (Nat.le_of_ble_eq_true rfl) e51 rfl rfl (fun e => absurd e (by decide))) ?_
        show Xv E q_m_X0_renewTable 54 [Value.ref d, Value.long x1, Value.null] [] h51 Q
        refine xv (x_aload_n 55 d_X0_renewTable_54 rfl rfl) ?_
        refine xv (x_aload_n 56 d_X0_renewTable_55 rfl rfl) ?_
        refine xv (x_getfield 59 d_X0_renewTable_56 rfl f_0_9 (Nat.le_of_ble_eq_true rfl) (Nat.le_of_ble_eq_true rfl) (q_gf_of w51 rfl)) ?_
        refine xv (x_getfield 62 d_X0_renewTable_59 rfl f_0_117 (Nat.le_of_ble_eq_true rfl) (Nat.le_of_ble_eq_true rfl) (q_gf_of (wh_o W_51) rfl)) ?_
        obtain ⟨h62, e62, w62, f62⟩ := obj_pf (k := 7) (v := Value.int (zi (l 1))) w51 (Nat.le_of_ble_eq_true rfl)
        have W_62 := wh_fr W_51 f62 (by omega)
        have TA_62 := tb_fr TA_51 f62 (by omega)
        have NE_62 := al_fr NE_51 f62 (by omega)
        have WI_62 := al_fr WI_51 f62 (by omega)
        have F62 : FrT d h h62 := frt_tr F51 f62 (by omega)
        replace w62 : h62.1 d = some (.inr (0, [Value.ref w, Value.ref (d + 1), Value.ref (d + 2), Value.ref (d + 3), Value.ref (d + 52), Value.ref (d + 53), Value.int (zi (l 0)), Value.int (zi (l 1)), Value.long to])) := w62
        refine xv (x_putfield 65 d_X0_renewTable_62 rfl f_0_114 (Nat.le_of_ble_eq_true rfl) e62 rfl rfl (fun e => absurd e (by decide))) ?_
        show Xv E q_m_X0_renewTable 65 [Value.ref d, Value.long x1, Value.null] [] h62 Q
        refine xv (x_aload_n 66 d_X0_renewTable_65 rfl rfl) ?_
        refine xv (x_lload_n 67 d_X0_renewTable_66 rfl rfl) ?_
        obtain ⟨h67, e67, w67, f67⟩ := obj_pf (k := 8) (v := Value.long x1) w62 (Nat.le_of_ble_eq_true rfl)
        have W_67 := wh_fr W_62 f67 (by omega)
        have TA_67 := tb_fr TA_62 f67 (by omega)
        have NE_67 := al_fr NE_62 f67 (by omega)
        have WI_67 := al_fr WI_62 f67 (by omega)
        have F67 : FrT d h h67 := frt_tr F62 f67 (by omega)
        replace w67 : h67.1 d = some (.inr (0, [Value.ref w, Value.ref (d + 1), Value.ref (d + 2), Value.ref (d + 3), Value.ref (d + 52), Value.ref (d + 53), Value.int (zi (l 0)), Value.int (zi (l 1)), Value.long x1])) := w67
        refine xv (x_putfield 70 d_X0_renewTable_67 rfl f_0_120 (Nat.le_of_ble_eq_true rfl) e67 rfl rfl (fun e => absurd e (by decide))) ?_
        show Xv E q_m_X0_renewTable 70 [Value.ref d, Value.long x1, Value.null] [] h67 Q
        refine xv (x_aload_n 71 d_X0_renewTable_70 rfl rfl) ?_
        obtain ⟨r71, h71, e71, z71, T71, N71, I71, ⟨w71, d71, t71, m71, i71⟩, q71, f71⟩ := S_X0_fillTable (E := E) W_67 hR w67 TA_67 NE_67 WI_67 (by omega)
        subst z71
        have F71 : FrT d h h71 := frt_tt F67 f71
        refine xv (x_inv0 74 (as := []) d_X0_renewTable_71 rfl c_0_124 rfl (Nat.le_of_ble_eq_true rfl) (Nat.le_of_ble_eq_true rfl) w67 (Nat.le_of_ble_eq_true rfl) (Nat.le_of_ble_eq_true rfl) rfl e71) ?_
        show Xv E q_m_X0_renewTable 74 [Value.ref d, Value.long x1, Value.null] [] h71 Q
        refine xv_r (x_return d_X0_renewTable_74 rfl) ?_
        refine hQ _ _ ⟨rfl, _, _, _, _, _, _, ⟨w71, d71, t71, m71, i71⟩, ⟨by omega, .inr ⟨l, hR, rfl, rfl, n1, q71⟩⟩, q71, F71⟩
      · refine xv_r (x_return d_X0_renewTable_42 rfl) ?_
        refine hQ _ _ ⟨rfl, _, _, _, _, _, _, ⟨hW, hD, hT, hN, hI⟩, hv, cv_use hR hv k16 k30 k39 n1, frt_rf⟩
theorem S_X0_betweenByTable {x y : Int} (hx : isC l x) (hy : isC l y) (hW : WH h w l p) (hR : RgC l) (hD : DSo h d w tr tc to) (hT : TB h d T) (hN : AL h (d + 52) 48 NE) (hI : AL h (d + 53) 48 WI) (sp : d + 54 ≤ w ∨ w + 38 ≤ d) (hv : CV tr tc to T) : ∃ r_ h', q_cl E q_m_X0_betweenByTable [Value.ref d, Value.int (zi x), Value.int (zi y)] h = some (r_, h') ∧ (r_ = .inl (some (.int (zi (dst l x y)))) ∧ ∃ tr' tc' to' T' NE' WI', (WH h' w l p ∧ DSo h' d w tr' tc' to' ∧ TB h' d T' ∧ AL h' (d + 52) 48 NE' ∧ AL h' (d + 53) 48 WI') ∧ CV tr' tc' to' T' ∧ FrT d h h') := by
  suffices K : ∀ Q : q_R → q_H → Prop, (∀ r_ h', (r_ = .inl (some (.int (zi (dst l x y)))) ∧ ∃ tr' tc' to' T' NE' WI', (WH h' w l p ∧ DSo h' d w tr' tc' to' ∧ TB h' d T' ∧ AL h' (d + 52) 48 NE' ∧ AL h' (d + 53) 48 WI') ∧ CV tr' tc' to' T' ∧ FrT d h h') → Q r_ h') → Xv E q_m_X0_betweenByTable 0 [Value.ref d, Value.int (zi x), Value.int (zi y)] [] h Q from K _ fun _ _ p => p
  intro Q hQ
  obtain ⟨g0, g1, g2, g3, g4, gc, g5, g6, g7, gk, gl, gr, go⟩ := id hR
  refine xv (x_aload_n 1 d_X0_betweenByTable_0 rfl rfl) ?_
  refine xv (x_getfield 4 d_X0_betweenByTable_1 rfl f_0_9 (Nat.le_of_ble_eq_true rfl) (Nat.le_of_ble_eq_true rfl) (q_gf_of hD rfl)) ?_
  refine xv (x_iload_n 5 d_X0_betweenByTable_4 rfl rfl) ?_
  refine xv (x_inv1 8 (as := [Value.int (zi x)]) d_X0_betweenByTable_5 rfl c_0_42 rfl (Nat.le_of_ble_eq_true rfl) (Nat.le_of_ble_eq_true rfl) (wh_o hW) (Nat.le_of_ble_eq_true rfl) (Nat.le_of_ble_eq_true rfl) rfl (S_X6_isCell hW hR (by omega) (by omega))) ?_
  show Xv E q_m_X0_betweenByTable 8 [Value.ref d, Value.int (zi x), Value.int (zi y)] [Value.int (zi (bI (isC l x)))] h Q
  refine v_if_eq 22 11 d_X0_betweenByTable_8 rfl rfl (by have := bI_r (isC l x); omega) (by have := bI_r (isC l x); omega) (fun k8 => ?_) (fun k8 => ?_)
  · replace k8 := bI_0.mp k8
    exact absurd hx k8
  · replace k8 := bI_n0.mp k8
    refine xv (x_aload_n 12 d_X0_betweenByTable_11 rfl rfl) ?_
    refine xv (x_getfield 15 d_X0_betweenByTable_12 rfl f_0_9 (Nat.le_of_ble_eq_true rfl) (Nat.le_of_ble_eq_true rfl) (q_gf_of hD rfl)) ?_
    refine xv (x_iload_n 16 d_X0_betweenByTable_15 rfl rfl) ?_
    refine xv (x_inv1 19 (as := [Value.int (zi y)]) d_X0_betweenByTable_16 rfl c_0_42 rfl (Nat.le_of_ble_eq_true rfl) (Nat.le_of_ble_eq_true rfl) (wh_o hW) (Nat.le_of_ble_eq_true rfl) (Nat.le_of_ble_eq_true rfl) rfl (S_X6_isCell hW hR (by omega) (by omega))) ?_
    show Xv E q_m_X0_betweenByTable 19 [Value.ref d, Value.int (zi x), Value.int (zi y)] [Value.int (zi (bI (isC l y)))] h Q
    refine v_if_ne 24 22 d_X0_betweenByTable_19 rfl rfl (by have := bI_r (isC l y); omega) (by have := bI_r (isC l y); omega) (fun k19 => ?_) (fun k19 => ?_)
    · replace k19 := bI_n0.mp k19
      refine xv (x_aload_n 25 d_X0_betweenByTable_24 rfl rfl) ?_
      obtain ⟨r25, h25, e25, z25, A25, B25, C25, T25, N25, I25, ⟨w25, d25, t25, m25, i25⟩, v25, q25, f25⟩ := S_X0_renewTable (E := E) hW hR hD hT hN hI (by omega) hv
      subst z25
      have F25 : FrT d h h25 := frt_tt frt_rf f25
      refine xv (x_inv0 28 (as := []) d_X0_betweenByTable_25 rfl c_0_101 rfl (Nat.le_of_ble_eq_true rfl) (Nat.le_of_ble_eq_true rfl) hD (Nat.le_of_ble_eq_true rfl) (Nat.le_of_ble_eq_true rfl) rfl e25) ?_
      show Xv E q_m_X0_betweenByTable 28 [Value.ref d, Value.int (zi x), Value.int (zi y)] [] h25 Q
      refine xv (x_aload_n 29 d_X0_betweenByTable_28 rfl rfl) ?_
      refine xv (x_getfield 32 d_X0_betweenByTable_29 rfl f_0_24 (Nat.le_of_ble_eq_true rfl) (Nat.le_of_ble_eq_true rfl) (q_gf_of d25 rfl)) ?_
      refine xv (x_iload_n 33 d_X0_betweenByTable_32 rfl rfl) ?_
      refine xv (x_aaload 34 d_X0_betweenByTable_33 rfl (tb_g t25 (by omega) (by omega))) ?_
      refine xv (x_iload_n 35 d_X0_betweenByTable_34 rfl rfl) ?_
      refine xv (x_iaload 36 d_X0_betweenByTable_35 rfl (ai_g (t25.2 x (by omega) (by omega)) (by omega) (by omega) (by decide))) ?_
      refine xv_r (x_ireturn d_X0_betweenByTable_36 rfl rfl) ?_
      rw [q25 x y hx hy]
      exact hQ _ _ ⟨rfl, _, _, _, _, _, _, ⟨w25, d25, t25, m25, i25⟩, v25, F25⟩
    · replace k19 := bI_0.mp k19
      exact absurd hy k19
end CG2
