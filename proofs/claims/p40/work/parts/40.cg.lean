/-! distances by table, in the class: the table (printed by program) -/
/-- changed: the object of distances, but for its two rows of the search -/
def FrT (d : Nat) (h h' : q_H) : Prop := Fr d 54 h h' ∧ h'.1 (d + 1) = h.1 (d + 1) ∧ h'.1 (d + 2) = h.1 (d + 2)
theorem frt_rf {d : Nat} {h : q_H} : FrT d h h := ⟨fr_rf, rfl, rfl⟩
theorem frt_tt {d : Nat} {h h' h'' : q_H} (a : FrT d h h') (b : FrT d h' h'') : FrT d h h'' := ⟨fr_tr a.1 b.1, b.2.1.trans a.2.1, b.2.2.trans a.2.2⟩
theorem frt_tr {d b m : Nat} {h h' h'' : q_H} (a : FrT d h h') (f : Fr b m h' h'') (s : d ≤ b ∧ b + m ≤ d + 54 ∧ (b + m ≤ d + 1 ∨ d + 3 ≤ b)) : FrT d h h'' := frt_tt a ⟨fr_in f s.1 s.2.1, f.2 _ (by omega), f.2 _ (by omega)⟩
section CG
variable {E : q_E} {h h' : q_H} {w v a b t N k d : Nat} {l lo f g c q : Int → Int} {p p2 pk : Int → Nat} {n R C z tr tc : Int} {to : Int64} {T : Int → Int → Int} {NE WI : Int → Int64}
/-- bits of the cells within r steps -/
def NR (l : Int → Int) (r : Nat) (NE : Int → Int64) (a : Int) : Prop := ∀ c, 0 ≤ c → c < 64 → (bt (NE a) c ↔ isC l c ∧ ¬ dsB l r a c = -1)
theorem wid {x : Int64} {a : Int} {r : Nat} (hR : RgC l) (ha : isC l a) (hr : 1 ≤ r) (hN : ∀ a, isC l a → NR l r NE a) (hx : ∀ c, 0 ≤ c → c < 64 → (bt x c ↔ ∃ u, (0 ≤ u ∧ u < 4) ∧ (isC l (bes l a u) ∧ ent l (bes l a u)) ∧ bt (NE (bes l a u)) c)) : ∀ c, 0 ≤ c → c < 64 → (bt (NE a ||| x) c ↔ isC l c ∧ ¬ dsB l (r + 1) a c = -1) := by
  intro c c0 c1
  rw [bt_or, hN a ha c c0 c1, hx c c0 c1, dsB_y, dsB_y, rc_u hr]
  constructor
  · rintro (⟨p, q⟩ | ⟨u, hu, he, hb⟩)
    · exact ⟨p, .inl q⟩
    · have := (hN _ he.1 c c0 c1).mp hb
      exact ⟨this.1, .inr ⟨_, ⟨u, hu, rfl, he.1.1, he.2⟩, dsB_y.mp this.2⟩⟩
  · rintro ⟨p, q | ⟨c', ⟨u, hu, e, e0, en⟩, q⟩⟩
    · exact .inl ⟨p, q⟩
    · have hc := edge_c hR ha ⟨u, hu, e, e0, en⟩
      subst e
      exact .inr ⟨u, hu, ⟨hc, en⟩, (hN _ hc c c0 c1).mpr ⟨p, dsB_y.mpr q⟩⟩
theorem frs1 {y : Int64} {a c : Int} {r : Nat} (gc : cs l ≤ 48) (hc : isC l c) (hN : NR l r NE a) (hy : ∀ c, 0 ≤ c → c < 64 → (bt y c ↔ isC l c ∧ ¬ dsB l (r + 1) a c = -1)) : bt (y &&& (NE a ^^^ (-1))) c ↔ dsB l r a c = -1 ∧ rc l (r + 1) a c := by
  rw [bt_and, bt_not (by omega) (by omega), hy c (by omega) (by omega), hN c (by omega) (by omega), dsB_y]
  constructor
  · rintro ⟨⟨_, p⟩, q⟩
    exact ⟨Classical.byContradiction fun e => q ⟨hc, e⟩, p⟩
  · rintro ⟨p, q⟩
    exact ⟨⟨hc, q⟩, fun e => e.2 p⟩
theorem ds1 {a b : Int} : dsB l 1 a b = if b = a then 0 else -1 := by
  rw [show (1 : Nat) = 0 + 1 from rfl, dsB_s, if_pos (show dsB l 0 a b = -1 from rfl)]
  by_cases e : b = a
  · rw [if_pos e, if_pos (show wk l 0 a b from e.symm)]; rfl
  · rw [if_neg e, if_neg (show ¬ wk l 0 a b from fun x => e x.symm)]
theorem S_X0_fillTable (hW : WH h w l p) (hR : RgC l) (hD : DSo h d w tr tc to) (hT : TB h d T) (hN : AL h (d + 52) 48 NE) (hI : AL h (d + 53) 48 WI) (sp : d + 54 ≤ w ∨ w + 38 ≤ d) : ∃ r_ h', q_cl E q_m_X0_fillTable [Value.ref d] h = some (r_, h') ∧ (r_ = .inl none ∧ ∃ T' NE' WI', (WH h' w l p ∧ DSo h' d w tr tc to ∧ TB h' d T' ∧ AL h' (d + 52) 48 NE' ∧ AL h' (d + 53) 48 WI') ∧ (∀ a b, isC l a → isC l b → T' a b = dst l a b) ∧ FrT d h h') := by
  suffices K : ∀ Q : q_R → q_H → Prop, (∀ r_ h', (r_ = .inl none ∧ ∃ T' NE' WI', (WH h' w l p ∧ DSo h' d w tr tc to ∧ TB h' d T' ∧ AL h' (d + 52) 48 NE' ∧ AL h' (d + 53) 48 WI') ∧ (∀ a b, isC l a → isC l b → T' a b = dst l a b) ∧ FrT d h h') → Q r_ h') → Xv E q_m_X0_fillTable 0 [Value.ref d, Value.null, Value.null, Value.null, Value.null, Value.null] [] h Q from K _ fun _ _ p => p
  intro Q hQ
  obtain ⟨g0, g1, g2, g3, g4, gc, g5, g6, g7, gk, gl, gr, go⟩ := id hR
  refine xv (x_iconst 1 d_X0_fillTable_0 rfl) ?_
  refine xv (x_istore_n 2 d_X0_fillTable_1 rfl (Nat.le_of_ble_eq_true rfl)) ?_
  show Xv E q_m_X0_fillTable 2 [Value.ref d, Value.int (zi 0), Value.null, Value.null, Value.null, Value.null] [] h Q
  have L2 : ∀ (n_ : Nat) (k : Int) (T2 : Int → Int → Int) (NE2 : Int → Int64) (H : q_H), (0 ≤ k) → (k ≤ 48) → (∀ a, 0 ≤ a → a < k → ∀ b, 0 ≤ b → b < 48 → T2 a b = if b = a then 0 else -1) → (∀ a, 0 ≤ a → a < k → ∀ c, 0 ≤ c → c < 64 → (bt (NE2 a) c ↔ c = a)) → (WH H w l p) → (DSo H d w tr tc to) → (TB H d T2) → (AL H (d + 52) 48 NE2) → (AL H (d + 53) 48 WI) → (FrT d h H) → (48 - k).toNat = n_ → Xv E q_m_X0_fillTable 2 [Value.ref d, Value.int (zi k), Value.null, Value.null, Value.null, Value.null] [] H Q := by
    intro n_
    induction n_ using Nat.strongRecOn with
    | _ n_ ih2 =>
      intro k T2 NE2 H k0 k1 hT0 hN0 hW2 hD2 hT2 hN2 hI2 hF2 em
      refine xv (x_iload_n 3 d_X0_fillTable_2 rfl rfl) ?_
      refine xv (x_bipush 5 d_X0_fillTable_3 rfl rfl) ?_
      refine v_icmp_ge 42 8 d_X0_fillTable_5 rfl rfl (by omega) (by omega) (by omega) (by omega) (fun k5 => ?_) (fun k5 => ?_)
      · refine xv (x_iconst 43 d_X0_fillTable_42 rfl) ?_
        refine xv (x_istore_n 44 d_X0_fillTable_43 rfl (Nat.le_of_ble_eq_true rfl)) ?_
        show Xv E q_m_X0_fillTable 44 [Value.ref d, Value.int (zi 1), Value.null, Value.null, Value.null, Value.null] [] H Q
        refine xv (x_iconst 45 d_X0_fillTable_44 rfl) ?_
        refine xv (x_istore_n 46 d_X0_fillTable_45 rfl (Nat.le_of_ble_eq_true rfl)) ?_
        show Xv E q_m_X0_fillTable 46 [Value.ref d, Value.int (zi 1), Value.int (zi 1), Value.null, Value.null, Value.null] [] H Q
        have L46 : ∀ (n_ : Nat) (g1 : Int) (R : Int) (T2 : Int → Int → Int) (NE2 : Int → Int64) (WI2 : Int → Int64) (H : q_H) (x3 : Value) (x4 : Value) (x5 : Value), (1 ≤ R ∧ R ≤ 48) → (g1 = 0 ∨ g1 = 1) → (∀ a b, isC l a → isC l b → T2 a b = dsB l R.toNat a b) → (∀ a, isC l a → NR l R.toNat NE2 a) → (g1 = 0 → ∀ a b, isC l a → isC l b → dsB l R.toNat a b = dst l a b) → (WH H w l p) → (DSo H d w tr tc to) → (TB H d T2) → (AL H (d + 52) 48 NE2) → (AL H (d + 53) 48 WI2) → (FrT d h H) → (48 - R).toNat = n_ → Xv E q_m_X0_fillTable 46 [Value.ref d, Value.int (zi g1), Value.int (zi R), x3, x4, x5] [] H Q := by
          intro n_
          induction n_ using Nat.strongRecOn with
          | _ n_ ih46 =>
            intro g1 R T2 NE2 WI2 H x3 x4 x5 r0 gg hT46 hN46 hS46 hW2 hD2 hT2 hN2 hI2 hF2 em
            refine xv (x_iload_n 47 d_X0_fillTable_46 rfl rfl) ?_
            refine v_if_eq 162 50 d_X0_fillTable_47 rfl rfl (by omega) (by omega) (fun k47 => ?_) (fun k47 => ?_)
            · refine xv_r (x_return d_X0_fillTable_162 rfl) ?_
              refine hQ _ _ ⟨rfl, _, _, _, ⟨hW2, hD2, hT2, hN2, hI2⟩, fun a b ha hb => ?_, hF2⟩
              first | exact (hT46 a b ha hb).trans (hS46 (by omega) a b ha hb) | (rw [hT46 a b ha hb, show R.toNat = 48 by omega]; rfl)
            · refine xv (x_iload_n 51 d_X0_fillTable_50 rfl rfl) ?_
              refine xv (x_bipush 53 d_X0_fillTable_51 rfl rfl) ?_
              refine v_icmp_ge 162 56 d_X0_fillTable_53 rfl rfl (by omega) (by omega) (by omega) (by omega) (fun k53 => ?_) (fun k53 => ?_)
              · refine xv_r (x_return d_X0_fillTable_162 rfl) ?_
                refine hQ _ _ ⟨rfl, _, _, _, ⟨hW2, hD2, hT2, hN2, hI2⟩, fun a b ha hb => ?_, hF2⟩
                first | exact (hT46 a b ha hb).trans (hS46 (by omega) a b ha hb) | (rw [hT46 a b ha hb, show R.toNat = 48 by omega]; rfl)
              · refine xv (x_iconst 57 d_X0_fillTable_56 rfl) ?_
                refine xv (x_istore_n 58 d_X0_fillTable_57 rfl (Nat.le_of_ble_eq_true rfl)) ?_
                show Xv E q_m_X0_fillTable 58 [Value.ref d, Value.int (zi 0), Value.int (zi R), x3, x4, x5] [] H Q
                refine xv (x_iconst 59 d_X0_fillTable_58 rfl) ?_
                refine xv (x_istore_n 60 d_X0_fillTable_59 rfl (Nat.le_of_ble_eq_true rfl)) ?_
                show Xv E q_m_X0_fillTable 60 [Value.ref d, Value.int (zi 0), Value.int (zi R), Value.int (zi 0), x4, x5] [] H Q
                have L60 : ∀ (n_ : Nat) (g3 : Int) (k : Int) (T3 : Int → Int → Int) (WI3 : Int → Int64) (H3 : q_H) (x4 : Value) (x5 : Value), (0 ≤ k) → (k ≤ cs l) → (g3 = 0 ∨ g3 = 1) → (∀ a b, isC l a → isC l b → T3 a b = if a < k then dsB l (R.toNat + 1) a b else dsB l R.toNat a b) → (∀ a, isC l a → a < k → ∀ c, 0 ≤ c → c < 64 → (bt (WI3 a) c ↔ isC l c ∧ ¬ dsB l (R.toNat + 1) a c = -1)) → (g3 = 0 → ∀ a b, isC l a → isC l b → a < k → dsB l (R.toNat + 1) a b = dsB l R.toNat a b) → (WH H3 w l p) → (DSo H3 d w tr tc to) → (TB H3 d T3) → (AL H3 (d + 52) 48 NE2) → (AL H3 (d + 53) 48 WI3) → (FrT d h H3) → (cs l - k).toNat = n_ → Xv E q_m_X0_fillTable 60 [Value.ref d, Value.int (zi g3), Value.int (zi R), Value.int (zi k), x4, x5] [] H3 Q := by
                  intro n_
                  induction n_ using Nat.strongRecOn with
                  | _ n_ ih60 =>
                    intro g3 k T3 WI3 H3 x4 x5 k0 k1 gg3 hT60 hI60 hS60 hW3 hD3 hT3 hN3 hI3 hF3 em
                    refine xv (x_aload_n 61 d_X0_fillTable_60 rfl rfl) ?_
                    refine xv (x_getfield 64 d_X0_fillTable_61 rfl f_0_9 (Nat.le_of_ble_eq_true rfl) (Nat.le_of_ble_eq_true rfl) (q_gf_of hD3 rfl)) ?_
                    refine xv (x_iload_n 65 d_X0_fillTable_64 rfl rfl) ?_
                    refine xv (x_inv1 68 (as := [Value.int (zi k)]) d_X0_fillTable_65 rfl c_0_42 rfl (Nat.le_of_ble_eq_true rfl) (Nat.le_of_ble_eq_true rfl) (wh_o hW3) (Nat.le_of_ble_eq_true rfl) (Nat.le_of_ble_eq_true rfl) rfl (S_X6_isCell hW3 hR (by omega) (by omega))) ?_
                    show Xv E q_m_X0_fillTable 68 [Value.ref d, Value.int (zi g3), Value.int (zi R), Value.int (zi k), x4, x5] [Value.int (zi (bI (isC l k)))] H3 Q
                    refine v_if_eq 141 71 d_X0_fillTable_68 rfl rfl (by have := bI_r (isC l k); omega) (by have := bI_r (isC l k); omega) (fun k68 => ?_) (fun k68 => ?_)
                    · replace k68 := bI_0.mp k68
                      refine xv (x_aload_n 142 d_X0_fillTable_141 rfl rfl) ?_
                      refine xv (x_getfield 145 d_X0_fillTable_142 rfl f_0_31 (Nat.le_of_ble_eq_true rfl) (Nat.le_of_ble_eq_true rfl) (q_gf_of hD3 rfl)) ?_
                      refine xv (x_iconst 146 d_X0_fillTable_145 rfl) ?_
                      refine xv (x_aload_n 147 d_X0_fillTable_146 rfl rfl) ?_
                      refine xv (x_getfield 150 d_X0_fillTable_147 rfl f_0_27 (Nat.le_of_ble_eq_true rfl) (Nat.le_of_ble_eq_true rfl) (q_gf_of hD3 rfl)) ?_
                      refine xv (x_iconst 151 d_X0_fillTable_150 rfl) ?_
                      refine xv (x_bipush 153 d_X0_fillTable_151 rfl rfl) ?_
                      obtain ⟨h153, e153, w153, f153⟩ := al_c (E := E) hI3 hN3 (by decide)
                      have W_153 := wh_fr hW3 f153 (by omega)
                      have D_153 := (f153.2 _ (by omega)).trans hD3
                      have TA_153 := tb_fr hT3 f153 (by omega)
                      have WI_153 := al_fr hI3 f153 (by omega)
                      have F153 : FrT d h h153 := frt_tr hF3 f153 (by omega)
                      refine xv (x_copy 156 d_X0_fillTable_153 rfl rfl rfl (Nat.le_of_ble_eq_true rfl) (Nat.le_of_ble_eq_true rfl) (Nat.le_of_ble_eq_true rfl) e153) ?_
                      show Xv E q_m_X0_fillTable 156 [Value.ref d, Value.int (zi g3), Value.int (zi R), Value.int (zi k), x4, x5] [] h153 Q
                      refine xv (x_iinc 159 d_X0_fillTable_156 rfl rfl) ?_
                      show Xv E q_m_X0_fillTable 159 [Value.ref d, Value.int (zi g3), Value.int (zi (R + 1)), Value.int (zi k), x4, x5] [] h153 Q
                      refine xv (x_goto 46 d_X0_fillTable_159 rfl) ?_
                      have ek : k = cs l := by omega
                      have er : (R + 1).toNat = R.toNat + 1 := by omega
                      have st1 : g3 = 0 → ∀ a b, isC l a → isC l b → dsB l (R.toNat + 1) a b = dsB l R.toNat a b := fun e a b ha hb => hS60 e a b ha hb (by omega)
                      refine ih46 _ (by omega) g3 (R + 1) _ _ _ _ _ _ _ (by omega) gg3 (fun a b x y => ?_) (fun a x c y z => ?_) (fun e a b x y => ?_) W_153 D_153 TA_153 w153 WI_153 F153 rfl
                      · rw [hT60 a b x y, if_pos (by omega), er]
                      · rw [er]; exact hI60 a x (by omega) c y z
                      · rw [er, st1 e a b x y]
                        have := dsB_st (fun a c => edge_c hR) (st1 e) (48 - R.toNat) a b x y
                        rw [show R.toNat + (48 - R.toNat) = 48 by omega] at this
                        exact this.symm
                    · replace k68 := bI_n0.mp k68
                      refine xv (x_iload_n 72 d_X0_fillTable_71 rfl rfl) ?_
                      refine xv (x_bipush 74 d_X0_fillTable_72 rfl rfl) ?_
                      refine v_icmp_ge 141 77 d_X0_fillTable_74 rfl rfl (by omega) (by omega) (by omega) (by omega) (fun k74 => ?_) (fun k74 => ?_)
                      · refine xv (x_aload_n 142 d_X0_fillTable_141 rfl rfl) ?_
                        refine xv (x_getfield 145 d_X0_fillTable_142 rfl f_0_31 (Nat.le_of_ble_eq_true rfl) (Nat.le_of_ble_eq_true rfl) (q_gf_of hD3 rfl)) ?_
                        refine xv (x_iconst 146 d_X0_fillTable_145 rfl) ?_
                        refine xv (x_aload_n 147 d_X0_fillTable_146 rfl rfl) ?_
                        refine xv (x_getfield 150 d_X0_fillTable_147 rfl f_0_27 (Nat.le_of_ble_eq_true rfl) (Nat.le_of_ble_eq_true rfl) (q_gf_of hD3 rfl)) ?_
                        refine xv (x_iconst 151 d_X0_fillTable_150 rfl) ?_
                        refine xv (x_bipush 153 d_X0_fillTable_151 rfl rfl) ?_
                        obtain ⟨h153, e153, w153, f153⟩ := al_c (E := E) hI3 hN3 (by decide)
                        have W_153 := wh_fr hW3 f153 (by omega)
                        have D_153 := (f153.2 _ (by omega)).trans hD3
                        have TA_153 := tb_fr hT3 f153 (by omega)
                        have WI_153 := al_fr hI3 f153 (by omega)
                        have F153 : FrT d h h153 := frt_tr hF3 f153 (by omega)
                        refine xv (x_copy 156 d_X0_fillTable_153 rfl rfl rfl (Nat.le_of_ble_eq_true rfl) (Nat.le_of_ble_eq_true rfl) (Nat.le_of_ble_eq_true rfl) e153) ?_
                        show Xv E q_m_X0_fillTable 156 [Value.ref d, Value.int (zi g3), Value.int (zi R), Value.int (zi k), x4, x5] [] h153 Q
                        refine xv (x_iinc 159 d_X0_fillTable_156 rfl rfl) ?_
                        show Xv E q_m_X0_fillTable 159 [Value.ref d, Value.int (zi g3), Value.int (zi (R + 1)), Value.int (zi k), x4, x5] [] h153 Q
                        refine xv (x_goto 46 d_X0_fillTable_159 rfl) ?_
                        have ek : k = cs l := by omega
                        have er : (R + 1).toNat = R.toNat + 1 := by omega
                        have st1 : g3 = 0 → ∀ a b, isC l a → isC l b → dsB l (R.toNat + 1) a b = dsB l R.toNat a b := fun e a b ha hb => hS60 e a b ha hb (by omega)
                        refine ih46 _ (by omega) g3 (R + 1) _ _ _ _ _ _ _ (by omega) gg3 (fun a b x y => ?_) (fun a x c y z => ?_) (fun e a b x y => ?_) W_153 D_153 TA_153 w153 WI_153 F153 rfl
                        · rw [hT60 a b x y, if_pos (by omega), er]
                        · rw [er]; exact hI60 a x (by omega) c y z
                        · rw [er, st1 e a b x y]
                          have := dsB_st (fun a c => edge_c hR) (st1 e) (48 - R.toNat) a b x y
                          rw [show R.toNat + (48 - R.toNat) = 48 by omega] at this
                          exact this.symm
                      · refine xv (x_aload_n 78 d_X0_fillTable_77 rfl rfl) ?_
                        refine xv (x_getfield 81 d_X0_fillTable_78 rfl f_0_31 (Nat.le_of_ble_eq_true rfl) (Nat.le_of_ble_eq_true rfl) (q_gf_of hD3 rfl)) ?_
                        refine xv (x_iload_n 82 d_X0_fillTable_81 rfl rfl) ?_
                        refine xv (x_aload_n 83 d_X0_fillTable_82 rfl rfl) ?_
                        refine xv (x_getfield 86 d_X0_fillTable_83 rfl f_0_27 (Nat.le_of_ble_eq_true rfl) (Nat.le_of_ble_eq_true rfl) (q_gf_of hD3 rfl)) ?_
                        refine xv (x_iload_n 87 d_X0_fillTable_86 rfl rfl) ?_
                        refine xv (x_laload 88 d_X0_fillTable_87 rfl (al_g hN3 (by omega) (by omega) (by decide))) ?_
                        refine xv (x_aload_n 89 d_X0_fillTable_88 rfl rfl) ?_
                        refine xv (x_iload_n 90 d_X0_fillTable_89 rfl rfl) ?_
                        obtain ⟨r90, h90, e90, x90, ⟨z90, y90⟩, n90⟩ := S_X0_nearOfNeighbors (E := E) (a := k) (by omega) hW3 hR hD3 hN3
                        rw [z90, y90] at e90
                        refine xv (x_inv1 93 (as := [Value.int (zi k)]) d_X0_fillTable_90 rfl c_0_127 rfl (Nat.le_of_ble_eq_true rfl) (Nat.le_of_ble_eq_true rfl) hD3 (Nat.le_of_ble_eq_true rfl) (Nat.le_of_ble_eq_true rfl) rfl e90) ?_
                        show Xv E q_m_X0_fillTable 93 [Value.ref d, Value.int (zi g3), Value.int (zi R), Value.int (zi k), x4, x5] [Value.long x90, Value.long (NE2 k), Value.int (zi k), Value.ref (d + 53)] H3 Q
                        refine xv (x_lor 94 d_X0_fillTable_93 rfl) ?_
                        obtain ⟨h94, e94, w94, f94⟩ := al_s (z := k) (v := (NE2 k) ||| x90) hI3 (by omega) (by omega) (by decide)
                        have W_94 := wh_fr hW3 f94 (by omega)
                        have D_94 := (f94.2 _ (by omega)).trans hD3
                        have TA_94 := tb_fr hT3 f94 (by omega)
                        have NE_94 := al_fr hN3 f94 (by omega)
                        have F94 : FrT d h h94 := frt_tr hF3 f94 (by omega)
                        refine xv (x_lastore 95 d_X0_fillTable_94 rfl e94) ?_
                        show Xv E q_m_X0_fillTable 95 [Value.ref d, Value.int (zi g3), Value.int (zi R), Value.int (zi k), x4, x5] [] h94 Q
                        refine xv (x_aload_n 96 d_X0_fillTable_95 rfl rfl) ?_
                        refine xv (x_getfield 99 d_X0_fillTable_96 rfl f_0_31 (Nat.le_of_ble_eq_true rfl) (Nat.le_of_ble_eq_true rfl) (q_gf_of D_94 rfl)) ?_
                        refine xv (x_iload_n 100 d_X0_fillTable_99 rfl rfl) ?_
                        refine xv (x_laload 101 d_X0_fillTable_100 rfl (al_g w94 (by omega) (by omega) (by decide))) ?_
                        refine xv (x_aload_n 102 d_X0_fillTable_101 rfl rfl) ?_
                        refine xv (x_getfield 105 d_X0_fillTable_102 rfl f_0_27 (Nat.le_of_ble_eq_true rfl) (Nat.le_of_ble_eq_true rfl) (q_gf_of D_94 rfl)) ?_
                        refine xv (x_iload_n 106 d_X0_fillTable_105 rfl rfl) ?_
                        refine xv (x_laload 107 d_X0_fillTable_106 rfl (al_g NE_94 (by omega) (by omega) (by decide))) ?_
                        refine xv (x_ldc2_w 110 d_X0_fillTable_107 rfl rfl (Nat.le_of_ble_eq_true rfl)) ?_
                        show Xv E q_m_X0_fillTable 110 [Value.ref d, Value.int (zi g3), Value.int (zi R), Value.int (zi k), x4, x5] [Value.long (-1), Value.long (NE2 k), Value.long ((uL WI3 k ((NE2 k) ||| x90)) k)] h94 Q
                        refine xv (x_lxor 111 d_X0_fillTable_110 rfl) ?_
                        refine xv (x_land 112 d_X0_fillTable_111 rfl) ?_
                        refine xv (x_lstore 114 d_X0_fillTable_112 rfl (Nat.le_of_ble_eq_true rfl)) ?_
                        show Xv E q_m_X0_fillTable 114 [Value.ref d, Value.int (zi g3), Value.int (zi R), Value.int (zi k), Value.long (((uL WI3 k ((NE2 k) ||| x90)) k) &&& ((NE2 k) ^^^ (-1))), Value.null] [] h94 Q
                        refine xv (x_lload 116 d_X0_fillTable_114 rfl rfl) ?_
                        refine xv (x_lconst 117 d_X0_fillTable_116 rfl) ?_
                        show Xv E q_m_X0_fillTable 117 [Value.ref d, Value.int (zi g3), Value.int (zi R), Value.int (zi k), Value.long (((uL WI3 k ((NE2 k) ||| x90)) k) &&& ((NE2 k) ^^^ (-1))), Value.null] [Value.long 0, Value.long (((uL WI3 k ((NE2 k) ||| x90)) k) &&& ((NE2 k) ^^^ (-1)))] h94 Q
                        refine xv (x_lcmp 118 d_X0_fillTable_117 rfl) ?_
                        refine v_leq 135 121 d_X0_fillTable_118 rfl rfl (fun k118 => ?_) (fun k118 => ?_)
                        · refine xv (x_iinc 138 d_X0_fillTable_135 rfl rfl) ?_
                          show Xv E q_m_X0_fillTable 138 [Value.ref d, Value.int (zi g3), Value.int (zi R), Value.int (zi (k + 1)), Value.long (((uL WI3 k ((NE2 k) ||| x90)) k) &&& ((NE2 k) ^^^ (-1))), Value.null] [] h94 Q
                          refine xv (x_goto 60 d_X0_fillTable_138 rfl) ?_
                          have hy := wid hR ⟨k0, by omega⟩ (show 1 ≤ R.toNat by omega) hN46 n90
                          have hz : uL WI3 k (NE2 k ||| x90) k = (NE2 k ||| x90) := uL_eq
                          refine ih60 _ (by omega) g3 (k + 1) _ _ _ _ _ (by omega) (by omega) (by omega) (fun a1 b1 a2 b2 => ?_) (fun a1 a2 a3 c c0 c1 => ?_) (fun e a1 b1 a2 b2 a3 => ?_) W_94 D_94 TA_94 NE_94 w94 F94 rfl
                          · by_cases z : a1 = k
                            · subst z
                              rw [hT60 a1 b1 a2 b2, if_neg (by omega), if_pos (by omega)]
                              rw [hz] at k118
                              exact (dsB_old (fun y => bt_0 (k118 ▸ (frs1 (by omega) b2 (hN46 a1 a2) hy).mpr y))).symm
                            · rw [hT60 a1 b1 a2 b2]
                              by_cases y : a1 < k
                              · rw [if_pos y, if_pos (by omega)]
                              · rw [if_neg y, if_neg (by omega)]
                          · by_cases z : a1 = k
                            · subst z; rw [hz]; exact hy c c0 c1
                            · rw [uL_ne z]; exact hI60 a1 a2 (by omega) c c0 c1
                          · by_cases z : a1 = k
                            · subst z
                              rw [hz] at k118
                              exact dsB_old (fun y => bt_0 (k118 ▸ (frs1 (by omega) b2 (hN46 a1 a2) hy).mpr y))
                            · exact hS60 e a1 b1 a2 b2 (by omega)
                        · refine xv (x_iconst 122 d_X0_fillTable_121 rfl) ?_
                          refine xv (x_istore_n 123 d_X0_fillTable_122 rfl (Nat.le_of_ble_eq_true rfl)) ?_
                          show Xv E q_m_X0_fillTable 123 [Value.ref d, Value.int (zi 1), Value.int (zi R), Value.int (zi k), Value.long (((uL WI3 k ((NE2 k) ||| x90)) k) &&& ((NE2 k) ^^^ (-1))), Value.null] [] h94 Q
                          refine xv (x_aload_n 124 d_X0_fillTable_123 rfl rfl) ?_
                          refine xv (x_getfield 127 d_X0_fillTable_124 rfl f_0_24 (Nat.le_of_ble_eq_true rfl) (Nat.le_of_ble_eq_true rfl) (q_gf_of D_94 rfl)) ?_
                          refine xv (x_iload_n 128 d_X0_fillTable_127 rfl rfl) ?_
                          refine xv (x_aaload 129 d_X0_fillTable_128 rfl (tb_g TA_94 (by omega) (by omega))) ?_
                          refine xv (x_lload 131 d_X0_fillTable_129 rfl rfl) ?_
                          refine xv (x_iload_n 132 d_X0_fillTable_131 rfl rfl) ?_
                          obtain ⟨r132, h132, e132, z132, ⟨t132, n132, y132⟩, g132⟩ := S_X0_noteRound (E := E) (v := ((uL WI3 k ((NE2 k) ||| x90)) k) &&& ((NE2 k) ^^^ (-1))) (r := R) (TA_94.2 k (by omega) (by omega))
                          subst z132
                          have b132 := tw_b (d := d) (show 0 ≤ k by omega) (by omega)
                          have w132 := tb_w TA_94 (by omega) (by omega) y132 g132
                          have W_132 := wh_fr W_94 g132 (by omega)
                          have D_132 := (g132.2 _ (by omega)).trans D_94
                          have NE_132 := al_fr NE_94 g132 (by omega)
                          have WI_132 := al_fr w94 g132 (by omega)
                          have F132 : FrT d h h132 := frt_tr F94 g132 (by omega)
                          refine xv (x_ins0 135 (as := [Value.ref (tw d k), Value.long (((uL WI3 k ((NE2 k) ||| x90)) k) &&& ((NE2 k) ^^^ (-1))), Value.int (zi R)]) d_X0_fillTable_132 rfl c_0_133 rfl (Nat.le_of_ble_eq_true rfl) (Nat.le_of_ble_eq_true rfl) (Nat.le_of_ble_eq_true rfl) rfl e132) ?_
                          show Xv E q_m_X0_fillTable 135 [Value.ref d, Value.int (zi 1), Value.int (zi R), Value.int (zi k), Value.long (((uL WI3 k ((NE2 k) ||| x90)) k) &&& ((NE2 k) ^^^ (-1))), Value.null] [] h132 Q
                          refine xv (x_iinc 138 d_X0_fillTable_135 rfl rfl) ?_
                          show Xv E q_m_X0_fillTable 138 [Value.ref d, Value.int (zi 1), Value.int (zi R), Value.int (zi (k + 1)), Value.long (((uL WI3 k ((NE2 k) ||| x90)) k) &&& ((NE2 k) ^^^ (-1))), Value.null] [] h132 Q
                          refine xv (x_goto 60 d_X0_fillTable_138 rfl) ?_
                          have hy := wid hR ⟨k0, by omega⟩ (show 1 ≤ R.toNat by omega) hN46 n90
                          have hz : uL WI3 k (NE2 k ||| x90) k = (NE2 k ||| x90) := uL_eq
                          refine ih60 _ (by omega) 1 (k + 1) _ _ _ _ _ (by omega) (by omega) (by omega) (fun a1 b1 a2 b2 => ?_) (fun a1 a2 a3 c c0 c1 => ?_) (fun e a1 b1 a2 b2 a3 => ?_) W_132 D_132 w132 NE_132 WI_132 F132 rfl
                          · by_cases z : a1 = k
                            · subst z
                              show (if a1 = a1 then t132 else T3 a1) b1 = _
                              rw [if_pos rfl, if_pos (by omega)]
                              have e1 := frs1 (by omega) b2 (hN46 a1 a2) hy
                              rw [hz] at n132
                              have e2 := n132 b1 (by omega) (by omega)
                              have e3 := hT60 a1 b1 a2 b2
                              rw [if_neg (by omega)] at e3
                              by_cases q : bt ((NE2 a1 ||| x90) &&& (NE2 a1 ^^^ (-1))) b1
                              · rw [e2.1 q, dsB_new (e1.mp q).1 (e1.mp q).2, Int.toNat_of_nonneg (by omega)]
                              · rw [e2.2 q, e3]; exact (dsB_old (fun y => q (e1.mpr y))).symm
                            · show (if a1 = k then t132 else T3 a1) b1 = _
                              rw [if_neg z, hT60 a1 b1 a2 b2]
                              by_cases y : a1 < k
                              · rw [if_pos y, if_pos (by omega)]
                              · rw [if_neg y, if_neg (by omega)]
                          · by_cases z : a1 = k
                            · subst z; rw [hz]; exact hy c c0 c1
                            · rw [uL_ne z]; exact hI60 a1 a2 (by omega) c c0 c1
                          · exact absurd e (by decide)
                refine L60 _ 0 0 _ _ _ _ _ (by omega) (by omega) (by omega) (fun a b x y => ?_) (fun a b x => by omega) (fun a b c d e f => by omega) hW2 hD2 hT2 hN2 hI2 hF2 rfl
                rw [hT46 a b x y, if_neg (by omega)]
        have ek : k = 48 := by omega
        refine L46 _ 1 1 _ _ _ _ _ _ _ (by omega) (by omega) (fun a b x y => ?_) (fun a x c y z => ?_) (fun e => by omega) hW2 hD2 hT2 hN2 hI2 hF2 rfl
        · rw [hT0 a x.1 (by omega) b y.1 (by omega)]; exact ds1.symm
        · rw [hN0 a x.1 (by omega) c y z, show (1 : Int).toNat = 1 from rfl, ds1]
          constructor
          · intro e; subst e; rw [if_pos rfl]; exact ⟨x, by omega⟩
          · intro e; exact Classical.byContradiction fun u => e.2 (if_neg u)
      · refine xv (x_aload_n 9 d_X0_fillTable_8 rfl rfl) ?_
        refine xv (x_getfield 12 d_X0_fillTable_9 rfl f_0_24 (Nat.le_of_ble_eq_true rfl) (Nat.le_of_ble_eq_true rfl) (q_gf_of hD2 rfl)) ?_
        refine xv (x_iload_n 13 d_X0_fillTable_12 rfl rfl) ?_
        refine xv (x_aaload 14 d_X0_fillTable_13 rfl (tb_g hT2 (by omega) (by omega))) ?_
        refine xv (x_iconst 15 d_X0_fillTable_14 rfl) ?_
        obtain ⟨r15, h15, e15, z15, y15, g15⟩ := S_J7_fill (E := E) (x := (-1)) (hT2.2 k (by omega) (by omega)) (by decide)
        subst z15
        have b15 := tw_b (d := d) (show 0 ≤ k by omega) (by omega)
        have w15 := tb_w hT2 (by omega) (by omega) y15 g15
        have W_15 := wh_fr hW2 g15 (by omega)
        have D_15 := (g15.2 _ (by omega)).trans hD2
        have NE_15 := al_fr hN2 g15 (by omega)
        have WI_15 := al_fr hI2 g15 (by omega)
        have F15 : FrT d h h15 := frt_tr hF2 g15 (by omega)
        refine xv (x_ins0 18 (as := [Value.ref (tw d k), Value.int (zi (-1))]) d_X0_fillTable_15 rfl c_0_48 rfl (Nat.le_of_ble_eq_true rfl) (Nat.le_of_ble_eq_true rfl) (Nat.le_of_ble_eq_true rfl) rfl e15) ?_
        show Xv E q_m_X0_fillTable 18 [Value.ref d, Value.int (zi k), Value.null, Value.null, Value.null, Value.null] [] h15 Q
        refine xv (x_aload_n 19 d_X0_fillTable_18 rfl rfl) ?_
        refine xv (x_getfield 22 d_X0_fillTable_19 rfl f_0_24 (Nat.le_of_ble_eq_true rfl) (Nat.le_of_ble_eq_true rfl) (q_gf_of D_15 rfl)) ?_
        refine xv (x_iload_n 23 d_X0_fillTable_22 rfl rfl) ?_
        refine xv (x_aaload 24 d_X0_fillTable_23 rfl (tb_g w15 (by omega) (by omega))) ?_
        refine xv (x_iload_n 25 d_X0_fillTable_24 rfl rfl) ?_
        refine xv (x_iconst 26 d_X0_fillTable_25 rfl) ?_
        obtain ⟨h26, e26, y26, g26⟩ := ai_s (z := k) (v := 0) (w15.2 k (by omega) (by omega)) (by omega) (by omega) (by decide)
        have b26 := tw_b (d := d) (show 0 ≤ k by omega) (by omega)
        have w26 := tb_w w15 (by omega) (by omega) y26 g26
        have W_26 := wh_fr W_15 g26 (by omega)
        have D_26 := (g26.2 _ (by omega)).trans D_15
        have NE_26 := al_fr NE_15 g26 (by omega)
        have WI_26 := al_fr WI_15 g26 (by omega)
        have F26 : FrT d h h26 := frt_tr F15 g26 (by omega)
        refine xv (x_iastore 27 d_X0_fillTable_26 rfl e26) ?_
        show Xv E q_m_X0_fillTable 27 [Value.ref d, Value.int (zi k), Value.null, Value.null, Value.null, Value.null] [] h26 Q
        refine xv (x_aload_n 28 d_X0_fillTable_27 rfl rfl) ?_
        refine xv (x_getfield 31 d_X0_fillTable_28 rfl f_0_27 (Nat.le_of_ble_eq_true rfl) (Nat.le_of_ble_eq_true rfl) (q_gf_of D_26 rfl)) ?_
        refine xv (x_iload_n 32 d_X0_fillTable_31 rfl rfl) ?_
        refine xv (x_lconst 33 d_X0_fillTable_32 rfl) ?_
        show Xv E q_m_X0_fillTable 33 [Value.ref d, Value.int (zi k), Value.null, Value.null, Value.null, Value.null] [Value.long 1, Value.int (zi k), Value.ref (d + 52)] h26 Q
        refine xv (x_iload_n 34 d_X0_fillTable_33 rfl rfl) ?_
        refine xv (x_lshl 35 d_X0_fillTable_34 rfl) ?_
        show Xv E q_m_X0_fillTable 35 [Value.ref d, Value.int (zi k), Value.null, Value.null, Value.null, Value.null] [Value.long (lsh 1 (zi k)), Value.int (zi k), Value.ref (d + 52)] h26 Q
        obtain ⟨h35, e35, w35, f35⟩ := al_s (z := k) (v := lsh 1 (zi k)) NE_26 (by omega) (by omega) (by decide)
        have W_35 := wh_fr W_26 f35 (by omega)
        have D_35 := (f35.2 _ (by omega)).trans D_26
        have TA_35 := tb_fr w26 f35 (by omega)
        have WI_35 := al_fr WI_26 f35 (by omega)
        have F35 : FrT d h h35 := frt_tr F26 f35 (by omega)
        refine xv (x_lastore 36 d_X0_fillTable_35 rfl e35) ?_
        show Xv E q_m_X0_fillTable 36 [Value.ref d, Value.int (zi k), Value.null, Value.null, Value.null, Value.null] [] h35 Q
        refine xv (x_iinc 39 d_X0_fillTable_36 rfl rfl) ?_
        show Xv E q_m_X0_fillTable 39 [Value.ref d, Value.int (zi (k + 1)), Value.null, Value.null, Value.null, Value.null] [] h35 Q
        refine xv (x_goto 2 d_X0_fillTable_39 rfl) ?_
        refine ih2 _ (by omega) (k + 1) _ _ _ (by omega) (by omega) (fun a x y b z u => ?_) (fun a x y c z u => ?_) W_35 D_35 TA_35 w35 WI_35 F35 rfl
        · by_cases e : a = k
          · subst e; simp [u1]
          · have := hT0 a x (by omega) b z u
            simpa [e] using this
        · by_cases e : a = k
          · subst e; rw [uL_eq]; exact bt_sh k0 (by omega) z u
          · rw [uL_ne e]; exact hN0 a x (by omega) c z u
  exact L2 _ 0 _ _ _ (by omega) (by omega) (fun a b c => by omega) (fun a b c => by omega) hW hD hT hN hI frt_rf rfl
end CG
