/-! the class's planner: tick by tick (printed by program) -/
/-- a cell in which a robot can be after n ticks -/
def rea (l : Int → Int) (ro : Int) : Nat → Int → Prop
  | 0, c => c = rb l ro 0
  | n + 1, c => isC l c ∧ ∃ w, (0 ≤ w ∧ w ≤ 4) ∧ 0 ≤ bes l c w ∧ rea l ro n (bes l c w) ∧ mgo l ro (bes l c w) c n
/-- the ticks of the first plan, -1: none -/
noncomputable def fT (l : Int → Int) (ro g : Int) : Int := fnd (fun t => rea l ro t.toNat g ∧ gtu l ro g < t) (l 7).toNat 1
section CR2
variable {E : q_E} {h h' : q_H} {w v a b t N k d P' : Nat} {l lo f g c q PQ PO PP : Int → Int} {p p2 pk : Int → Nat} {n R C z tr tc ro go_ gt : Int} {to : Int64} {TK : Int → Int64}
theorem rea_c {n : Nat} {c : Int} (hR : RgC l) (hr : isR l ro) (h : rea l ro n c) : isC l c := by
  match n, h with
  | 0, h => have := (rgc_r hR hr).1; rw [show c = rb l ro 0 from h]; exact this
  | n + 1, h => exact h.1
theorem S_X4_canComeTo (hW : WH h w l p) (hR : RgC l) (hP : PLo h P' w ro go_ gt) (hK : AL h (P' + 3) 31 TK) (hro : isR l ro) (hT : TKk l ro (l 3) TK) {y t : Int} {v : Int64} (hy : isC l y) (t0 : 1 ≤ t) (t1 : t ≤ 30) : q_cl E q_m_X4_canComeTo [Value.ref (P'), Value.int (zi y), Value.long v, Value.int (zi t)] h = some (.inl (some (Value.int (zi (bI (∃ u, (0 ≤ u ∧ u < 5) ∧ 0 ≤ bes l y u ∧ bt v (bes l y u) ∧ mgo l ro (bes l y u) y (t - 1)))))), h) := by
  suffices K : ∀ Q : q_R → q_H → Prop, Q (.inl (some (Value.int (zi (bI (∃ u, (0 ≤ u ∧ u < 5) ∧ 0 ≤ bes l y u ∧ bt v (bes l y u) ∧ mgo l ro (bes l y u) y (t - 1))))))) h → Xv E q_m_X4_canComeTo 0 [Value.ref (P'), Value.int (zi y), Value.long v, Value.null, Value.int (zi t), Value.null, Value.null] [] h Q by
    obtain ⟨r_, g_, a_, b_, c_⟩ := K (fun r_ g_ => r_ = .inl (some (Value.int (zi (bI (∃ u, (0 ≤ u ∧ u < 5) ∧ 0 ≤ bes l y u ∧ bt v (bes l y u) ∧ mgo l ro (bes l y u) y (t - 1)))))) ∧ g_ = h) ⟨rfl, rfl⟩
    subst b_; subst c_; exact a_
  intro Q hQ
  obtain ⟨g0, g1, g2, g3, g4, gc, g5, g6, g7, gk, gl, gr, go⟩ := id hR
  refine xv (x_iconst 1 d_X4_canComeTo_0 rfl) ?_
  refine xv (x_istore 3 d_X4_canComeTo_1 rfl (Nat.le_of_ble_eq_true rfl)) ?_
  show Xv E q_m_X4_canComeTo 3 [Value.ref (P'), Value.int (zi y), Value.long v, Value.null, Value.int (zi t), Value.int (zi 0), Value.null] [] h Q
  have L3 : ∀ (n_ : Nat) (k : Int) (x6 : Value), (0 ≤ k) → (k ≤ 5) → (∀ u, 0 ≤ u → u < k → ¬ (0 ≤ bes l y u ∧ bt v (bes l y u) ∧ mgo l ro (bes l y u) y (t - 1))) → (5 - k).toNat = n_ → Xv E q_m_X4_canComeTo 3 [Value.ref (P'), Value.int (zi y), Value.long v, Value.null, Value.int (zi t), Value.int (zi k), x6] [] h Q := by
    intro n_
    induction n_ using Nat.strongRecOn with
    | _ n_ ih3 =>
      intro k x6 k0 k1 hk em
      refine xv (x_iload 5 d_X4_canComeTo_3 rfl rfl) ?_
      refine xv (x_iconst 6 d_X4_canComeTo_5 rfl) ?_
      refine v_icmp_gt 58 9 d_X4_canComeTo_6 rfl rfl (by omega) (by omega) (by omega) (by omega) (fun k6 => ?_) (fun k6 => ?_)
      · refine xv (x_iconst 59 d_X4_canComeTo_58 rfl) ?_
        refine xv_r (x_ireturn d_X4_canComeTo_59 rfl rfl) ?_
        refine lq hQ ?_
        refine (bI_f ?_).symm
        rintro ⟨u, a1, a2, a3, a4⟩
        exact hk u a1.1 (by omega) ⟨a2, a3, a4⟩
      · refine xv (x_aload_n 10 d_X4_canComeTo_9 rfl rfl) ?_
        refine xv (x_getfield 13 d_X4_canComeTo_10 rfl f_4_9 (Nat.le_of_ble_eq_true rfl) (Nat.le_of_ble_eq_true rfl) (q_gf_of hP rfl)) ?_
        refine xv (x_iload_n 14 d_X4_canComeTo_13 rfl rfl) ?_
        refine xv (x_iload 16 d_X4_canComeTo_14 rfl rfl) ?_
        refine xv (x_inv1 19 (as := [Value.int (zi y), Value.int (zi k)]) d_X4_canComeTo_16 rfl c_4_58 rfl (Nat.le_of_ble_eq_true rfl) (Nat.le_of_ble_eq_true rfl) (wh_o hW) (Nat.le_of_ble_eq_true rfl) (Nat.le_of_ble_eq_true rfl) rfl (S_X6_neighbor hW hR (by omega) (by omega) (by omega))) ?_
        have q16 := besC_r (w := k) hR (show isC l y by omega)
        show Xv E q_m_X4_canComeTo 19 [Value.ref (P'), Value.int (zi y), Value.long v, Value.null, Value.int (zi t), Value.int (zi k), x6] [Value.int (zi (bes l y k))] h Q
        refine xv (x_istore 21 d_X4_canComeTo_19 rfl (Nat.le_of_ble_eq_true rfl)) ?_
        show Xv E q_m_X4_canComeTo 21 [Value.ref (P'), Value.int (zi y), Value.long v, Value.null, Value.int (zi t), Value.int (zi k), Value.int (zi (bes l y k))] [] h Q
        refine xv (x_iload 23 d_X4_canComeTo_21 rfl rfl) ?_
        refine xv (x_iconst 24 d_X4_canComeTo_23 rfl) ?_
        refine v_icmp_eq 52 27 d_X4_canComeTo_24 rfl rfl (by omega) (by omega) (by omega) (by omega) (fun k24 => ?_) (fun k24 => ?_)
        · refine xv (x_iinc 55 d_X4_canComeTo_52 rfl rfl) ?_
          show Xv E q_m_X4_canComeTo 55 [Value.ref (P'), Value.int (zi y), Value.long v, Value.null, Value.int (zi t), Value.int (zi (k + 1)), Value.int (zi (bes l y k))] [] h Q
          refine xv (x_goto 3 d_X4_canComeTo_55 rfl) ?_
          refine ih3 _ (by omega) (k + 1) _ (by omega) (by omega) (fun u a b => ?_) rfl
          by_cases z : u = k
          · subst z; first | exact fun e => absurd e.1 (by omega) | exact fun e => absurd e.2.1 ((bt_t (by omega) (by omega)).mp k35) | exact fun e => k47 ⟨hy, e.2.2⟩
          · exact hk u a (by omega)
        · refine xv (x_lload_n 28 d_X4_canComeTo_27 rfl rfl) ?_
          refine xv (x_iload 30 d_X4_canComeTo_28 rfl rfl) ?_
          refine xv (x_lushr 31 d_X4_canComeTo_30 rfl) ?_
          show Xv E q_m_X4_canComeTo 31 [Value.ref (P'), Value.int (zi y), Value.long v, Value.null, Value.int (zi t), Value.int (zi k), Value.int (zi (bes l y k))] [Value.long (lur v (zi (bes l y k)))] h Q
          refine xv (x_lconst 32 d_X4_canComeTo_31 rfl) ?_
          show Xv E q_m_X4_canComeTo 32 [Value.ref (P'), Value.int (zi y), Value.long v, Value.null, Value.int (zi t), Value.int (zi k), Value.int (zi (bes l y k))] [Value.long 1, Value.long (lur v (zi (bes l y k)))] h Q
          refine xv (x_land 33 d_X4_canComeTo_32 rfl) ?_
          refine xv (x_lconst 34 d_X4_canComeTo_33 rfl) ?_
          show Xv E q_m_X4_canComeTo 34 [Value.ref (P'), Value.int (zi y), Value.long v, Value.null, Value.int (zi t), Value.int (zi k), Value.int (zi (bes l y k))] [Value.long 0, Value.long ((lur v (zi (bes l y k))) &&& 1)] h Q
          refine xv (x_lcmp 35 d_X4_canComeTo_34 rfl) ?_
          refine v_leq 52 38 d_X4_canComeTo_35 rfl rfl (fun k35 => ?_) (fun k35 => ?_)
          · refine xv (x_iinc 55 d_X4_canComeTo_52 rfl rfl) ?_
            show Xv E q_m_X4_canComeTo 55 [Value.ref (P'), Value.int (zi y), Value.long v, Value.null, Value.int (zi t), Value.int (zi (k + 1)), Value.int (zi (bes l y k))] [] h Q
            refine xv (x_goto 3 d_X4_canComeTo_55 rfl) ?_
            refine ih3 _ (by omega) (k + 1) _ (by omega) (by omega) (fun u a b => ?_) rfl
            by_cases z : u = k
            · subst z; first | exact fun e => absurd e.1 (by omega) | exact fun e => absurd e.2.1 ((bt_t (by omega) (by omega)).mp k35) | exact fun e => k47 ⟨hy, e.2.2⟩
            · exact hk u a (by omega)
          · refine xv (x_aload_n 39 d_X4_canComeTo_38 rfl rfl) ?_
            refine xv (x_iload 41 d_X4_canComeTo_39 rfl rfl) ?_
            refine xv (x_iload_n 42 d_X4_canComeTo_41 rfl rfl) ?_
            refine xv (x_iload 44 d_X4_canComeTo_42 rfl rfl) ?_
            refine xv (x_inv1 47 (as := [Value.int (zi (bes l y k)), Value.int (zi y), Value.int (zi t)]) d_X4_canComeTo_44 rfl c_4_62 rfl (Nat.le_of_ble_eq_true rfl) (Nat.le_of_ble_eq_true rfl) hP (Nat.le_of_ble_eq_true rfl) (Nat.le_of_ble_eq_true rfl) rfl (S_X4_canStep hW hR hP hK hro hT (by omega) (by omega) (by omega) (by omega) (by omega) (by omega))) ?_
            show Xv E q_m_X4_canComeTo 47 [Value.ref (P'), Value.int (zi y), Value.long v, Value.null, Value.int (zi t), Value.int (zi k), Value.int (zi (bes l y k))] [Value.int (zi (bI (isC l y ∧ mgo l ro (bes l y k) y (t - 1))))] h Q
            refine v_if_eq 52 50 d_X4_canComeTo_47 rfl rfl (by have := bI_r (isC l y ∧ mgo l ro (bes l y k) y (t - 1)); omega) (by have := bI_r (isC l y ∧ mgo l ro (bes l y k) y (t - 1)); omega) (fun k47 => ?_) (fun k47 => ?_)
            · replace k47 := bI_0.mp k47
              refine xv (x_iinc 55 d_X4_canComeTo_52 rfl rfl) ?_
              show Xv E q_m_X4_canComeTo 55 [Value.ref (P'), Value.int (zi y), Value.long v, Value.null, Value.int (zi t), Value.int (zi (k + 1)), Value.int (zi (bes l y k))] [] h Q
              refine xv (x_goto 3 d_X4_canComeTo_55 rfl) ?_
              refine ih3 _ (by omega) (k + 1) _ (by omega) (by omega) (fun u a b => ?_) rfl
              by_cases z : u = k
              · subst z; first | exact fun e => absurd e.1 (by omega) | exact fun e => absurd e.2.1 ((bt_t (by omega) (by omega)).mp k35) | exact fun e => k47 ⟨hy, e.2.2⟩
              · exact hk u a (by omega)
            · replace k47 := bI_n0.mp k47
              refine xv (x_iconst 51 d_X4_canComeTo_50 rfl) ?_
              refine xv_r (x_ireturn d_X4_canComeTo_51 rfl rfl) ?_
              refine lq hQ ?_
              exact (bI_t ⟨k, by omega, by omega, Classical.not_not.mp (fun z => k35 ((bt_t (by omega) (by omega)).mpr z)), k47.2⟩).symm
  exact L3 _ 0 _ (by omega) (by omega) (fun r a b => by omega) rfl
theorem S_X4_cellsAfter (hW : WH h w l p) (hR : RgC l) (hP : PLo h P' w ro go_ gt) (hK : AL h (P' + 3) 31 TK) (hro : isR l ro) (hT : TKk l ro (l 3) TK) {t : Int} {v : Int64} (t0 : 1 ≤ t) (t1 : t ≤ 30) (hv : ∀ c, 0 ≤ c → c < 64 → (bt v c ↔ rea l ro (t - 1).toNat c)) : ∃ r_ h', q_cl E q_m_X4_cellsAfter [Value.ref (P'), Value.long v, Value.int (zi t)] h = some (r_, h') ∧ (∃ x, (r_ = .inl (some (.long x)) ∧ h' = h) ∧ ∀ c, 0 ≤ c → c < 64 → (bt x c ↔ rea l ro t.toNat c)) := by
  suffices K : ∀ Q : q_R → q_H → Prop, (∀ r_ h', (∃ x, (r_ = .inl (some (.long x)) ∧ h' = h) ∧ ∀ c, 0 ≤ c → c < 64 → (bt x c ↔ rea l ro t.toNat c)) → Q r_ h') → Xv E q_m_X4_cellsAfter 0 [Value.ref (P'), Value.long v, Value.null, Value.int (zi t), Value.null, Value.null, Value.null] [] h Q from K _ fun _ _ p => p
  intro Q hQ
  obtain ⟨g0, g1, g2, g3, g4, gc, g5, g6, g7, gk, gl, gr, go⟩ := id hR
  refine xv (x_lconst 1 d_X4_cellsAfter_0 rfl) ?_
  show Xv E q_m_X4_cellsAfter 1 [Value.ref (P'), Value.long v, Value.null, Value.int (zi t), Value.null, Value.null, Value.null] [Value.long 0] h Q
  refine xv (x_lstore 3 d_X4_cellsAfter_1 rfl (Nat.le_of_ble_eq_true rfl)) ?_
  show Xv E q_m_X4_cellsAfter 3 [Value.ref (P'), Value.long v, Value.null, Value.int (zi t), Value.long 0, Value.null, Value.null] [] h Q
  refine xv (x_iconst 4 d_X4_cellsAfter_3 rfl) ?_
  refine xv (x_istore 6 d_X4_cellsAfter_4 rfl (Nat.le_of_ble_eq_true rfl)) ?_
  show Xv E q_m_X4_cellsAfter 6 [Value.ref (P'), Value.long v, Value.null, Value.int (zi t), Value.long 0, Value.null, Value.int (zi 0)] [] h Q
  have L6 : ∀ (n_ : Nat) (x : Int64) (k : Int), (0 ≤ k) → (k ≤ cs l) → (∀ c, 0 ≤ c → c < 64 → (bt x c ↔ c < k ∧ rea l ro t.toNat c)) → (cs l - k).toNat = n_ → Xv E q_m_X4_cellsAfter 6 [Value.ref (P'), Value.long v, Value.null, Value.int (zi t), Value.long x, Value.null, Value.int (zi k)] [] h Q := by
    intro n_
    induction n_ using Nat.strongRecOn with
    | _ n_ ih6 =>
      intro x k k0 k1 hx em
      refine xv (x_aload_n 7 d_X4_cellsAfter_6 rfl rfl) ?_
      refine xv (x_getfield 10 d_X4_cellsAfter_7 rfl f_4_9 (Nat.le_of_ble_eq_true rfl) (Nat.le_of_ble_eq_true rfl) (q_gf_of hP rfl)) ?_
      refine xv (x_iload 12 d_X4_cellsAfter_10 rfl rfl) ?_
      refine xv (x_inv1 15 (as := [Value.int (zi k)]) d_X4_cellsAfter_12 rfl c_4_80 rfl (Nat.le_of_ble_eq_true rfl) (Nat.le_of_ble_eq_true rfl) (wh_o hW) (Nat.le_of_ble_eq_true rfl) (Nat.le_of_ble_eq_true rfl) rfl (S_X6_isCell hW hR (by omega) (by omega))) ?_
      show Xv E q_m_X4_cellsAfter 15 [Value.ref (P'), Value.long v, Value.null, Value.int (zi t), Value.long x, Value.null, Value.int (zi k)] [Value.int (zi (bI (isC l k)))] h Q
      refine v_if_eq 51 18 d_X4_cellsAfter_15 rfl rfl (by have := bI_r (isC l k); omega) (by have := bI_r (isC l k); omega) (fun k15 => ?_) (fun k15 => ?_)
      · replace k15 := bI_0.mp k15
        refine xv (x_lload 53 d_X4_cellsAfter_51 rfl rfl) ?_
        refine xv_r (x_lreturn d_X4_cellsAfter_53 rfl) ?_
        refine hQ _ _ ⟨_, ⟨rfl, rfl⟩, fun c c0 c1 => ?_⟩
        rw [hx c c0 c1]
        exact ⟨fun z => z.2, fun z => ⟨by have := rea_c hR hro z; omega, z⟩⟩
      · replace k15 := bI_n0.mp k15
        refine xv (x_iload 20 d_X4_cellsAfter_18 rfl rfl) ?_
        refine xv (x_bipush 22 d_X4_cellsAfter_20 rfl rfl) ?_
        refine v_icmp_ge 51 25 d_X4_cellsAfter_22 rfl rfl (by omega) (by omega) (by omega) (by omega) (fun k22 => ?_) (fun k22 => ?_)
        · refine xv (x_lload 53 d_X4_cellsAfter_51 rfl rfl) ?_
          refine xv_r (x_lreturn d_X4_cellsAfter_53 rfl) ?_
          refine hQ _ _ ⟨_, ⟨rfl, rfl⟩, fun c c0 c1 => ?_⟩
          rw [hx c c0 c1]
          exact ⟨fun z => z.2, fun z => ⟨by have := rea_c hR hro z; omega, z⟩⟩
        · refine xv (x_aload_n 26 d_X4_cellsAfter_25 rfl rfl) ?_
          refine xv (x_iload 28 d_X4_cellsAfter_26 rfl rfl) ?_
          refine xv (x_lload_n 29 d_X4_cellsAfter_28 rfl rfl) ?_
          refine xv (x_iload_n 30 d_X4_cellsAfter_29 rfl rfl) ?_
          refine xv (x_inv1 33 (as := [Value.int (zi k), Value.long v, Value.int (zi t)]) d_X4_cellsAfter_30 rfl c_4_84 rfl (Nat.le_of_ble_eq_true rfl) (Nat.le_of_ble_eq_true rfl) hP (Nat.le_of_ble_eq_true rfl) (Nat.le_of_ble_eq_true rfl) rfl (S_X4_canComeTo hW hR hP hK hro hT (by omega) (by omega) (by omega))) ?_
          show Xv E q_m_X4_cellsAfter 33 [Value.ref (P'), Value.long v, Value.null, Value.int (zi t), Value.long x, Value.null, Value.int (zi k)] [Value.int (zi (bI (∃ u, (0 ≤ u ∧ u < 5) ∧ 0 ≤ bes l k u ∧ bt v (bes l k u) ∧ mgo l ro (bes l k u) k (t - 1))))] h Q
          refine v_if_eq 45 36 d_X4_cellsAfter_33 rfl rfl (by have := bI_r (∃ u, (0 ≤ u ∧ u < 5) ∧ 0 ≤ bes l k u ∧ bt v (bes l k u) ∧ mgo l ro (bes l k u) k (t - 1)); omega) (by have := bI_r (∃ u, (0 ≤ u ∧ u < 5) ∧ 0 ≤ bes l k u ∧ bt v (bes l k u) ∧ mgo l ro (bes l k u) k (t - 1)); omega) (fun k33 => ?_) (fun k33 => ?_)
          · replace k33 := bI_0.mp k33
            refine xv (x_iinc 48 d_X4_cellsAfter_45 rfl rfl) ?_
            show Xv E q_m_X4_cellsAfter 48 [Value.ref (P'), Value.long v, Value.null, Value.int (zi t), Value.long x, Value.null, Value.int (zi (k + 1))] [] h Q
            refine xv (x_goto 6 d_X4_cellsAfter_48 rfl) ?_
            have er : rea l ro t.toNat k ↔ ∃ u, (0 ≤ u ∧ u < 5) ∧ 0 ≤ bes l k u ∧ bt v (bes l k u) ∧ mgo l ro (bes l k u) k (t - 1) := by
              rw [show t.toNat = (t - 1).toNat + 1 by omega]
              constructor
              · rintro ⟨_, u, a1, a2, a3, a4⟩
                have := besC_r (w := u) hR (show isC l k by omega)
                exact ⟨u, by omega, a2, (hv _ a2 (by omega)).mpr a3, by rw [Int.toNat_of_nonneg (show 0 ≤ t - 1 by omega)] at a4; exact a4⟩
              · rintro ⟨u, a1, a2, a3, a4⟩
                have := besC_r (w := u) hR (show isC l k by omega)
                exact ⟨by omega, u, by omega, a2, (hv _ a2 (by omega)).mp a3, by rw [Int.toNat_of_nonneg (show 0 ≤ t - 1 by omega)]; exact a4⟩
            replace k33 := fun y => k33 (er.mp y)
            clear er
            refine ih6 _ (by omega) _ (k + 1) (by omega) (by omega) (fun c c0 c1 => ?_) rfl
            rw [hx c c0 c1]
            constructor
            · rintro ⟨z, y⟩
              exact ⟨by omega, y⟩
            · rintro ⟨z, y⟩
              by_cases e : c = k
              · subst e; exact absurd y k33
              · exact ⟨by omega, y⟩
          · replace k33 := bI_n0.mp k33
            refine xv (x_lload 38 d_X4_cellsAfter_36 rfl rfl) ?_
            refine xv (x_lconst 39 d_X4_cellsAfter_38 rfl) ?_
            show Xv E q_m_X4_cellsAfter 39 [Value.ref (P'), Value.long v, Value.null, Value.int (zi t), Value.long x, Value.null, Value.int (zi k)] [Value.long 1, Value.long x] h Q
            refine xv (x_iload 41 d_X4_cellsAfter_39 rfl rfl) ?_
            refine xv (x_lshl 42 d_X4_cellsAfter_41 rfl) ?_
            show Xv E q_m_X4_cellsAfter 42 [Value.ref (P'), Value.long v, Value.null, Value.int (zi t), Value.long x, Value.null, Value.int (zi k)] [Value.long (lsh 1 (zi k)), Value.long x] h Q
            refine xv (x_lor 43 d_X4_cellsAfter_42 rfl) ?_
            refine xv (x_lstore 45 d_X4_cellsAfter_43 rfl (Nat.le_of_ble_eq_true rfl)) ?_
            show Xv E q_m_X4_cellsAfter 45 [Value.ref (P'), Value.long v, Value.null, Value.int (zi t), Value.long (x ||| (lsh 1 (zi k))), Value.null, Value.int (zi k)] [] h Q
            refine xv (x_iinc 48 d_X4_cellsAfter_45 rfl rfl) ?_
            show Xv E q_m_X4_cellsAfter 48 [Value.ref (P'), Value.long v, Value.null, Value.int (zi t), Value.long (x ||| (lsh 1 (zi k))), Value.null, Value.int (zi (k + 1))] [] h Q
            refine xv (x_goto 6 d_X4_cellsAfter_48 rfl) ?_
            have er : rea l ro t.toNat k ↔ ∃ u, (0 ≤ u ∧ u < 5) ∧ 0 ≤ bes l k u ∧ bt v (bes l k u) ∧ mgo l ro (bes l k u) k (t - 1) := by
              rw [show t.toNat = (t - 1).toNat + 1 by omega]
              constructor
              · rintro ⟨_, u, a1, a2, a3, a4⟩
                have := besC_r (w := u) hR (show isC l k by omega)
                exact ⟨u, by omega, a2, (hv _ a2 (by omega)).mpr a3, by rw [Int.toNat_of_nonneg (show 0 ≤ t - 1 by omega)] at a4; exact a4⟩
              · rintro ⟨u, a1, a2, a3, a4⟩
                have := besC_r (w := u) hR (show isC l k by omega)
                exact ⟨by omega, u, by omega, a2, (hv _ a2 (by omega)).mp a3, by rw [Int.toNat_of_nonneg (show 0 ≤ t - 1 by omega)]; exact a4⟩
            replace k33 := er.mpr k33
            clear er
            refine ih6 _ (by omega) _ (k + 1) (by omega) (by omega) (fun c c0 c1 => ?_) rfl
            rw [bt_or, hx c c0 c1, bt_sh (by omega) (by omega) c0 c1]
            constructor
            · rintro (⟨z, y⟩ | y)
              · exact ⟨by omega, y⟩
              · subst y; exact ⟨by omega, k33⟩
            · rintro ⟨z, y⟩
              by_cases e : c = k
              · exact .inr e
              · exact .inl ⟨by omega, y⟩
  exact L6 _ 0 0 (by omega) (by omega) (fun c c0 c1 => ⟨fun z => absurd z bt_0, fun z => by omega⟩) rfl
theorem S_X4_findTickByTick (hW : WH h w l p) (hR : RgC l) (hP : PLo h P' w ro go_ gt) (hK : AL h (P' + 3) 31 TK) {x y : Int} (hx : isR l x) (hy : isC l y) (he : ent l y) (sp : P' + 5 ≤ w ∨ w + 38 ≤ P') : ∃ r_ h', q_cl E q_m_X4_findTickByTick [Value.ref (P'), Value.int (zi x), Value.int (zi y)] h = some (r_, h') ∧ (r_ = .inl (some (.int (zi (fT l x y)))) ∧ ∃ TK' gt', (WH h' w l p ∧ PLo h' P' w x y gt' ∧ AL h' (P' + 3) 31 TK') ∧ Fq P' h h') := by
  suffices K : ∀ Q : q_R → q_H → Prop, (∀ r_ h', (r_ = .inl (some (.int (zi (fT l x y)))) ∧ ∃ TK' gt', (WH h' w l p ∧ PLo h' P' w x y gt' ∧ AL h' (P' + 3) 31 TK') ∧ Fq P' h h') → Q r_ h') → Xv E q_m_X4_findTickByTick 0 [Value.ref (P'), Value.int (zi x), Value.int (zi y), Value.null, Value.null, Value.null, Value.null] [] h Q from K _ fun _ _ p => p
  intro Q hQ
  obtain ⟨g0, g1, g2, g3, g4, gc, g5, g6, g7, gk, gl, gr, go⟩ := id hR
  have gq := gr x hx.1 hx.2
  refine xv (x_aload_n 1 d_X4_findTickByTick_0 rfl rfl) ?_
  refine xv (x_iload_n 2 d_X4_findTickByTick_1 rfl rfl) ?_
  refine xv (x_iload_n 3 d_X4_findTickByTick_2 rfl rfl) ?_
  obtain ⟨r3, h3, e3, z3, K3, ⟨w3, d3, m3⟩, t3, g3, f3⟩ := S_X4_prepare (E := E) (x := x) (y := y) hW hR hP hK hx hy he (by omega)
  subst z3
  have Q3 := fq_fr f3
  have F3 : Fr (P') 5 h h3 := fr_tr fr_rf (fr_in Q3 (by omega) (by omega))
  refine xv (x_inv1 6 (as := [Value.int (zi x), Value.int (zi y)]) d_X4_findTickByTick_3 rfl c_4_29 rfl (Nat.le_of_ble_eq_true rfl) (Nat.le_of_ble_eq_true rfl) hP (Nat.le_of_ble_eq_true rfl) (Nat.le_of_ble_eq_true rfl) rfl e3) ?_
  have hT := t3
  have hgt := g3
  show Xv E q_m_X4_findTickByTick 6 [Value.ref (P'), Value.int (zi x), Value.int (zi y), Value.null, Value.null, Value.null, Value.null] [Value.int (zi (bI (gtu l x y < l 7)))] h3 Q
  refine v_if_ne 11 9 d_X4_findTickByTick_6 rfl rfl (by have := bI_r (gtu l x y < l 7); omega) (by have := bI_r (gtu l x y < l 7); omega) (fun k6 => ?_) (fun k6 => ?_)
  · replace k6 := bI_n0.mp k6
    refine xv (x_lconst 12 d_X4_findTickByTick_11 rfl) ?_
    show Xv E q_m_X4_findTickByTick 12 [Value.ref (P'), Value.int (zi x), Value.int (zi y), Value.null, Value.null, Value.null, Value.null] [Value.long 1] h3 Q
    refine xv (x_aload_n 13 d_X4_findTickByTick_12 rfl rfl) ?_
    refine xv (x_getfield 16 d_X4_findTickByTick_13 rfl f_4_9 (Nat.le_of_ble_eq_true rfl) (Nat.le_of_ble_eq_true rfl) (q_gf_of d3 rfl)) ?_
    refine xv (x_getfield 19 d_X4_findTickByTick_16 rfl f_4_43 (Nat.le_of_ble_eq_true rfl) (Nat.le_of_ble_eq_true rfl) (q_gf_of (wh_o w3) rfl)) ?_
    refine xv (x_aload_n 20 d_X4_findTickByTick_19 rfl rfl) ?_
    refine xv (x_getfield 23 d_X4_findTickByTick_20 rfl f_4_49 (Nat.le_of_ble_eq_true rfl) (Nat.le_of_ble_eq_true rfl) (q_gf_of d3 rfl)) ?_
    refine xv (x_aaload 24 d_X4_findTickByTick_23 rfl (wh_rs w3 (by omega) (by omega))) ?_
    refine xv (x_getfield 27 d_X4_findTickByTick_24 rfl f_4_53 (Nat.le_of_ble_eq_true rfl) (Nat.le_of_ble_eq_true rfl) (q_gf_of (wh_r w3 (by omega) (by omega)).1 rfl)) ?_
    refine xv (x_lshl 28 d_X4_findTickByTick_27 rfl) ?_
    show Xv E q_m_X4_findTickByTick 28 [Value.ref (P'), Value.int (zi x), Value.int (zi y), Value.null, Value.null, Value.null, Value.null] [Value.long (lsh 1 (zi (rb l x 0)))] h3 Q
    refine xv (x_lstore_n 29 d_X4_findTickByTick_28 rfl (Nat.le_of_ble_eq_true rfl)) ?_
    show Xv E q_m_X4_findTickByTick 29 [Value.ref (P'), Value.int (zi x), Value.int (zi y), Value.long (lsh 1 (zi (rb l x 0))), Value.null, Value.null, Value.null] [] h3 Q
    refine xv (x_aload_n 30 d_X4_findTickByTick_29 rfl rfl) ?_
    refine xv (x_inv1 33 (as := []) d_X4_findTickByTick_30 rfl c_4_39 rfl (Nat.le_of_ble_eq_true rfl) (Nat.le_of_ble_eq_true rfl) d3 (Nat.le_of_ble_eq_true rfl) (Nat.le_of_ble_eq_true rfl) rfl (S_X4_horizon w3 hR d3)) ?_
    show Xv E q_m_X4_findTickByTick 33 [Value.ref (P'), Value.int (zi x), Value.int (zi y), Value.long (lsh 1 (zi (rb l x 0))), Value.null, Value.null, Value.null] [Value.int (zi (l 7))] h3 Q
    refine xv (x_istore 35 d_X4_findTickByTick_33 rfl (Nat.le_of_ble_eq_true rfl)) ?_
    show Xv E q_m_X4_findTickByTick 35 [Value.ref (P'), Value.int (zi x), Value.int (zi y), Value.long (lsh 1 (zi (rb l x 0))), Value.null, Value.int (zi (l 7)), Value.null] [] h3 Q
    refine xv (x_iconst 36 d_X4_findTickByTick_35 rfl) ?_
    refine xv (x_istore 38 d_X4_findTickByTick_36 rfl (Nat.le_of_ble_eq_true rfl)) ?_
    show Xv E q_m_X4_findTickByTick 38 [Value.ref (P'), Value.int (zi x), Value.int (zi y), Value.long (lsh 1 (zi (rb l x 0))), Value.null, Value.int (zi (l 7)), Value.int (zi 1)] [] h3 Q
    have L38 : ∀ (n_ : Nat) (v : Int64) (i : Int), (1 ≤ i) → (i ≤ l 7 + 1) → (∀ c, 0 ≤ c → c < 64 → (bt v c ↔ rea l x (i - 1).toNat c)) → (fT l x y = fnd (fun t => rea l x t.toNat y ∧ gtu l x y < t) (l 7 + 1 - i).toNat i) → (l 7 + 1 - i).toNat = n_ → Xv E q_m_X4_findTickByTick 38 [Value.ref (P'), Value.int (zi x), Value.int (zi y), Value.long v, Value.null, Value.int (zi (l 7)), Value.int (zi i)] [] h3 Q := by
      intro n_
      induction n_ using Nat.strongRecOn with
      | _ n_ ih38 =>
        intro v i i0 i1 hv_ hv em
        refine xv (x_iload 40 d_X4_findTickByTick_38 rfl rfl) ?_
        refine xv (x_iload 42 d_X4_findTickByTick_40 rfl rfl) ?_
        refine v_icmp_gt 88 45 d_X4_findTickByTick_42 rfl rfl (by omega) (by omega) (by omega) (by omega) (fun k42 => ?_) (fun k42 => ?_)
        · refine xv (x_iconst 89 d_X4_findTickByTick_88 rfl) ?_
          refine xv_r (x_ireturn d_X4_findTickByTick_89 rfl rfl) ?_
          have ev : fT l x y = -1 := hv.trans (fnd_e (by omega))
          exact hQ _ _ ⟨by rw [ev], _, _, ⟨w3, d3, m3⟩, f3⟩
        · refine xv (x_aload_n 46 d_X4_findTickByTick_45 rfl rfl) ?_
          refine xv (x_lload_n 47 d_X4_findTickByTick_46 rfl rfl) ?_
          refine xv (x_iload 49 d_X4_findTickByTick_47 rfl rfl) ?_
          obtain ⟨r49, h49, e49, x49, ⟨z49, y49⟩, n49⟩ := S_X4_cellsAfter (E := E) (v := v) (t := i) w3 hR d3 m3 hx hT (by omega) (by omega) hv_
          rw [z49, y49] at e49
          refine xv (x_inv1 52 (as := [Value.long v, Value.int (zi i)]) d_X4_findTickByTick_49 rfl c_4_76 rfl (Nat.le_of_ble_eq_true rfl) (Nat.le_of_ble_eq_true rfl) d3 (Nat.le_of_ble_eq_true rfl) (Nat.le_of_ble_eq_true rfl) rfl e49) ?_
          show Xv E q_m_X4_findTickByTick 52 [Value.ref (P'), Value.int (zi x), Value.int (zi y), Value.long v, Value.null, Value.int (zi (l 7)), Value.int (zi i)] [Value.long x49] h3 Q
          refine xv (x_lstore_n 53 d_X4_findTickByTick_52 rfl (Nat.le_of_ble_eq_true rfl)) ?_
          show Xv E q_m_X4_findTickByTick 53 [Value.ref (P'), Value.int (zi x), Value.int (zi y), Value.long x49, Value.null, Value.int (zi (l 7)), Value.int (zi i)] [] h3 Q
          refine xv (x_lload_n 54 d_X4_findTickByTick_53 rfl rfl) ?_
          refine xv (x_aload_n 55 d_X4_findTickByTick_54 rfl rfl) ?_
          refine xv (x_getfield 58 d_X4_findTickByTick_55 rfl f_4_73 (Nat.le_of_ble_eq_true rfl) (Nat.le_of_ble_eq_true rfl) (q_gf_of d3 rfl)) ?_
          refine xv (x_lushr 59 d_X4_findTickByTick_58 rfl) ?_
          show Xv E q_m_X4_findTickByTick 59 [Value.ref (P'), Value.int (zi x), Value.int (zi y), Value.long x49, Value.null, Value.int (zi (l 7)), Value.int (zi i)] [Value.long (lur x49 (zi y))] h3 Q
          refine xv (x_lconst 60 d_X4_findTickByTick_59 rfl) ?_
          show Xv E q_m_X4_findTickByTick 60 [Value.ref (P'), Value.int (zi x), Value.int (zi y), Value.long x49, Value.null, Value.int (zi (l 7)), Value.int (zi i)] [Value.long 1, Value.long (lur x49 (zi y))] h3 Q
          refine xv (x_land 61 d_X4_findTickByTick_60 rfl) ?_
          refine xv (x_lconst 62 d_X4_findTickByTick_61 rfl) ?_
          show Xv E q_m_X4_findTickByTick 62 [Value.ref (P'), Value.int (zi x), Value.int (zi y), Value.long x49, Value.null, Value.int (zi (l 7)), Value.int (zi i)] [Value.long 0, Value.long ((lur x49 (zi y)) &&& 1)] h3 Q
          refine xv (x_lcmp 63 d_X4_findTickByTick_62 rfl) ?_
          refine v_leq 82 66 d_X4_findTickByTick_63 rfl rfl (fun k63 => ?_) (fun k63 => ?_)
          · refine xv (x_iinc 85 d_X4_findTickByTick_82 rfl rfl) ?_
            show Xv E q_m_X4_findTickByTick 85 [Value.ref (P'), Value.int (zi x), Value.int (zi y), Value.long x49, Value.null, Value.int (zi (l 7)), Value.int (zi (i + 1))] [] h3 Q
            refine xv (x_goto 38 d_X4_findTickByTick_85 rfl) ?_
            refine ih38 _ (by omega) _ (i + 1) (by omega) (by omega) (by rw [show i + 1 - 1 = i by omega]; exact n49) (hv.trans (fnd_b (P := fun t => rea l x t.toNat y ∧ gtu l x y < t) (by omega) ?_)) rfl
            first | exact fun z => (bt_t (by omega) (by omega)).mp k63 ((n49 y hy.1 (by omega)).mpr z.1) | exact fun z => k76 ⟨rfl, z.2⟩
          · refine xv (x_aload_n 67 d_X4_findTickByTick_66 rfl rfl) ?_
            refine xv (x_aload_n 68 d_X4_findTickByTick_67 rfl rfl) ?_
            refine xv (x_getfield 71 d_X4_findTickByTick_68 rfl f_4_73 (Nat.le_of_ble_eq_true rfl) (Nat.le_of_ble_eq_true rfl) (q_gf_of d3 rfl)) ?_
            refine xv (x_iload 73 d_X4_findTickByTick_71 rfl rfl) ?_
            refine xv (x_inv1 76 (as := [Value.int (zi y), Value.int (zi i)]) d_X4_findTickByTick_73 rfl c_4_66 rfl (Nat.le_of_ble_eq_true rfl) (Nat.le_of_ble_eq_true rfl) d3 (Nat.le_of_ble_eq_true rfl) (Nat.le_of_ble_eq_true rfl) rfl (S_X4_canEndAt w3 hR d3 (by omega) hgt (by omega) (by omega) (by omega) (by omega))) ?_
            show Xv E q_m_X4_findTickByTick 76 [Value.ref (P'), Value.int (zi x), Value.int (zi y), Value.long x49, Value.null, Value.int (zi (l 7)), Value.int (zi i)] [Value.int (zi (bI (y = y ∧ (gtu l x y) < i)))] h3 Q
            refine v_if_eq 82 79 d_X4_findTickByTick_76 rfl rfl (by have := bI_r (y = y ∧ (gtu l x y) < i); omega) (by have := bI_r (y = y ∧ (gtu l x y) < i); omega) (fun k76 => ?_) (fun k76 => ?_)
            · replace k76 := bI_0.mp k76
              refine xv (x_iinc 85 d_X4_findTickByTick_82 rfl rfl) ?_
              show Xv E q_m_X4_findTickByTick 85 [Value.ref (P'), Value.int (zi x), Value.int (zi y), Value.long x49, Value.null, Value.int (zi (l 7)), Value.int (zi (i + 1))] [] h3 Q
              refine xv (x_goto 38 d_X4_findTickByTick_85 rfl) ?_
              refine ih38 _ (by omega) _ (i + 1) (by omega) (by omega) (by rw [show i + 1 - 1 = i by omega]; exact n49) (hv.trans (fnd_b (P := fun t => rea l x t.toNat y ∧ gtu l x y < t) (by omega) ?_)) rfl
              first | exact fun z => (bt_t (by omega) (by omega)).mp k63 ((n49 y hy.1 (by omega)).mpr z.1) | exact fun z => k76 ⟨rfl, z.2⟩
            · replace k76 := bI_n0.mp k76
              refine xv (x_iload 81 d_X4_findTickByTick_79 rfl rfl) ?_
              refine xv_r (x_ireturn d_X4_findTickByTick_81 rfl rfl) ?_
              have ev : fT l x y = i := hv.trans (fnd_h (P := fun t => rea l x t.toNat y ∧ gtu l x y < t) (by omega) ⟨(n49 y hy.1 (by omega)).mp (Classical.not_not.mp (fun z => k63 ((bt_t (by omega) (by omega)).mpr z))), k76.2⟩)
              exact hQ _ _ ⟨by rw [ev], _, _, ⟨w3, d3, m3⟩, f3⟩
    exact L38 _ _ 1 (by omega) (by omega) (fun c c0 c1 => bt_sh (by omega) (by omega) c0 c1) (by unfold fT; rw [show l 7 + 1 - 1 = l 7 by omega]) rfl
  · replace k6 := bI_0.mp k6
    refine xv (x_iconst 10 d_X4_findTickByTick_9 rfl) ?_
    refine xv_r (x_ireturn d_X4_findTickByTick_10 rfl rfl) ?_
    have ev : fT l x y = -1 := fnd_no (fun t a b c => by omega)
    exact hQ _ _ ⟨by rw [ev], _, _, ⟨w3, d3, m3⟩, f3⟩
end CR2
