/-! distances: the robot that suits, tours (printed by program) -/
abbrev btr (l : Int → Int) (r f b s : Int) : Prop := (¬ f = s ∧ f < s) ∨ (f = s ∧ rb l b 1 < rb l r 1)
abbrev brC (l : Int → Int) (g k b s : Int) : Prop := rb l k 2 = -1 ∧ ¬ far l (rb l k 0) g = -1 ∧ (b = -1 ∨ btr l k (far l (rb l k 0) g) b s)
/-- the robot that suits a cell best so far -/
def brf (l : Int → Int) (g : Int) : Nat → Int → Int → Int → Int
  | 0, _, b, _ => b
  | n + 1, k, b, s => if brC l g k b s then brf l g n (k + 1) k (far l (rb l k 0) g) else brf l g n (k + 1) b s
/-- how far the nearest station is -/
def nst (l : Int → Int) (a : Int) : Int := lpI (fun k x => if l (8 + k) = 3 ∧ ¬ far l a k = -1 ∧ (x = -1 ∨ far l a k < x) then far l a k else x) (cs l).toNat 0 (-1)
/-- the rest of a tour -/
def thr (l f : Int → Int) : Nat → Int → Int → Int → Int
  | 0, _, here, sum => if nst l here = -1 then -1 else sum + nst l here
  | n + 1, i, here, sum => if far l here (f (5 + i)) = -1 then -1 else thr l f n (i + 1) (f (5 + i)) (sum + far l here (f (5 + i)))
section CE
variable {E : q_E} {h h' : q_H} {w v a b t N k d : Nat} {l lo f g c q : Int → Int} {p p2 pk : Int → Nat} {n R C z r tr tc : Int} {to : Int64}
theorem brf_b {g n k b s : Int} (h : k < n) : brf l g (n - k).toNat k b s = if brC l g k b s then brf l g (n - (k + 1)).toNat (k + 1) k (far l (rb l k 0) g) else brf l g (n - (k + 1)).toNat (k + 1) b s := by
  rw [show (n - k).toNat = (n - (k + 1)).toNat + 1 by omega]; rfl
theorem brf_e {g n k b s : Int} (h : n ≤ k) : brf l g (n - k).toNat k b s = b := by
  rw [show (n - k).toNat = 0 by omega]; rfl
theorem thr_b {n i x sum : Int} (h : i < n) : thr l f (n - i).toNat i x sum = if far l x (f (5 + i)) = -1 then -1 else thr l f (n - (i + 1)).toNat (i + 1) (f (5 + i)) (sum + far l x (f (5 + i))) := by
  rw [show (n - i).toNat = (n - (i + 1)).toNat + 1 by omega]; rfl
theorem thr_e {n i x sum : Int} (h : n ≤ i) : thr l f (n - i).toNat i x sum = if nst l x = -1 then -1 else sum + nst l x := by
  rw [show (n - i).toNat = 0 by omega]; rfl
theorem S_X0_isBetter (hW : WH h w l p) (hR : RgC l) (hD : DSo h d w tr tc to) (hq : AI h (d + 1) 0 48 q) (hS : AI h (d + 2) 0 48 f) (sp : d + 54 ≤ w ∨ w + 38 ≤ d) {r x b y : Int} (hx : isR l r) (hy : isR l b) (x0 : -2147483648 ≤ x) (x1 : x < 2147483648) (y0 : -2147483648 ≤ y) (y1 : y < 2147483648) : q_cl E q_m_X0_isBetter [Value.ref d, Value.int (zi r), Value.int (zi x), Value.int (zi b), Value.int (zi y)] h = some (.inl (some (Value.int (zi (bI (btr l r x b y))))), h) := by
  suffices K : ∀ Q : q_R → q_H → Prop, Q (.inl (some (Value.int (zi (bI (btr l r x b y)))))) h → Xv E q_m_X0_isBetter 0 [Value.ref d, Value.int (zi r), Value.int (zi x), Value.int (zi b), Value.int (zi y)] [] h Q by
    obtain ⟨r_, g_, a_, b_, c_⟩ := K (fun r_ g_ => r_ = .inl (some (Value.int (zi (bI (btr l r x b y))))) ∧ g_ = h) ⟨rfl, rfl⟩
    subst b_; subst c_; exact a_
  intro Q hQ
  obtain ⟨g0, g1, g2, g3, g4, gc, g5, g6, g7, gk, gl, gr, go⟩ := id hR
  refine xv (x_iload_n 1 d_X0_isBetter_0 rfl rfl) ?_
  refine xv (x_iload 3 d_X0_isBetter_1 rfl rfl) ?_
  refine v_icmp_eq 18 6 d_X0_isBetter_3 rfl rfl (by omega) (by omega) (by omega) (by omega) (fun k3 => ?_) (fun k3 => ?_)
  · refine xv (x_aload_n 19 d_X0_isBetter_18 rfl rfl) ?_
    refine xv (x_getfield 22 d_X0_isBetter_19 rfl f_0_9 (Nat.le_of_ble_eq_true rfl) (Nat.le_of_ble_eq_true rfl) (q_gf_of hD rfl)) ?_
    refine xv (x_getfield 25 d_X0_isBetter_22 rfl f_0_64 (Nat.le_of_ble_eq_true rfl) (Nat.le_of_ble_eq_true rfl) (q_gf_of (wh_o hW) rfl)) ?_
    refine xv (x_iload_n 26 d_X0_isBetter_25 rfl rfl) ?_
    refine xv (x_aaload 27 d_X0_isBetter_26 rfl (wh_rs hW (by omega) (by omega))) ?_
    refine xv (x_getfield 30 d_X0_isBetter_27 rfl f_0_84 (Nat.le_of_ble_eq_true rfl) (Nat.le_of_ble_eq_true rfl) (q_gf_of (wh_r hW (by omega) (by omega)).1 rfl)) ?_
    have q27 := gr r (by omega) (by omega)
    refine xv (x_aload_n 31 d_X0_isBetter_30 rfl rfl) ?_
    refine xv (x_getfield 34 d_X0_isBetter_31 rfl f_0_9 (Nat.le_of_ble_eq_true rfl) (Nat.le_of_ble_eq_true rfl) (q_gf_of hD rfl)) ?_
    refine xv (x_getfield 37 d_X0_isBetter_34 rfl f_0_64 (Nat.le_of_ble_eq_true rfl) (Nat.le_of_ble_eq_true rfl) (q_gf_of (wh_o hW) rfl)) ?_
    refine xv (x_iload_n 38 d_X0_isBetter_37 rfl rfl) ?_
    refine xv (x_aaload 39 d_X0_isBetter_38 rfl (wh_rs hW (by omega) (by omega))) ?_
    refine xv (x_getfield 42 d_X0_isBetter_39 rfl f_0_84 (Nat.le_of_ble_eq_true rfl) (Nat.le_of_ble_eq_true rfl) (q_gf_of (wh_r hW (by omega) (by omega)).1 rfl)) ?_
    have q39 := gr b (by omega) (by omega)
    refine v_icmp_le 49 45 d_X0_isBetter_42 rfl rfl (by omega) (by omega) (by omega) (by omega) (fun k42 => ?_) (fun k42 => ?_)
    · refine xv (x_iconst 50 d_X0_isBetter_49 rfl) ?_
      refine xv_r (x_ireturn d_X0_isBetter_50 rfl rfl) ?_
      refine lq hQ ?_
      exact (bI_f (by omega)).symm
    · refine xv (x_iconst 46 d_X0_isBetter_45 rfl) ?_
      refine xv (x_goto 50 d_X0_isBetter_46 rfl) ?_
      refine xv_r (x_ireturn d_X0_isBetter_50 rfl rfl) ?_
      refine lq hQ ?_
      exact (bI_t (by omega)).symm
  · refine xv (x_iload_n 7 d_X0_isBetter_6 rfl rfl) ?_
    refine xv (x_iload 9 d_X0_isBetter_7 rfl rfl) ?_
    refine v_icmp_ge 16 12 d_X0_isBetter_9 rfl rfl (by omega) (by omega) (by omega) (by omega) (fun k9 => ?_) (fun k9 => ?_)
    · refine xv (x_iconst 17 d_X0_isBetter_16 rfl) ?_
      refine xv_r (x_ireturn d_X0_isBetter_17 rfl rfl) ?_
      refine lq hQ ?_
      exact (bI_f (by omega)).symm
    · refine xv (x_iconst 13 d_X0_isBetter_12 rfl) ?_
      refine xv (x_goto 17 d_X0_isBetter_13 rfl) ?_
      refine xv_r (x_ireturn d_X0_isBetter_17 rfl rfl) ?_
      refine lq hQ ?_
      exact (bI_t (by omega)).symm
theorem S_X0_bestRobotFor {g : Int} (hg : isC l g) (hW : WH h w l p) (hR : RgC l) (hD : DSo h d w tr tc to) (hq : AI h (d + 1) 0 48 q) (hS : AI h (d + 2) 0 48 f) (sp : d + 54 ≤ w ∨ w + 38 ≤ d) : ∃ r_ h', q_cl E q_m_X0_bestRobotFor [Value.ref d, Value.int (zi g)] h = some (r_, h') ∧ (r_ = .inl (some (.int (zi (brf l g (l 3).toNat 0 (-1) (-1))))) ∧ ∃ q' f', (WH h' w l p ∧ DSo h' d w tr tc to ∧ AI h' (d + 1) 0 48 q' ∧ AI h' (d + 2) 0 48 f') ∧ Fr (d + 1) 2 h h') := by
  suffices K : ∀ Q : q_R → q_H → Prop, (∀ r_ h', (r_ = .inl (some (.int (zi (brf l g (l 3).toNat 0 (-1) (-1))))) ∧ ∃ q' f', (WH h' w l p ∧ DSo h' d w tr tc to ∧ AI h' (d + 1) 0 48 q' ∧ AI h' (d + 2) 0 48 f') ∧ Fr (d + 1) 2 h h') → Q r_ h') → Xv E q_m_X0_bestRobotFor 0 [Value.ref d, Value.int (zi g), Value.null, Value.null, Value.null, Value.null] [] h Q from K _ fun _ _ p => p
  intro Q hQ
  obtain ⟨g0, g1, g2, g3, g4, gc, g5, g6, g7, gk, gl, gr, go⟩ := id hR
  refine xv (x_iconst 1 d_X0_bestRobotFor_0 rfl) ?_
  refine xv (x_istore_n 2 d_X0_bestRobotFor_1 rfl (Nat.le_of_ble_eq_true rfl)) ?_
  show Xv E q_m_X0_bestRobotFor 2 [Value.ref d, Value.int (zi g), Value.int (zi (-1)), Value.null, Value.null, Value.null] [] h Q
  refine xv (x_iconst 3 d_X0_bestRobotFor_2 rfl) ?_
  refine xv (x_istore_n 4 d_X0_bestRobotFor_3 rfl (Nat.le_of_ble_eq_true rfl)) ?_
  show Xv E q_m_X0_bestRobotFor 4 [Value.ref d, Value.int (zi g), Value.int (zi (-1)), Value.int (zi (-1)), Value.null, Value.null] [] h Q
  refine xv (x_iconst 5 d_X0_bestRobotFor_4 rfl) ?_
  refine xv (x_istore 7 d_X0_bestRobotFor_5 rfl (Nat.le_of_ble_eq_true rfl)) ?_
  show Xv E q_m_X0_bestRobotFor 7 [Value.ref d, Value.int (zi g), Value.int (zi (-1)), Value.int (zi (-1)), Value.int (zi 0), Value.null] [] h Q
  have L7 : ∀ (n_ : Nat) (b : Int) (y : Int) (i : Int) (x5 : Value) (q2 : Int → Int) (f2 : Int → Int) (H : q_H), (0 ≤ i) → (i ≤ l 3) → (b = -1 ∨ (0 ≤ b ∧ b < i)) → (-1 ≤ y ∧ y < 48) → (WH H w l p) → (DSo H d w tr tc to) → (AI H (d + 1) 0 48 q2) → (AI H (d + 2) 0 48 f2) → (Fr (d + 1) 2 h H) → (brf l g (l 3).toNat 0 (-1) (-1) = brf l g (l 3 - i).toNat i b y) → (l 3 - i).toNat = n_ → Xv E q_m_X0_bestRobotFor 7 [Value.ref d, Value.int (zi g), Value.int (zi b), Value.int (zi y), Value.int (zi i), x5] [] H Q := by
    intro n_
    induction n_ using Nat.strongRecOn with
    | _ n_ ih7 =>
      intro b y i x5 q2 f2 H i0 i1 b0 y0 hW2 hD2 hq2 hS2 hF2 hv em
      refine xv (x_aload_n 8 d_X0_bestRobotFor_7 rfl rfl) ?_
      refine xv (x_getfield 11 d_X0_bestRobotFor_8 rfl f_0_9 (Nat.le_of_ble_eq_true rfl) (Nat.le_of_ble_eq_true rfl) (q_gf_of hD2 rfl)) ?_
      refine xv (x_iload 13 d_X0_bestRobotFor_11 rfl rfl) ?_
      refine xv (x_inv1 16 (as := [Value.int (zi i)]) d_X0_bestRobotFor_13 rfl c_0_61 rfl (Nat.le_of_ble_eq_true rfl) (Nat.le_of_ble_eq_true rfl) (wh_o hW2) (Nat.le_of_ble_eq_true rfl) (Nat.le_of_ble_eq_true rfl) rfl (S_X6_isRobot hW2 hR (by omega) (by omega))) ?_
      show Xv E q_m_X0_bestRobotFor 16 [Value.ref d, Value.int (zi g), Value.int (zi b), Value.int (zi y), Value.int (zi i), x5] [Value.int (zi (bI (isR l i)))] H Q
      refine v_if_eq 102 19 d_X0_bestRobotFor_16 rfl rfl (by have := bI_r (isR l i); omega) (by have := bI_r (isR l i); omega) (fun k16 => ?_) (fun k16 => ?_)
      · replace k16 := bI_0.mp k16
        refine xv (x_iload_n 103 d_X0_bestRobotFor_102 rfl rfl) ?_
        refine xv_r (x_ireturn d_X0_bestRobotFor_103 rfl rfl) ?_
        have lvx : b = brf l g (l 3).toNat 0 (-1) (-1) := (brf_e (by omega)).symm.trans hv.symm
        exact hQ _ _ ⟨by rw [lvx], _, _, ⟨hW2, hD2, hq2, hS2⟩, hF2⟩
      · replace k16 := bI_n0.mp k16
        refine xv (x_iload 21 d_X0_bestRobotFor_19 rfl rfl) ?_
        refine xv (x_bipush 23 d_X0_bestRobotFor_21 rfl rfl) ?_
        refine v_icmp_ge 102 26 d_X0_bestRobotFor_23 rfl rfl (by omega) (by omega) (by omega) (by omega) (fun k23 => ?_) (fun k23 => ?_)
        · refine xv (x_iload_n 103 d_X0_bestRobotFor_102 rfl rfl) ?_
          refine xv_r (x_ireturn d_X0_bestRobotFor_103 rfl rfl) ?_
          have lvx : b = brf l g (l 3).toNat 0 (-1) (-1) := (brf_e (by omega)).symm.trans hv.symm
          exact hQ _ _ ⟨by rw [lvx], _, _, ⟨hW2, hD2, hq2, hS2⟩, hF2⟩
        · refine xv (x_aload_n 27 d_X0_bestRobotFor_26 rfl rfl) ?_
          refine xv (x_getfield 30 d_X0_bestRobotFor_27 rfl f_0_9 (Nat.le_of_ble_eq_true rfl) (Nat.le_of_ble_eq_true rfl) (q_gf_of hD2 rfl)) ?_
          refine xv (x_getfield 33 d_X0_bestRobotFor_30 rfl f_0_64 (Nat.le_of_ble_eq_true rfl) (Nat.le_of_ble_eq_true rfl) (q_gf_of (wh_o hW2) rfl)) ?_
          refine xv (x_iload 35 d_X0_bestRobotFor_33 rfl rfl) ?_
          refine xv (x_aaload 36 d_X0_bestRobotFor_35 rfl (wh_rs hW2 (by omega) (by omega))) ?_
          refine xv (x_getfield 39 d_X0_bestRobotFor_36 rfl f_0_68 (Nat.le_of_ble_eq_true rfl) (Nat.le_of_ble_eq_true rfl) (q_gf_of (wh_r hW2 (by omega) (by omega)).1 rfl)) ?_
          have q36 := gr i (by omega) (by omega)
          refine xv (x_iconst 40 d_X0_bestRobotFor_39 rfl) ?_
          refine v_icmp_eq 46 43 d_X0_bestRobotFor_40 rfl rfl (by omega) (by omega) (by omega) (by omega) (fun k40 => ?_) (fun k40 => ?_)
          · refine xv (x_aload_n 47 d_X0_bestRobotFor_46 rfl rfl) ?_
            refine xv (x_aload_n 48 d_X0_bestRobotFor_47 rfl rfl) ?_
            refine xv (x_getfield 51 d_X0_bestRobotFor_48 rfl f_0_9 (Nat.le_of_ble_eq_true rfl) (Nat.le_of_ble_eq_true rfl) (q_gf_of hD2 rfl)) ?_
            refine xv (x_getfield 54 d_X0_bestRobotFor_51 rfl f_0_64 (Nat.le_of_ble_eq_true rfl) (Nat.le_of_ble_eq_true rfl) (q_gf_of (wh_o hW2) rfl)) ?_
            refine xv (x_iload 56 d_X0_bestRobotFor_54 rfl rfl) ?_
            refine xv (x_aaload 57 d_X0_bestRobotFor_56 rfl (wh_rs hW2 (by omega) (by omega))) ?_
            refine xv (x_getfield 60 d_X0_bestRobotFor_57 rfl f_0_74 (Nat.le_of_ble_eq_true rfl) (Nat.le_of_ble_eq_true rfl) (q_gf_of (wh_r hW2 (by omega) (by omega)).1 rfl)) ?_
            have q57 := gr i (by omega) (by omega)
            refine xv (x_iload_n 61 d_X0_bestRobotFor_60 rfl rfl) ?_
            obtain ⟨r61, h61, e61, z61, q61, s61, ⟨w61, d61, m61, t61⟩, f61⟩ := S_X0_between (E := E) (a := (rb l i 0)) (b := g) (by omega) (by omega) hW2 hR hD2 hq2 hS2 (by omega)
            subst z61
            have F61 : Fr (d + 1) 2 h h61 := fr_tr hF2 (fr_in f61 (by omega) (by omega))
            refine xv (x_inv1 64 (as := [Value.int (zi (rb l i 0)), Value.int (zi g)]) d_X0_bestRobotFor_61 rfl c_0_77 rfl (Nat.le_of_ble_eq_true rfl) (Nat.le_of_ble_eq_true rfl) hD2 (Nat.le_of_ble_eq_true rfl) (Nat.le_of_ble_eq_true rfl) rfl e61) ?_
            have y61 := far_r hR (show isC l (rb l i 0) by omega) g
            show Xv E q_m_X0_bestRobotFor 64 [Value.ref d, Value.int (zi g), Value.int (zi b), Value.int (zi y), Value.int (zi i), x5] [Value.int (zi (far l (rb l i 0) g))] h61 Q
            refine xv (x_istore 66 d_X0_bestRobotFor_64 rfl (Nat.le_of_ble_eq_true rfl)) ?_
            show Xv E q_m_X0_bestRobotFor 66 [Value.ref d, Value.int (zi g), Value.int (zi b), Value.int (zi y), Value.int (zi i), Value.int (zi (far l (rb l i 0) g))] [] h61 Q
            refine xv (x_iload 68 d_X0_bestRobotFor_66 rfl rfl) ?_
            refine xv (x_iconst 69 d_X0_bestRobotFor_68 rfl) ?_
            refine v_icmp_eq 96 72 d_X0_bestRobotFor_69 rfl rfl (by omega) (by omega) (by omega) (by omega) (fun k69 => ?_) (fun k69 => ?_)
            · refine xv (x_iinc 99 d_X0_bestRobotFor_96 rfl rfl) ?_
              show Xv E q_m_X0_bestRobotFor 99 [Value.ref d, Value.int (zi g), Value.int (zi b), Value.int (zi y), Value.int (zi (i + 1)), Value.int (zi (far l (rb l i 0) g))] [] h61 Q
              refine xv (x_goto 7 d_X0_bestRobotFor_99 rfl) ?_
              refine ih7 _ (by omega) _ _ (i + 1) _ _ _ _ (by omega) (by omega) (by omega) (by omega) w61 d61 m61 t61 F61 ?_ rfl
              rw [hv, brf_b (by omega)]
              first | exact if_pos (by first | omega | exact ⟨by omega, by omega, .inr k87⟩ | exact ⟨by omega, by omega, .inl (by omega)⟩) | exact if_neg (by first | omega | exact fun z => k87 (z.2.2.resolve_left (by omega)))
            · refine xv (x_iload_n 73 d_X0_bestRobotFor_72 rfl rfl) ?_
              refine xv (x_iconst 74 d_X0_bestRobotFor_73 rfl) ?_
              refine v_icmp_eq 90 77 d_X0_bestRobotFor_74 rfl rfl (by omega) (by omega) (by omega) (by omega) (fun k74 => ?_) (fun k74 => ?_)
              · refine xv (x_iload 92 d_X0_bestRobotFor_90 rfl rfl) ?_
                refine xv (x_istore_n 93 d_X0_bestRobotFor_92 rfl (Nat.le_of_ble_eq_true rfl)) ?_
                show Xv E q_m_X0_bestRobotFor 93 [Value.ref d, Value.int (zi g), Value.int (zi i), Value.int (zi y), Value.int (zi i), Value.int (zi (far l (rb l i 0) g))] [] h61 Q
                refine xv (x_iload 95 d_X0_bestRobotFor_93 rfl rfl) ?_
                refine xv (x_istore_n 96 d_X0_bestRobotFor_95 rfl (Nat.le_of_ble_eq_true rfl)) ?_
                show Xv E q_m_X0_bestRobotFor 96 [Value.ref d, Value.int (zi g), Value.int (zi i), Value.int (zi (far l (rb l i 0) g)), Value.int (zi i), Value.int (zi (far l (rb l i 0) g))] [] h61 Q
                refine xv (x_iinc 99 d_X0_bestRobotFor_96 rfl rfl) ?_
                show Xv E q_m_X0_bestRobotFor 99 [Value.ref d, Value.int (zi g), Value.int (zi i), Value.int (zi (far l (rb l i 0) g)), Value.int (zi (i + 1)), Value.int (zi (far l (rb l i 0) g))] [] h61 Q
                refine xv (x_goto 7 d_X0_bestRobotFor_99 rfl) ?_
                refine ih7 _ (by omega) _ _ (i + 1) _ _ _ _ (by omega) (by omega) (by omega) (by omega) w61 d61 m61 t61 F61 ?_ rfl
                rw [hv, brf_b (by omega)]
                first | exact if_pos (by first | omega | exact ⟨by omega, by omega, .inr k87⟩ | exact ⟨by omega, by omega, .inl (by omega)⟩) | exact if_neg (by first | omega | exact fun z => k87 (z.2.2.resolve_left (by omega)))
              · refine xv (x_aload_n 78 d_X0_bestRobotFor_77 rfl rfl) ?_
                refine xv (x_iload 80 d_X0_bestRobotFor_78 rfl rfl) ?_
                refine xv (x_iload 82 d_X0_bestRobotFor_80 rfl rfl) ?_
                refine xv (x_iload_n 83 d_X0_bestRobotFor_82 rfl rfl) ?_
                refine xv (x_iload_n 84 d_X0_bestRobotFor_83 rfl rfl) ?_
                refine xv (x_inv1 87 (as := [Value.int (zi i), Value.int (zi (far l (rb l i 0) g)), Value.int (zi b), Value.int (zi y)]) d_X0_bestRobotFor_84 rfl c_0_80 rfl (Nat.le_of_ble_eq_true rfl) (Nat.le_of_ble_eq_true rfl) d61 (Nat.le_of_ble_eq_true rfl) (Nat.le_of_ble_eq_true rfl) rfl (S_X0_isBetter w61 hR d61 m61 t61 (by omega) (by omega) (by omega) (by omega) (by omega) (by omega) (by omega))) ?_
                show Xv E q_m_X0_bestRobotFor 87 [Value.ref d, Value.int (zi g), Value.int (zi b), Value.int (zi y), Value.int (zi i), Value.int (zi (far l (rb l i 0) g))] [Value.int (zi (bI (btr l i (far l (rb l i 0) g) b y)))] h61 Q
                refine v_if_eq 96 90 d_X0_bestRobotFor_87 rfl rfl (by have := bI_r (btr l i (far l (rb l i 0) g) b y); omega) (by have := bI_r (btr l i (far l (rb l i 0) g) b y); omega) (fun k87 => ?_) (fun k87 => ?_)
                · replace k87 := bI_0.mp k87
                  refine xv (x_iinc 99 d_X0_bestRobotFor_96 rfl rfl) ?_
                  show Xv E q_m_X0_bestRobotFor 99 [Value.ref d, Value.int (zi g), Value.int (zi b), Value.int (zi y), Value.int (zi (i + 1)), Value.int (zi (far l (rb l i 0) g))] [] h61 Q
                  refine xv (x_goto 7 d_X0_bestRobotFor_99 rfl) ?_
                  refine ih7 _ (by omega) _ _ (i + 1) _ _ _ _ (by omega) (by omega) (by omega) (by omega) w61 d61 m61 t61 F61 ?_ rfl
                  rw [hv, brf_b (by omega)]
                  first | exact if_pos (by first | omega | exact ⟨by omega, by omega, .inr k87⟩ | exact ⟨by omega, by omega, .inl (by omega)⟩) | exact if_neg (by first | omega | exact fun z => k87 (z.2.2.resolve_left (by omega)))
                · replace k87 := bI_n0.mp k87
                  refine xv (x_iload 92 d_X0_bestRobotFor_90 rfl rfl) ?_
                  refine xv (x_istore_n 93 d_X0_bestRobotFor_92 rfl (Nat.le_of_ble_eq_true rfl)) ?_
                  show Xv E q_m_X0_bestRobotFor 93 [Value.ref d, Value.int (zi g), Value.int (zi i), Value.int (zi y), Value.int (zi i), Value.int (zi (far l (rb l i 0) g))] [] h61 Q
                  refine xv (x_iload 95 d_X0_bestRobotFor_93 rfl rfl) ?_
                  refine xv (x_istore_n 96 d_X0_bestRobotFor_95 rfl (Nat.le_of_ble_eq_true rfl)) ?_
                  show Xv E q_m_X0_bestRobotFor 96 [Value.ref d, Value.int (zi g), Value.int (zi i), Value.int (zi (far l (rb l i 0) g)), Value.int (zi i), Value.int (zi (far l (rb l i 0) g))] [] h61 Q
                  refine xv (x_iinc 99 d_X0_bestRobotFor_96 rfl rfl) ?_
                  show Xv E q_m_X0_bestRobotFor 99 [Value.ref d, Value.int (zi g), Value.int (zi i), Value.int (zi (far l (rb l i 0) g)), Value.int (zi (i + 1)), Value.int (zi (far l (rb l i 0) g))] [] h61 Q
                  refine xv (x_goto 7 d_X0_bestRobotFor_99 rfl) ?_
                  refine ih7 _ (by omega) _ _ (i + 1) _ _ _ _ (by omega) (by omega) (by omega) (by omega) w61 d61 m61 t61 F61 ?_ rfl
                  rw [hv, brf_b (by omega)]
                  first | exact if_pos (by first | omega | exact ⟨by omega, by omega, .inr k87⟩ | exact ⟨by omega, by omega, .inl (by omega)⟩) | exact if_neg (by first | omega | exact fun z => k87 (z.2.2.resolve_left (by omega)))
          · refine xv (x_goto 96 d_X0_bestRobotFor_43 rfl) ?_
            refine xv (x_iinc 99 d_X0_bestRobotFor_96 rfl rfl) ?_
            show Xv E q_m_X0_bestRobotFor 99 [Value.ref d, Value.int (zi g), Value.int (zi b), Value.int (zi y), Value.int (zi (i + 1)), x5] [] H Q
            refine xv (x_goto 7 d_X0_bestRobotFor_99 rfl) ?_
            refine ih7 _ (by omega) _ _ (i + 1) _ _ _ _ (by omega) (by omega) (by omega) (by omega) hW2 hD2 hq2 hS2 hF2 ?_ rfl
            rw [hv, brf_b (by omega)]
            first | exact if_pos (by first | omega | exact ⟨by omega, by omega, .inr k87⟩ | exact ⟨by omega, by omega, .inl (by omega)⟩) | exact if_neg (by first | omega | exact fun z => k87 (z.2.2.resolve_left (by omega)))
  exact L7 _ (-1) (-1) 0 _ _ _ _ (by omega) (by omega) (by omega) (by omega) hW hD hq hS fr_rf (by rw [Int.sub_zero]) rfl
theorem nst_r {l : Int → Int} {a : Int} (hR : RgC l) (h : isC l a) : -1 ≤ nst l a ∧ nst l a < 48 := by
  have key : ∀ (n : Nat) (k x : Int), -1 ≤ x ∧ x < 48 → -1 ≤ lpI (fun k x => if l (8 + k) = 3 ∧ ¬ far l a k = -1 ∧ (x = -1 ∨ far l a k < x) then far l a k else x) n k x ∧ lpI (fun k x => if l (8 + k) = 3 ∧ ¬ far l a k = -1 ∧ (x = -1 ∨ far l a k < x) then far l a k else x) n k x < 48 := by
    intro n
    induction n with
    | zero => exact fun k x hx => hx
    | succ n ih =>
      intro k x hx
      refine ih (k + 1) _ ?_
      have := (far_r hR h k).1
      dsimp only
      split <;> omega
  exact key _ _ _ (by omega)
end CE
