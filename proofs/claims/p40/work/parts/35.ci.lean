/-! the class: a robot dropped; history (printed by program) -/
/-- a warehouse while its row of robots is being moved: pk is what the row holds -/
def WQ (h : q_H) (w : Nat) (l : Int → Int) (p pk : Int → Nat) : Prop :=
  PM w p ∧ h.1 w = some (.inr (6, [.int (zi (l 0)), .int (zi (l 1)), .int (zi (l 2)), .int (zi (l 3)), .int (zi (l 4)), .ref (w + 1), .ref (w + 2), .ref (w + 3), .ref (w + 16), .ref (w + 37)])) ∧
  AI h (w + 1) 0 48 (fun k => l (8 + k)) ∧ AI h (w + 2) 2 48 (fun k => l (56 + k)) ∧ AI h (w + 37) 0 3 (fun k => l (5 + k)) ∧
  (∃ g : Nat → Option Nat, h.1 (w + 3) = some (.inl (5, 6, .inr (.inr (.inr (.inr g))))) ∧ ∀ r : Nat, r < 6 → g r = some (pk r)) ∧
  (∃ g : Nat → Option Nat, h.1 (w + 16) = some (.inl (6, 10, .inr (.inr (.inr (.inr g))))) ∧ ∀ o : Nat, o < 10 → g o = some (oa w o)) ∧
  (∀ r, 0 ≤ r → r < 6 → RB h (p r) (rb l r)) ∧ ∀ o, 0 ≤ o → o < 10 → OB h (oa w o) (ob l o)
def upP (pk : Int → Nat) (k : Int) (v : Nat) : Int → Nat := fun i => if i = k then v else pk i
theorem q_sQ_of {h : q_H} {a v n : Nat} {f : Nat → Option Nat} {fs : List Value} {z : Int} (ha : h.1 a = some (.inl (5, n, .inr (.inr (.inr (.inr f)))))) (hv : h.1 v = some (.inr (5, fs))) (h1 : 0 ≤ z) (h2 : z < n) (hn : n < 2147483648) : q_sQ h a (zi z) v = some (q_up h a (.inl (5, n, .inr (.inr (.inr (.inr (va_up f z.toNat (some v)))))))) := by
  unfold q_sQ
  rw [ha, hv]
  simp only
  rw [if_pos ⟨⟨Nat.le_refl 5, by decide⟩, rfl, zi_in h1 h2 hn⟩, zi_nat h1 (by omega)]
section CI
variable {E : q_E} {h h' : q_H} {w v a b t N k : Nat} {l lo f g c : Int → Int} {p p2 pk : Int → Nat} {n R C z r : Int}
theorem wq_o (H : WQ h w l p pk) : h.1 w = some (.inr (6, [.int (zi (l 0)), .int (zi (l 1)), .int (zi (l 2)), .int (zi (l 3)), .int (zi (l 4)), .ref (w + 1), .ref (w + 2), .ref (w + 3), .ref (w + 16), .ref (w + 37)])) := H.2.1
theorem wq_rs (H : WQ h w l p pk) (h1 : 0 ≤ z) (h2 : z < 6) : q_gQ h (w + 3) (zi z) = some (.ref (pk z)) := by
  obtain ⟨g, e, k⟩ := H.2.2.2.2.2.1
  have := k z.toNat (by omega)
  rw [Int.toNat_of_nonneg h1] at this
  exact q_gQ_of e (by omega) h1 h2 (by decide) this
theorem wq_s (H : WQ h w l p pk) (h1 : 0 ≤ z) (h2 : z < 6) (h3 : 0 ≤ r) (h4 : r < 6) : ∃ h', q_sQ h (w + 3) (zi z) (p r) = some h' ∧ WQ h' w l p (upP pk z (p r)) ∧ Fr w 38 h h' := by
  obtain ⟨k0, k1, k2, k3, k4, ⟨g, k5, k5'⟩, ⟨g', k6, k6'⟩, k7, k8⟩ := H
  have F : Fr (w + 3) 1 h (q_up h (w + 3) (.inl (5, 6, .inr (.inr (.inr (.inr (va_up g z.toNat (some (p r))))))))) := fr_up
  refine ⟨_, q_sQ_of k5 (k7 r h3 h4).1 h1 h2 (by decide), ⟨k0, (F.2 _ (by omega)).trans k1, ai_fr k2 F (by omega), ai_fr k3 F (by omega), ai_fr k4 F (by omega), ⟨_, q_up_eq, fun i hi => ?_⟩, ⟨g', (F.2 _ (by omega)).trans k6, k6'⟩, fun r' j1 j2 => ?_, fun o' j1 j2 => ?_⟩, fr_in F (by omega) (by omega)⟩
  · show (if i = z.toNat then some (p r) else g i) = some (if (i : Int) = z then p r else pk i)
    by_cases q : i = z.toNat
    · rw [if_pos q, if_pos (by omega)]
    · rw [if_neg q, if_neg (by omega), k5' i hi]
  · have := wh_pb k0 j1 j2
    exact rb_fr (k7 r' j1 j2) F (by omega)
  · have := oa_b (w := w) j1 j2
    exact ob_fr (k8 o' j1 j2) F (by omega)
theorem wq_pf3 (H : WQ h w l p pk) {v : Int} : ∃ h', q_pf h w 6 3 (.int (zi v)) = some h' ∧ WQ h' w (u1 l 3 v) p pk ∧ Fr w 38 h h' := by
  obtain ⟨k0, k1, k2, k3, k4, ⟨g, k5, k5'⟩, ⟨g', k6, k6'⟩, k7, k8⟩ := H
  have F : Fr w 1 h (q_up h w (.inr (6, [.int (zi (l 0)), .int (zi (l 1)), .int (zi (l 2)), .int (zi (l 3)), .int (zi (l 4)), .ref (w + 1), .ref (w + 2), .ref (w + 3), .ref (w + 16), .ref (w + 37)].set 3 (.int (zi v))))) := fr_up
  refine ⟨_, q_pf_of k1 (Nat.le_of_ble_eq_true rfl), ⟨k0, q_up_eq, ai_cg (ai_fr k2 F (by omega)) fun i j1 j2 => (u1_ne (by omega)).symm, ai_cg (ai_fr k3 F (by omega)) fun i j1 j2 => (u1_ne (by omega)).symm, ai_cg (ai_fr k4 F (by omega)) fun i j1 j2 => (u1_ne (by omega)).symm, ⟨g, (F.2 _ (by omega)).trans k5, k5'⟩, ⟨g', (F.2 _ (by omega)).trans k6, k6'⟩, fun r' j1 j2 => ?_, fun o' j1 j2 => ?_⟩, fr_in F (by omega) (by omega)⟩
  · have := wh_pb k0 j1 j2
    exact rb_cg (rb_fr (k7 r' j1 j2) F (by omega)) (rb_u j1 j2 (by omega))
  · have := oa_b (w := w) j1 j2
    exact ob_cg (ob_fr (k8 o' j1 j2) F (by omega)) (ob_u j1 (by omega))
/-- the robots behind one move down a place, it goes last -/
def drp (p : Int → Nat) (r0 k : Int) : Int → Nat := fun r => if r0 ≤ r ∧ r < k then p (r + 1) else p r
/-- which robot of before stands at a place -/
def dsg (r0 n r : Int) : Int := if r < r0 ∨ n ≤ r then r else if r = n - 1 then r0 else r + 1
/-- the warehouse's row when robot r0 was dropped -/
def dro (l : Int → Int) (r0 : Int) : Int → Int := fun i => if i = 3 then l 3 - 1 else if 104 ≤ i ∧ i < 320 then l (104 + 36 * dsg r0 (l 3) ((i - 104) / 36) + (i - 104) % 36) else l i
theorem dro_r {r0 r k : Int} (a : 0 ≤ r) (b : r < 6) (c : 0 ≤ k) (d : k < 36) : rb (dro l r0) r k = rb l (dsg r0 (l 3) r) k := by
  show (if 104 + 36 * r + k = 3 then _ else if 104 ≤ 104 + 36 * r + k ∧ 104 + 36 * r + k < 320 then l (104 + 36 * dsg r0 (l 3) ((104 + 36 * r + k - 104) / 36) + (104 + 36 * r + k - 104) % 36) else _) = _
  rw [if_neg (by omega), if_pos (by omega), show (104 + 36 * r + k - 104) / 36 = r by omega, show (104 + 36 * r + k - 104) % 36 = k by omega]
  rfl
theorem dro_o {r0 i : Int} (h : ¬ i = 3) (k : i < 104 ∨ 320 ≤ i) : dro l r0 i = l i := by
  unfold dro
  rw [if_neg h, if_neg (by omega)]
theorem wq_end {r0 : Int} (H : WQ h w (u1 l 3 (l 3 - 1)) p pk) (h1 : isR l r0) (hs : l 3 ≤ 6) (hk : ∀ r, 0 ≤ r → r < 6 → pk r = p (dsg r0 (l 3) r)) : WH h w (dro l r0) pk := by
  obtain ⟨k0, k1, k2, k3, k4, ⟨g, k5, k5'⟩, ⟨g', k6, k6'⟩, k7, k8⟩ := H
  have hd (r : Int) (a : 0 ≤ r) (b : r < 6) : 0 ≤ dsg r0 (l 3) r ∧ dsg r0 (l 3) r < 6 := by
    unfold dsg
    repeat' split
    all_goals omega
  refine ⟨⟨fun r a b => ?_, fun r r' a b c d e => ?_⟩, ?_, ai_cg k2 fun i j1 j2 => ?_, ai_cg k3 fun i j1 j2 => ?_, ai_cg k4 fun i j1 j2 => ?_, ⟨g, k5, k5'⟩, ⟨g', k6, k6'⟩, fun r a b => ?_, fun o a b => ?_⟩
  · rw [hk r a b]
    exact k0.1 _ (hd r a b).1 (hd r a b).2
  · rw [hk r a b, hk r' c d] at e
    have := k0.2 _ _ (hd r a b).1 (hd r a b).2 (hd r' c d).1 (hd r' c d).2 e
    unfold dsg at this
    repeat' split at this
    all_goals omega
  · rw [k1, show dro l r0 0 = l 0 from dro_o (by omega) (by omega), show dro l r0 1 = l 1 from dro_o (by omega) (by omega), show dro l r0 2 = l 2 from dro_o (by omega) (by omega), show dro l r0 4 = l 4 from dro_o (by omega) (by omega), show dro l r0 3 = l 3 - 1 from rfl, u1_eq, u1_ne (by omega), u1_ne (by omega), u1_ne (by omega), u1_ne (by omega)]
  · rw [u1_ne (by omega), dro_o (by omega) (by omega)]
  · rw [u1_ne (by omega), dro_o (by omega) (by omega)]
  · rw [u1_ne (by omega), dro_o (by omega) (by omega)]
  · rw [hk r a b]
    refine rb_cg (k7 _ (hd r a b).1 (hd r a b).2) fun i c d => ?_
    rw [dro_r a b c d]
    exact u1_ne (i := 104 + 36 * dsg r0 (l 3) r + i) (by have := hd r a b; omega)
  · refine ob_cg (k8 o a b) fun i c d _ => ?_
    exact (u1_ne (i := 320 + 8 * o + i) (by omega)).trans (dro_o (i := 320 + 8 * o + i) (by omega) (by omega)).symm
theorem wh_wq (H : WH h w l p) : WQ h w l p p := H
theorem wq_cg {pk' : Int → Nat} (H : WQ h w l p pk) (e : ∀ i, 0 ≤ i → i < 6 → pk i = pk' i) : WQ h w l p pk' := by
  obtain ⟨k0, k1, k2, k3, k4, ⟨g, k5, k5'⟩, k6, k7, k8⟩ := H
  exact ⟨k0, k1, k2, k3, k4, ⟨g, k5, fun r hr => (k5' r hr).trans (congrArg some (e r (by omega) (by omega)))⟩, k6, k7, k8⟩
theorem drp_s {r0 k i : Int} (h : r0 ≤ k) : upP (drp p r0 k) k (p (k + 1)) i = drp p r0 (k + 1) i := by
  show (if i = k then p (k + 1) else if r0 ≤ i ∧ i < k then p (i + 1) else p i) = if r0 ≤ i ∧ i < k + 1 then p (i + 1) else p i
  by_cases q : i = k
  · subst q
    rw [if_pos rfl, if_pos (by omega)]
  · rw [if_neg q]
    by_cases q2 : r0 ≤ i ∧ i < k
    · rw [if_pos q2, if_pos (by omega)]
    · rw [if_neg q2, if_neg (by omega)]
theorem S_X6_dropRobot (hW : WH h w l p) (hR : RgC l) (h1 : isR l r) : ∃ r_ h', q_cl E q_m_X6_dropRobot [Value.ref w, Value.int (zi r)] h = some (r_, h') ∧ (r_ = .inl none ∧ ∃ p', WH h' w (dro l r) p' ∧ Fr w 38 h h') := by
  suffices K : ∀ Q : q_R → q_H → Prop, (∀ r_ h', (r_ = .inl none ∧ ∃ p', WH h' w (dro l r) p' ∧ Fr w 38 h h') → Q r_ h') → Xv E q_m_X6_dropRobot 0 [Value.ref w, Value.int (zi r), Value.null, Value.null] [] h Q from K _ fun _ _ p => p
  intro Q hQ
  obtain ⟨g0, g1, g2, g3, g4, gc, g5, g6, g7, gk, gl, gr, go⟩ := id hR
  refine xv (x_aload_n 1 d_X6_dropRobot_0 rfl rfl) ?_
  refine xv (x_iload_n 2 d_X6_dropRobot_1 rfl rfl) ?_
  refine xv (x_inv1 5 (as := [Value.int (zi r)]) d_X6_dropRobot_2 rfl c_6_106 rfl (Nat.le_of_ble_eq_true rfl) (Nat.le_of_ble_eq_true rfl) (wh_o hW) (Nat.le_of_ble_eq_true rfl) (Nat.le_of_ble_eq_true rfl) rfl (S_X6_isRobot hW hR (by omega) (by omega))) ?_
  show Xv E q_m_X6_dropRobot 5 [Value.ref w, Value.int (zi r), Value.null, Value.null] [Value.int (zi (bI (isR l r)))] h Q
  refine v_if_ne 9 8 d_X6_dropRobot_5 rfl rfl (by have := bI_r (isR l r); omega) (by have := bI_r (isR l r); omega) (fun k5 => ?_) (fun k5 => ?_)
  · replace k5 := bI_n0.mp k5
    refine xv (x_aload_n 10 d_X6_dropRobot_9 rfl rfl) ?_
    refine xv (x_getfield 13 d_X6_dropRobot_10 rfl f_6_28 (Nat.le_of_ble_eq_true rfl) (Nat.le_of_ble_eq_true rfl) (q_gf_of (wh_o hW) rfl)) ?_
    refine xv (x_iload_n 14 d_X6_dropRobot_13 rfl rfl) ?_
    refine xv (x_aaload 15 d_X6_dropRobot_14 rfl (wh_rs hW (by omega) (by omega))) ?_
    refine xv (x_astore_n 16 d_X6_dropRobot_15 rfl (Nat.le_of_ble_eq_true rfl)) ?_
    show Xv E q_m_X6_dropRobot 16 [Value.ref w, Value.int (zi r), Value.ref (p r), Value.null] [] h Q
    refine xv (x_iload_n 17 d_X6_dropRobot_16 rfl rfl) ?_
    refine xv (x_istore_n 18 d_X6_dropRobot_17 rfl (Nat.le_of_ble_eq_true rfl)) ?_
    show Xv E q_m_X6_dropRobot 18 [Value.ref w, Value.int (zi r), Value.ref (p r), Value.int (zi r)] [] h Q
    have L18 : ∀ (n_ : Nat) (k : Int) (H : q_H), (r ≤ k) → (k ≤ l 3 - 1) → (WQ H w l p (drp p r k)) → (Fr w 38 h H) → (l 3 - k).toNat = n_ → Xv E q_m_X6_dropRobot 18 [Value.ref w, Value.int (zi r), Value.ref (p r), Value.int (zi k)] [] H Q := by
      intro n_
      induction n_ using Nat.strongRecOn with
      | _ n_ ih18 =>
        intro k H k0 k1 hW2 hF2 em
        refine xv (x_iload_n 19 d_X6_dropRobot_18 rfl rfl) ?_
        refine xv (x_iconst 20 d_X6_dropRobot_19 rfl) ?_
        refine xv (x_iadd 21 d_X6_dropRobot_20 rfl) ?_
        refine xv (x_aload_n 22 d_X6_dropRobot_21 rfl rfl) ?_
        refine xv (x_getfield 25 d_X6_dropRobot_22 rfl f_6_55 (Nat.le_of_ble_eq_true rfl) (Nat.le_of_ble_eq_true rfl) (q_gf_of (wq_o hW2) rfl)) ?_
        refine v_icmp_ge 56 28 d_X6_dropRobot_25 rfl rfl (by omega) (by omega) (by omega) (by omega) (fun k25 => ?_) (fun k25 => ?_)
        · refine xv (x_aload_n 57 d_X6_dropRobot_56 rfl rfl) ?_
          refine xv (x_dup 58 d_X6_dropRobot_57 rfl rfl) ?_
          refine xv (x_getfield 61 d_X6_dropRobot_58 rfl f_6_55 (Nat.le_of_ble_eq_true rfl) (Nat.le_of_ble_eq_true rfl) (q_gf_of (wq_o hW2) rfl)) ?_
          refine xv (x_iconst 62 d_X6_dropRobot_61 rfl) ?_
          refine xv (x_isub 63 d_X6_dropRobot_62 rfl) ?_
          obtain ⟨h63, e63, w63, f63⟩ := wq_pf3 (v := (l 3) - 1) hW2
          have F63 : Fr w 38 h h63 := fr_tr hF2 (fr_in f63 (by omega) (by omega))
          refine xv (x_putfield 66 d_X6_dropRobot_63 rfl f_6_55 (Nat.le_of_ble_eq_true rfl) e63 rfl rfl (fun e => absurd e (by decide))) ?_
          show Xv E q_m_X6_dropRobot 66 [Value.ref w, Value.int (zi r), Value.ref (p r), Value.int (zi k)] [] h63 Q
          refine xv (x_aload_n 67 d_X6_dropRobot_66 rfl rfl) ?_
          refine xv (x_getfield 70 d_X6_dropRobot_67 rfl f_6_28 (Nat.le_of_ble_eq_true rfl) (Nat.le_of_ble_eq_true rfl) (q_gf_of (wq_o w63) rfl)) ?_
          refine xv (x_aload_n 71 d_X6_dropRobot_70 rfl rfl) ?_
          refine xv (x_getfield 74 d_X6_dropRobot_71 rfl f_6_55 (Nat.le_of_ble_eq_true rfl) (Nat.le_of_ble_eq_true rfl) ((q_gf_of (wq_o w63) rfl).trans (cz u1_eq))) ?_
          refine xv (x_aload_n 75 d_X6_dropRobot_74 rfl rfl) ?_
          obtain ⟨h75, e75, w75, f75⟩ := wq_s (z := (l 3) - 1) (r := r) w63 (by omega) (by omega) (by omega) (by omega)
          have F75 : Fr w 38 h h75 := fr_tr F63 (fr_in f75 (by omega) (by omega))
          refine xv (x_aastore 76 d_X6_dropRobot_75 rfl e75) ?_
          show Xv E q_m_X6_dropRobot 76 [Value.ref w, Value.int (zi r), Value.ref (p r), Value.int (zi k)] [] h75 Q
          refine xv_r (x_return d_X6_dropRobot_76 rfl) ?_
          refine hQ _ _ ⟨rfl, _, wq_end w75 h1 (by omega) (fun i a b => ?_), F75⟩
          have ek : k = l 3 - 1 := by omega
          show (if i = l 3 - 1 then p r else if r ≤ i ∧ i < k then p (i + 1) else p i) = _
          unfold dsg
          by_cases z1 : i = l 3 - 1
          · rw [if_pos z1, if_neg (by omega), if_pos z1]
          · rw [if_neg z1]
            by_cases z2 : r ≤ i ∧ i < k
            · rw [if_pos z2, if_neg (by omega), if_neg z1]
            · rw [if_neg z2, if_pos (by omega)]
        · refine xv (x_iload_n 29 d_X6_dropRobot_28 rfl rfl) ?_
          refine xv (x_iconst 30 d_X6_dropRobot_29 rfl) ?_
          refine xv (x_iadd 31 d_X6_dropRobot_30 rfl) ?_
          refine xv (x_bipush 33 d_X6_dropRobot_31 rfl rfl) ?_
          refine v_icmp_ge 56 36 d_X6_dropRobot_33 rfl rfl (by omega) (by omega) (by omega) (by omega) (fun k33 => ?_) (fun k33 => ?_)
          · refine xv (x_aload_n 57 d_X6_dropRobot_56 rfl rfl) ?_
            refine xv (x_dup 58 d_X6_dropRobot_57 rfl rfl) ?_
            refine xv (x_getfield 61 d_X6_dropRobot_58 rfl f_6_55 (Nat.le_of_ble_eq_true rfl) (Nat.le_of_ble_eq_true rfl) (q_gf_of (wq_o hW2) rfl)) ?_
            refine xv (x_iconst 62 d_X6_dropRobot_61 rfl) ?_
            refine xv (x_isub 63 d_X6_dropRobot_62 rfl) ?_
            obtain ⟨h63, e63, w63, f63⟩ := wq_pf3 (v := (l 3) - 1) hW2
            have F63 : Fr w 38 h h63 := fr_tr hF2 (fr_in f63 (by omega) (by omega))
            refine xv (x_putfield 66 d_X6_dropRobot_63 rfl f_6_55 (Nat.le_of_ble_eq_true rfl) e63 rfl rfl (fun e => absurd e (by decide))) ?_
            show Xv E q_m_X6_dropRobot 66 [Value.ref w, Value.int (zi r), Value.ref (p r), Value.int (zi k)] [] h63 Q
            refine xv (x_aload_n 67 d_X6_dropRobot_66 rfl rfl) ?_
            refine xv (x_getfield 70 d_X6_dropRobot_67 rfl f_6_28 (Nat.le_of_ble_eq_true rfl) (Nat.le_of_ble_eq_true rfl) (q_gf_of (wq_o w63) rfl)) ?_
            refine xv (x_aload_n 71 d_X6_dropRobot_70 rfl rfl) ?_
            refine xv (x_getfield 74 d_X6_dropRobot_71 rfl f_6_55 (Nat.le_of_ble_eq_true rfl) (Nat.le_of_ble_eq_true rfl) ((q_gf_of (wq_o w63) rfl).trans (cz u1_eq))) ?_
            refine xv (x_aload_n 75 d_X6_dropRobot_74 rfl rfl) ?_
            obtain ⟨h75, e75, w75, f75⟩ := wq_s (z := (l 3) - 1) (r := r) w63 (by omega) (by omega) (by omega) (by omega)
            have F75 : Fr w 38 h h75 := fr_tr F63 (fr_in f75 (by omega) (by omega))
            refine xv (x_aastore 76 d_X6_dropRobot_75 rfl e75) ?_
            show Xv E q_m_X6_dropRobot 76 [Value.ref w, Value.int (zi r), Value.ref (p r), Value.int (zi k)] [] h75 Q
            refine xv_r (x_return d_X6_dropRobot_76 rfl) ?_
            refine hQ _ _ ⟨rfl, _, wq_end w75 h1 (by omega) (fun i a b => ?_), F75⟩
            have ek : k = l 3 - 1 := by omega
            show (if i = l 3 - 1 then p r else if r ≤ i ∧ i < k then p (i + 1) else p i) = _
            unfold dsg
            by_cases z1 : i = l 3 - 1
            · rw [if_pos z1, if_neg (by omega), if_pos z1]
            · rw [if_neg z1]
              by_cases z2 : r ≤ i ∧ i < k
              · rw [if_pos z2, if_neg (by omega), if_neg z1]
              · rw [if_neg z2, if_pos (by omega)]
          · refine xv (x_aload_n 37 d_X6_dropRobot_36 rfl rfl) ?_
            refine xv (x_getfield 40 d_X6_dropRobot_37 rfl f_6_28 (Nat.le_of_ble_eq_true rfl) (Nat.le_of_ble_eq_true rfl) (q_gf_of (wq_o hW2) rfl)) ?_
            refine xv (x_iload_n 41 d_X6_dropRobot_40 rfl rfl) ?_
            refine xv (x_aload_n 42 d_X6_dropRobot_41 rfl rfl) ?_
            refine xv (x_getfield 45 d_X6_dropRobot_42 rfl f_6_28 (Nat.le_of_ble_eq_true rfl) (Nat.le_of_ble_eq_true rfl) (q_gf_of (wq_o hW2) rfl)) ?_
            refine xv (x_iload_n 46 d_X6_dropRobot_45 rfl rfl) ?_
            refine xv (x_iconst 47 d_X6_dropRobot_46 rfl) ?_
            refine xv (x_iadd 48 d_X6_dropRobot_47 rfl) ?_
            refine xv (x_aaload 49 d_X6_dropRobot_48 rfl ((wq_rs hW2 (by omega) (by omega)).trans (congrArg (fun q => some (Value.ref q)) (if_neg (by omega))))) ?_
            obtain ⟨h49, e49, w49, f49⟩ := wq_s (z := k) (r := k + 1) hW2 (by omega) (by omega) (by omega) (by omega)
            have F49 : Fr w 38 h h49 := fr_tr hF2 (fr_in f49 (by omega) (by omega))
            refine xv (x_aastore 50 d_X6_dropRobot_49 rfl e49) ?_
            show Xv E q_m_X6_dropRobot 50 [Value.ref w, Value.int (zi r), Value.ref (p r), Value.int (zi k)] [] h49 Q
            refine xv (x_iinc 53 d_X6_dropRobot_50 rfl rfl) ?_
            show Xv E q_m_X6_dropRobot 53 [Value.ref w, Value.int (zi r), Value.ref (p r), Value.int (zi (k + 1))] [] h49 Q
            refine xv (x_goto 18 d_X6_dropRobot_53 rfl) ?_
            exact ih18 _ (by omega) (k + 1) _ (by omega) (by omega) (wq_cg w49 fun i a b => drp_s k0) F49 rfl
    exact L18 _ r _ (by omega) (by omega) (wq_cg (wh_wq hW) fun i a b => (if_neg (by omega)).symm) fr_rf rfl
  · replace k5 := bI_0.mp k5
    exact absurd h1 k5
def kw (k : Nat) (i : Int) : Nat := k + 2 + 38 * i.toNat
abbrev HIo (h : q_H) (k : Nat) (nx ct : Int) : Prop := h.1 k = some (.inr (1, [.ref (k + 1), .int (zi nx), .int (zi ct)]))
def HIa (h : q_H) (k : Nat) : Prop := ∃ g : Nat → Option Nat, h.1 (k + 1) = some (.inl (7, 8, .inr (.inr (.inr (.inr g))))) ∧ ∀ i : Nat, i < 8 → g i = some (kw k i)
/-- the kept warehouses but one -/
def HO (h : q_H) (k : Nat) (nx : Int) (kl : Int → Int → Int) : Prop := ∀ i, 0 ≤ i → i < 8 → i ≠ nx → ∃ pi, WH h (kw k i) (kl i) pi
/-- the history at k, 306 places -/
def HI (h : q_H) (k : Nat) (nx ct : Int) (kl : Int → Int → Int) : Prop := HIo h k nx ct ∧ HIa h k ∧ ∀ i, 0 ≤ i → i < 8 → ∃ pi, WH h (kw k i) (kl i) pi
theorem kw_b {k : Nat} {i : Int} (h1 : 0 ≤ i) (h2 : i < 8) : k + 2 ≤ kw k i ∧ kw k i + 38 ≤ k + 306 := by unfold kw; omega
theorem kw_n {k : Nat} {i j : Int} (h1 : 0 ≤ i) (h2 : 0 ≤ j) (h : i ≠ j) : kw k i + 38 ≤ kw k j ∨ kw k j + 38 ≤ kw k i := by unfold kw; omega
theorem ho_fr {nx : Int} {kl : Int → Int → Int} {b m : Nat} (H : HO h k nx kl) (F : Fr b m h h') (s : b + m ≤ k + 2 ∨ (0 ≤ nx ∧ b = kw k nx ∧ m = 38) ∨ k + 306 ≤ b) : HO h' k nx kl := by
  intro i a c d
  obtain ⟨pi, e⟩ := H i a c d
  have hb := kw_b (k := k) a c
  refine ⟨pi, wh_fr e F ?_⟩
  rcases s with s | ⟨s0, s1, s2⟩ | s
  · omega
  · have := kw_n (k := k) a s0 d
    omega
  · omega
theorem hia_fr {b m : Nat} (H : HIa h k) (F : Fr b m h h') (s : k + 2 ≤ b ∨ b + m ≤ k + 1) : HIa h' k := by
  obtain ⟨g, e, x⟩ := H
  exact ⟨g, (F.2 _ (by omega)).trans e, x⟩
theorem hia_g {z : Int} (H : HIa h k) (h1 : 0 ≤ z) (h2 : z < 8) : q_gQ h (k + 1) (zi z) = some (.ref (kw k z)) := by
  obtain ⟨g, e, x⟩ := H
  have := x z.toNat (by omega)
  rw [Int.toNat_of_nonneg h1] at this
  exact q_gQ_of e (by omega) h1 h2 (by decide) this
theorem hi_fr {nx ct : Int} {kl : Int → Int → Int} {b m : Nat} (H : HI h k nx ct kl) (F : Fr b m h h') (s : b + m ≤ k ∨ k + 306 ≤ b) : HI h' k nx ct kl := by
  obtain ⟨a, c, d⟩ := H
  refine ⟨(F.2 _ (by omega)).trans a, hia_fr c F (by omega), fun i x y => ?_⟩
  obtain ⟨pi, e⟩ := d i x y
  have := kw_b (k := k) x y
  exact ⟨pi, wh_fr e F (by omega)⟩
theorem hi_mk {nx nx' ct : Int} {kl : Int → Int → Int} {l' : Int → Int} {pv : Int → Nat} (a : HIo h k nx' ct) (b : HIa h k) (c : HO h k nx kl) (d : WH h (kw k nx) l' pv) : HI h k nx' ct (fun i => if i = nx then l' else kl i) := by
  refine ⟨a, b, fun i x y => ?_⟩
  by_cases q : i = nx
  · subst q
    refine ⟨pv, ?_⟩
    show WH h _ (if i = i then l' else kl i) pv
    rw [if_pos rfl]
    exact d
  · obtain ⟨pi, e⟩ := c i x y q
    refine ⟨pi, ?_⟩
    show WH h _ (if i = nx then l' else kl i) pi
    rw [if_neg q]
    exact e
theorem S_X1_keep {nx ct : Int} {kl : Int → Int → Int} (hR : RgC l) (hH : HI h k nx ct kl) (hW : WH h w l p) (hn : 0 ≤ nx ∧ nx < 8) (hc : 0 ≤ ct ∧ ct ≤ 8) (sp : w + 38 ≤ k ∨ k + 306 ≤ w) : ∃ r_ h', q_cl E q_m_X1_keep [Value.ref k, Value.ref w] h = some (r_, h') ∧ (r_ = .inl none ∧ ∃ l', Lc l' l ∧ HI h' k (if nx + 1 < 8 then nx + 1 else 0) (min 8 (ct + 1)) (fun i => if i = nx then l' else kl i) ∧ Fr k 306 h h') := by
  suffices K : ∀ Q : q_R → q_H → Prop, (∀ r_ h', (r_ = .inl none ∧ ∃ l', Lc l' l ∧ HI h' k (if nx + 1 < 8 then nx + 1 else 0) (min 8 (ct + 1)) (fun i => if i = nx then l' else kl i) ∧ Fr k 306 h h') → Q r_ h') → Xv E q_m_X1_keep 0 [Value.ref k, Value.ref w] [] h Q from K _ fun _ _ p => p
  intro Q hQ
  obtain ⟨hK, hKA, hHx⟩ := id hH
  obtain ⟨pv, hV⟩ := hHx nx (by omega) (by omega)
  have hHO : HO h k nx kl := fun i a b _ => hHx i a b
  have sb := kw_b (k := k) (i := nx) (by omega) (by omega)
  generalize hlv : kl nx = lv at hV
  refine xv (x_aload_n 1 d_X1_keep_0 rfl rfl) ?_
  refine xv (x_getfield 4 d_X1_keep_1 rfl f_1_18 (Nat.le_of_ble_eq_true rfl) (Nat.le_of_ble_eq_true rfl) (q_gf_of hK rfl)) ?_
  refine v_if_lt 16 7 d_X1_keep_4 rfl rfl (by omega) (by omega) (fun k4 => ?_) (fun k4 => ?_)
  · omega
  · refine xv (x_aload_n 8 d_X1_keep_7 rfl rfl) ?_
    refine xv (x_getfield 11 d_X1_keep_8 rfl f_1_18 (Nat.le_of_ble_eq_true rfl) (Nat.le_of_ble_eq_true rfl) (q_gf_of hK rfl)) ?_
    refine xv (x_bipush 13 d_X1_keep_11 rfl rfl) ?_
    refine v_icmp_lt 21 16 d_X1_keep_13 rfl rfl (by omega) (by omega) (by omega) (by omega) (fun k13 => ?_) (fun k13 => ?_)
    · refine xv (x_aload_n 22 d_X1_keep_21 rfl rfl) ?_
      refine xv (x_getfield 25 d_X1_keep_22 rfl f_1_11 (Nat.le_of_ble_eq_true rfl) (Nat.le_of_ble_eq_true rfl) (q_gf_of hK rfl)) ?_
      refine xv (x_aload_n 26 d_X1_keep_25 rfl rfl) ?_
      refine xv (x_getfield 29 d_X1_keep_26 rfl f_1_18 (Nat.le_of_ble_eq_true rfl) (Nat.le_of_ble_eq_true rfl) (q_gf_of hK rfl)) ?_
      refine xv (x_aaload 30 d_X1_keep_29 rfl (hia_g hKA (by omega) (by omega))) ?_
      refine xv (x_aload_n 31 d_X1_keep_30 rfl rfl) ?_
      obtain ⟨r31, h31, e31, z31, l31, ⟨w31, i31⟩, f31⟩ := S_X6_copyFrom (E := E) hV hW hR (by omega)
      subst z31
      have K_31 := (f31.2 _ (by omega)).trans hK
      have KA_31 := hia_fr hKA f31 (by omega)
      have HO_31 := ho_fr hHO f31 (by omega)
      have W_31 := wh_fr hW f31 (by omega)
      have F31 : Fr k 306 h h31 := fr_tr fr_rf (fr_in f31 (by omega) (by omega))
      refine xv (x_inv0 34 (as := [Value.ref w]) d_X1_keep_31 rfl c_1_22 rfl (Nat.le_of_ble_eq_true rfl) (Nat.le_of_ble_eq_true rfl) (wh_o hV) (Nat.le_of_ble_eq_true rfl) (Nat.le_of_ble_eq_true rfl) rfl e31) ?_
      show Xv E q_m_X1_keep 34 [Value.ref k, Value.ref w] [] h31 Q
      refine xv (x_aload_n 35 d_X1_keep_34 rfl rfl) ?_
      refine xv (x_aload_n 36 d_X1_keep_35 rfl rfl) ?_
      refine xv (x_getfield 39 d_X1_keep_36 rfl f_1_18 (Nat.le_of_ble_eq_true rfl) (Nat.le_of_ble_eq_true rfl) (q_gf_of K_31 rfl)) ?_
      refine xv (x_iconst 40 d_X1_keep_39 rfl) ?_
      refine xv (x_iadd 41 d_X1_keep_40 rfl) ?_
      refine xv (x_bipush 43 d_X1_keep_41 rfl rfl) ?_
      refine v_icmp_ge 55 46 d_X1_keep_43 rfl rfl (by omega) (by omega) (by omega) (by omega) (fun k43 => ?_) (fun k43 => ?_)
      · refine xv (x_iconst 56 d_X1_keep_55 rfl) ?_
        obtain ⟨h56, e56, w56, f56⟩ := obj_pf (k := 1) (v := Value.int (zi 0)) K_31 (Nat.le_of_ble_eq_true rfl)
        have KA_56 := hia_fr KA_31 f56 (by omega)
        have HO_56 := ho_fr HO_31 f56 (by omega)
        have V_56 := wh_fr w31 f56 (by omega)
        have W_56 := wh_fr W_31 f56 (by omega)
        have F56 : Fr k 306 h h56 := fr_tr F31 (fr_in f56 (by omega) (by omega))
        replace w56 : h56.1 k = some (.inr (1, [Value.ref (k + 1), Value.int (zi 0), Value.int (zi ct)])) := w56
        refine xv (x_putfield 59 d_X1_keep_56 rfl f_1_18 (Nat.le_of_ble_eq_true rfl) e56 rfl rfl (fun e => absurd e (by decide))) ?_
        show Xv E q_m_X1_keep 59 [Value.ref k, Value.ref w] [] h56 Q
        refine xv (x_aload_n 60 d_X1_keep_59 rfl rfl) ?_
        refine xv (x_bipush 62 d_X1_keep_60 rfl rfl) ?_
        refine xv (x_aload_n 63 d_X1_keep_62 rfl rfl) ?_
        refine xv (x_getfield 66 d_X1_keep_63 rfl f_1_26 (Nat.le_of_ble_eq_true rfl) (Nat.le_of_ble_eq_true rfl) (q_gf_of w56 rfl)) ?_
        refine xv (x_iconst 67 d_X1_keep_66 rfl) ?_
        refine xv (x_iadd 68 d_X1_keep_67 rfl) ?_
        refine xv (x_mmin 71 d_X1_keep_68 rfl rfl rfl rfl (Nat.le_of_ble_eq_true rfl) (Nat.le_of_ble_eq_true rfl) (Nat.le_of_ble_eq_true rfl) (by omega) (by omega) (by omega) (by omega)) ?_
        obtain ⟨h71, e71, w71, f71⟩ := obj_pf (k := 2) (v := Value.int (zi (min 8 (ct + 1)))) w56 (Nat.le_of_ble_eq_true rfl)
        have KA_71 := hia_fr KA_56 f71 (by omega)
        have HO_71 := ho_fr HO_56 f71 (by omega)
        have V_71 := wh_fr V_56 f71 (by omega)
        have W_71 := wh_fr W_56 f71 (by omega)
        have F71 : Fr k 306 h h71 := fr_tr F56 (fr_in f71 (by omega) (by omega))
        replace w71 : h71.1 k = some (.inr (1, [Value.ref (k + 1), Value.int (zi 0), Value.int (zi (min 8 (ct + 1)))])) := w71
        refine xv (x_putfield 74 d_X1_keep_71 rfl f_1_26 (Nat.le_of_ble_eq_true rfl) e71 rfl rfl (fun e => absurd e (by decide))) ?_
        show Xv E q_m_X1_keep 74 [Value.ref k, Value.ref w] [] h71 Q
        refine xv_r (x_return d_X1_keep_74 rfl) ?_
        refine hQ _ _ ⟨rfl, _, i31, hi_mk ?_ KA_71 HO_71 V_71, F71⟩
        first | (rw [if_pos (by omega)]; exact w71) | (rw [if_neg (by omega)]; exact w71)
      · refine xv (x_aload_n 47 d_X1_keep_46 rfl rfl) ?_
        refine xv (x_getfield 50 d_X1_keep_47 rfl f_1_18 (Nat.le_of_ble_eq_true rfl) (Nat.le_of_ble_eq_true rfl) (q_gf_of K_31 rfl)) ?_
        refine xv (x_iconst 51 d_X1_keep_50 rfl) ?_
        refine xv (x_iadd 52 d_X1_keep_51 rfl) ?_
        refine xv (x_goto 56 d_X1_keep_52 rfl) ?_
        obtain ⟨h56, e56, w56, f56⟩ := obj_pf (k := 1) (v := Value.int (zi (nx + 1))) K_31 (Nat.le_of_ble_eq_true rfl)
        have KA_56 := hia_fr KA_31 f56 (by omega)
        have HO_56 := ho_fr HO_31 f56 (by omega)
        have V_56 := wh_fr w31 f56 (by omega)
        have W_56 := wh_fr W_31 f56 (by omega)
        have F56 : Fr k 306 h h56 := fr_tr F31 (fr_in f56 (by omega) (by omega))
        replace w56 : h56.1 k = some (.inr (1, [Value.ref (k + 1), Value.int (zi (nx + 1)), Value.int (zi ct)])) := w56
        refine xv (x_putfield 59 d_X1_keep_56 rfl f_1_18 (Nat.le_of_ble_eq_true rfl) e56 rfl rfl (fun e => absurd e (by decide))) ?_
        show Xv E q_m_X1_keep 59 [Value.ref k, Value.ref w] [] h56 Q
        refine xv (x_aload_n 60 d_X1_keep_59 rfl rfl) ?_
        refine xv (x_bipush 62 d_X1_keep_60 rfl rfl) ?_
        refine xv (x_aload_n 63 d_X1_keep_62 rfl rfl) ?_
        refine xv (x_getfield 66 d_X1_keep_63 rfl f_1_26 (Nat.le_of_ble_eq_true rfl) (Nat.le_of_ble_eq_true rfl) (q_gf_of w56 rfl)) ?_
        refine xv (x_iconst 67 d_X1_keep_66 rfl) ?_
        refine xv (x_iadd 68 d_X1_keep_67 rfl) ?_
        refine xv (x_mmin 71 d_X1_keep_68 rfl rfl rfl rfl (Nat.le_of_ble_eq_true rfl) (Nat.le_of_ble_eq_true rfl) (Nat.le_of_ble_eq_true rfl) (by omega) (by omega) (by omega) (by omega)) ?_
        obtain ⟨h71, e71, w71, f71⟩ := obj_pf (k := 2) (v := Value.int (zi (min 8 (ct + 1)))) w56 (Nat.le_of_ble_eq_true rfl)
        have KA_71 := hia_fr KA_56 f71 (by omega)
        have HO_71 := ho_fr HO_56 f71 (by omega)
        have V_71 := wh_fr V_56 f71 (by omega)
        have W_71 := wh_fr W_56 f71 (by omega)
        have F71 : Fr k 306 h h71 := fr_tr F56 (fr_in f71 (by omega) (by omega))
        replace w71 : h71.1 k = some (.inr (1, [Value.ref (k + 1), Value.int (zi (nx + 1)), Value.int (zi (min 8 (ct + 1)))])) := w71
        refine xv (x_putfield 74 d_X1_keep_71 rfl f_1_26 (Nat.le_of_ble_eq_true rfl) e71 rfl rfl (fun e => absurd e (by decide))) ?_
        show Xv E q_m_X1_keep 74 [Value.ref k, Value.ref w] [] h71 Q
        refine xv_r (x_return d_X1_keep_74 rfl) ?_
        refine hQ _ _ ⟨rfl, _, i31, hi_mk ?_ KA_71 HO_71 V_71, F71⟩
        first | (rw [if_pos (by omega)]; exact w71) | (rw [if_neg (by omega)]; exact w71)
    · omega
theorem S_X1_giveBack_a {nx ct : Int} {kl : Int → Int → Int} (h0 : 0 < nx) (hk : 0 < ct) (hR : RgC (kl (nx - 1))) (hH : HI h k nx ct kl) (hW : WH h w l p) (hn : 0 ≤ nx ∧ nx < 8) (hc : 0 ≤ ct ∧ ct ≤ 8) (sp : w + 38 ≤ k ∨ k + 306 ≤ w) : ∃ r_ h', q_cl E q_m_X1_giveBack [Value.ref k, Value.ref w] h = some (r_, h') ∧ (r_ = .inl none ∧ ∃ l', (WH h' w l' p ∧ Lc l' (kl (nx - 1))) ∧ HI h' k (nx - 1) (ct - 1) kl ∧ ∃ h1 h2, Fr k 306 h h1 ∧ Fr w 38 h1 h2 ∧ Fr k 306 h2 h') := by
  suffices K : ∀ Q : q_R → q_H → Prop, (∀ r_ h', (r_ = .inl none ∧ ∃ l', (WH h' w l' p ∧ Lc l' (kl (nx - 1))) ∧ HI h' k (nx - 1) (ct - 1) kl ∧ ∃ h1 h2, Fr k 306 h h1 ∧ Fr w 38 h1 h2 ∧ Fr k 306 h2 h') → Q r_ h') → Xv E q_m_X1_giveBack 0 [Value.ref k, Value.ref w] [] h Q from K _ fun _ _ p => p
  intro Q hQ
  obtain ⟨hK, hKA, hHx⟩ := id hH
  obtain ⟨pv, hV⟩ := hHx (nx - 1) (by omega) (by omega)
  have hHO : HO h k (nx - 1) kl := fun i a b _ => hHx i a b
  have sb := kw_b (k := k) (i := (nx - 1)) (by omega) (by omega)
  generalize hlv : kl (nx - 1) = lv at hV hR
  refine xv (x_aload_n 1 d_X1_giveBack_0 rfl rfl) ?_
  refine xv (x_getfield 4 d_X1_giveBack_1 rfl f_1_26 (Nat.le_of_ble_eq_true rfl) (Nat.le_of_ble_eq_true rfl) (q_gf_of hK rfl)) ?_
  refine v_if_gt 8 7 d_X1_giveBack_4 rfl rfl (by omega) (by omega) (fun k4 => ?_) (fun k4 => ?_)
  · refine xv (x_aload_n 9 d_X1_giveBack_8 rfl rfl) ?_
    refine xv (x_aload_n 10 d_X1_giveBack_9 rfl rfl) ?_
    refine xv (x_getfield 13 d_X1_giveBack_10 rfl f_1_18 (Nat.le_of_ble_eq_true rfl) (Nat.le_of_ble_eq_true rfl) (q_gf_of hK rfl)) ?_
    refine v_if_le 34 16 d_X1_giveBack_13 rfl rfl (by omega) (by omega) (fun k13 => ?_) (fun k13 => ?_)
    · omega
    · refine xv (x_aload_n 17 d_X1_giveBack_16 rfl rfl) ?_
      refine xv (x_getfield 20 d_X1_giveBack_17 rfl f_1_18 (Nat.le_of_ble_eq_true rfl) (Nat.le_of_ble_eq_true rfl) (q_gf_of hK rfl)) ?_
      refine xv (x_bipush 22 d_X1_giveBack_20 rfl rfl) ?_
      refine v_icmp_ge 34 25 d_X1_giveBack_22 rfl rfl (by omega) (by omega) (by omega) (by omega) (fun k22 => ?_) (fun k22 => ?_)
      · omega
      · refine xv (x_aload_n 26 d_X1_giveBack_25 rfl rfl) ?_
        refine xv (x_getfield 29 d_X1_giveBack_26 rfl f_1_18 (Nat.le_of_ble_eq_true rfl) (Nat.le_of_ble_eq_true rfl) (q_gf_of hK rfl)) ?_
        refine xv (x_iconst 30 d_X1_giveBack_29 rfl) ?_
        refine xv (x_isub 31 d_X1_giveBack_30 rfl) ?_
        refine xv (x_goto 36 d_X1_giveBack_31 rfl) ?_
        obtain ⟨h36, e36, w36, f36⟩ := obj_pf (k := 1) (v := Value.int (zi (nx - 1))) hK (Nat.le_of_ble_eq_true rfl)
        have KA_36 := hia_fr hKA f36 (by omega)
        have HO_36 := ho_fr hHO f36 (by omega)
        have V_36 := wh_fr hV f36 (by omega)
        have W_36 := wh_fr hW f36 (by omega)
        replace w36 : h36.1 k = some (.inr (1, [Value.ref (k + 1), Value.int (zi (nx - 1)), Value.int (zi ct)])) := w36
        refine xv (x_putfield 39 d_X1_giveBack_36 rfl f_1_18 (Nat.le_of_ble_eq_true rfl) e36 rfl rfl (fun e => absurd e (by decide))) ?_
        show Xv E q_m_X1_giveBack 39 [Value.ref k, Value.ref w] [] h36 Q
        refine xv (x_aload_n 40 d_X1_giveBack_39 rfl rfl) ?_
        refine xv (x_aload_n 41 d_X1_giveBack_40 rfl rfl) ?_
        refine xv (x_getfield 44 d_X1_giveBack_41 rfl f_1_11 (Nat.le_of_ble_eq_true rfl) (Nat.le_of_ble_eq_true rfl) (q_gf_of w36 rfl)) ?_
        refine xv (x_aload_n 45 d_X1_giveBack_44 rfl rfl) ?_
        refine xv (x_getfield 48 d_X1_giveBack_45 rfl f_1_18 (Nat.le_of_ble_eq_true rfl) (Nat.le_of_ble_eq_true rfl) (q_gf_of w36 rfl)) ?_
        refine xv (x_aaload 49 d_X1_giveBack_48 rfl (hia_g KA_36 (by omega) (by omega))) ?_
        obtain ⟨r49, h49, e49, z49, l49, ⟨w49, i49⟩, f49⟩ := S_X6_copyFrom (E := E) W_36 V_36 hR (by omega)
        subst z49
        have K_49 := (f49.2 _ (by omega)).trans w36
        have KA_49 := hia_fr KA_36 f49 (by omega)
        have HO_49 := ho_fr HO_36 f49 (by omega)
        have V_49 := wh_fr V_36 f49 (by omega)
        refine xv (x_inv0 52 (as := [Value.ref (kw k (nx - 1))]) d_X1_giveBack_49 rfl c_1_22 rfl (Nat.le_of_ble_eq_true rfl) (Nat.le_of_ble_eq_true rfl) (wh_o W_36) (Nat.le_of_ble_eq_true rfl) (Nat.le_of_ble_eq_true rfl) rfl e49) ?_
        show Xv E q_m_X1_giveBack 52 [Value.ref k, Value.ref w] [] h49 Q
        refine xv (x_aload_n 53 d_X1_giveBack_52 rfl rfl) ?_
        refine xv (x_dup 54 d_X1_giveBack_53 rfl rfl) ?_
        refine xv (x_getfield 57 d_X1_giveBack_54 rfl f_1_26 (Nat.le_of_ble_eq_true rfl) (Nat.le_of_ble_eq_true rfl) (q_gf_of K_49 rfl)) ?_
        refine xv (x_iconst 58 d_X1_giveBack_57 rfl) ?_
        refine xv (x_isub 59 d_X1_giveBack_58 rfl) ?_
        obtain ⟨h59, e59, w59, f59⟩ := obj_pf (k := 2) (v := Value.int (zi (ct - 1))) K_49 (Nat.le_of_ble_eq_true rfl)
        have KA_59 := hia_fr KA_49 f59 (by omega)
        have HO_59 := ho_fr HO_49 f59 (by omega)
        have V_59 := wh_fr V_49 f59 (by omega)
        have W_59 := wh_fr w49 f59 (by omega)
        replace w59 : h59.1 k = some (.inr (1, [Value.ref (k + 1), Value.int (zi (nx - 1)), Value.int (zi (ct - 1))])) := w59
        refine xv (x_putfield 62 d_X1_giveBack_59 rfl f_1_26 (Nat.le_of_ble_eq_true rfl) e59 rfl rfl (fun e => absurd e (by decide))) ?_
        show Xv E q_m_X1_giveBack 62 [Value.ref k, Value.ref w] [] h59 Q
        refine xv_r (x_return d_X1_giveBack_62 rfl) ?_
        refine hQ _ _ ⟨rfl, _, ⟨W_59, ?_⟩, ⟨w59, KA_59, fun i a b => ?_⟩, _, _, fr_in f36 (by omega) (by omega), f49, fr_in f59 (by omega) (by omega)⟩
        · exact hlv ▸ i49
        · by_cases q : i = nx - 1
          · subst q; rw [hlv]; exact ⟨_, V_59⟩
          · exact HO_59 i a b q
  · omega
theorem S_X1_giveBack_b {nx ct : Int} {kl : Int → Int → Int} (h0 : nx = 0) (hk : 0 < ct) (hR : RgC (kl 7)) (hH : HI h k nx ct kl) (hW : WH h w l p) (hn : 0 ≤ nx ∧ nx < 8) (hc : 0 ≤ ct ∧ ct ≤ 8) (sp : w + 38 ≤ k ∨ k + 306 ≤ w) : ∃ r_ h', q_cl E q_m_X1_giveBack [Value.ref k, Value.ref w] h = some (r_, h') ∧ (r_ = .inl none ∧ ∃ l', (WH h' w l' p ∧ Lc l' (kl 7)) ∧ HI h' k 7 (ct - 1) kl ∧ ∃ h1 h2, Fr k 306 h h1 ∧ Fr w 38 h1 h2 ∧ Fr k 306 h2 h') := by
  suffices K : ∀ Q : q_R → q_H → Prop, (∀ r_ h', (r_ = .inl none ∧ ∃ l', (WH h' w l' p ∧ Lc l' (kl 7)) ∧ HI h' k 7 (ct - 1) kl ∧ ∃ h1 h2, Fr k 306 h h1 ∧ Fr w 38 h1 h2 ∧ Fr k 306 h2 h') → Q r_ h') → Xv E q_m_X1_giveBack 0 [Value.ref k, Value.ref w] [] h Q from K _ fun _ _ p => p
  intro Q hQ
  obtain ⟨hK, hKA, hHx⟩ := id hH
  obtain ⟨pv, hV⟩ := hHx 7 (by omega) (by omega)
  have hHO : HO h k 7 kl := fun i a b _ => hHx i a b
  have sb := kw_b (k := k) (i := 7) (by omega) (by omega)
  generalize hlv : kl 7 = lv at hV hR
  refine xv (x_aload_n 1 d_X1_giveBack_0 rfl rfl) ?_
  refine xv (x_getfield 4 d_X1_giveBack_1 rfl f_1_26 (Nat.le_of_ble_eq_true rfl) (Nat.le_of_ble_eq_true rfl) (q_gf_of hK rfl)) ?_
  refine v_if_gt 8 7 d_X1_giveBack_4 rfl rfl (by omega) (by omega) (fun k4 => ?_) (fun k4 => ?_)
  · refine xv (x_aload_n 9 d_X1_giveBack_8 rfl rfl) ?_
    refine xv (x_aload_n 10 d_X1_giveBack_9 rfl rfl) ?_
    refine xv (x_getfield 13 d_X1_giveBack_10 rfl f_1_18 (Nat.le_of_ble_eq_true rfl) (Nat.le_of_ble_eq_true rfl) (q_gf_of hK rfl)) ?_
    refine v_if_le 34 16 d_X1_giveBack_13 rfl rfl (by omega) (by omega) (fun k13 => ?_) (fun k13 => ?_)
    · refine xv (x_bipush 36 d_X1_giveBack_34 rfl rfl) ?_
      obtain ⟨h36, e36, w36, f36⟩ := obj_pf (k := 1) (v := Value.int (zi 7)) hK (Nat.le_of_ble_eq_true rfl)
      have KA_36 := hia_fr hKA f36 (by omega)
      have HO_36 := ho_fr hHO f36 (by omega)
      have V_36 := wh_fr hV f36 (by omega)
      have W_36 := wh_fr hW f36 (by omega)
      replace w36 : h36.1 k = some (.inr (1, [Value.ref (k + 1), Value.int (zi 7), Value.int (zi ct)])) := w36
      refine xv (x_putfield 39 d_X1_giveBack_36 rfl f_1_18 (Nat.le_of_ble_eq_true rfl) e36 rfl rfl (fun e => absurd e (by decide))) ?_
      show Xv E q_m_X1_giveBack 39 [Value.ref k, Value.ref w] [] h36 Q
      refine xv (x_aload_n 40 d_X1_giveBack_39 rfl rfl) ?_
      refine xv (x_aload_n 41 d_X1_giveBack_40 rfl rfl) ?_
      refine xv (x_getfield 44 d_X1_giveBack_41 rfl f_1_11 (Nat.le_of_ble_eq_true rfl) (Nat.le_of_ble_eq_true rfl) (q_gf_of w36 rfl)) ?_
      refine xv (x_aload_n 45 d_X1_giveBack_44 rfl rfl) ?_
      refine xv (x_getfield 48 d_X1_giveBack_45 rfl f_1_18 (Nat.le_of_ble_eq_true rfl) (Nat.le_of_ble_eq_true rfl) (q_gf_of w36 rfl)) ?_
      refine xv (x_aaload 49 d_X1_giveBack_48 rfl (hia_g KA_36 (by omega) (by omega))) ?_
      obtain ⟨r49, h49, e49, z49, l49, ⟨w49, i49⟩, f49⟩ := S_X6_copyFrom (E := E) W_36 V_36 hR (by omega)
      subst z49
      have K_49 := (f49.2 _ (by omega)).trans w36
      have KA_49 := hia_fr KA_36 f49 (by omega)
      have HO_49 := ho_fr HO_36 f49 (by omega)
      have V_49 := wh_fr V_36 f49 (by omega)
      refine xv (x_inv0 52 (as := [Value.ref (kw k 7)]) d_X1_giveBack_49 rfl c_1_22 rfl (Nat.le_of_ble_eq_true rfl) (Nat.le_of_ble_eq_true rfl) (wh_o W_36) (Nat.le_of_ble_eq_true rfl) (Nat.le_of_ble_eq_true rfl) rfl e49) ?_
      show Xv E q_m_X1_giveBack 52 [Value.ref k, Value.ref w] [] h49 Q
      refine xv (x_aload_n 53 d_X1_giveBack_52 rfl rfl) ?_
      refine xv (x_dup 54 d_X1_giveBack_53 rfl rfl) ?_
      refine xv (x_getfield 57 d_X1_giveBack_54 rfl f_1_26 (Nat.le_of_ble_eq_true rfl) (Nat.le_of_ble_eq_true rfl) (q_gf_of K_49 rfl)) ?_
      refine xv (x_iconst 58 d_X1_giveBack_57 rfl) ?_
      refine xv (x_isub 59 d_X1_giveBack_58 rfl) ?_
      obtain ⟨h59, e59, w59, f59⟩ := obj_pf (k := 2) (v := Value.int (zi (ct - 1))) K_49 (Nat.le_of_ble_eq_true rfl)
      have KA_59 := hia_fr KA_49 f59 (by omega)
      have HO_59 := ho_fr HO_49 f59 (by omega)
      have V_59 := wh_fr V_49 f59 (by omega)
      have W_59 := wh_fr w49 f59 (by omega)
      replace w59 : h59.1 k = some (.inr (1, [Value.ref (k + 1), Value.int (zi 7), Value.int (zi (ct - 1))])) := w59
      refine xv (x_putfield 62 d_X1_giveBack_59 rfl f_1_26 (Nat.le_of_ble_eq_true rfl) e59 rfl rfl (fun e => absurd e (by decide))) ?_
      show Xv E q_m_X1_giveBack 62 [Value.ref k, Value.ref w] [] h59 Q
      refine xv_r (x_return d_X1_giveBack_62 rfl) ?_
      refine hQ _ _ ⟨rfl, _, ⟨W_59, ?_⟩, ⟨w59, KA_59, fun i a b => ?_⟩, _, _, fr_in f36 (by omega) (by omega), f49, fr_in f59 (by omega) (by omega)⟩
      · exact hlv ▸ i49
      · by_cases q : i = 7
        · subst q; rw [hlv]; exact ⟨_, V_59⟩
        · exact HO_59 i a b q
    · omega
  · omega
end CI
