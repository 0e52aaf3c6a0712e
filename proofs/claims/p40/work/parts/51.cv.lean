/-! the class itself: layout, text, save, restore, undo (printed by program) -/
def xIS : String := "java/lang/IllegalStateException"
def xIA : String := "java/lang/IllegalArgumentException"
/-- where a layout's last cell stands -/
def fplR (t : Int × Int × Int) (R C : Int) : Prop := t.1 = -1 ∧ t.2.1 = R ∧ t.2.2 = C
/-- a layout's row -/
def lay (c : Int → Int) (n R C : Int) (l : Int → Int) : Int → Int := rbl c n.toNat 0 0 (u1 (u1 (u1 (u1 (u1 l 0 R) 1 C) 2 0) 3 0) 4 0)
/-- how layout ends -/
def MuL (h : q_H) (x : Nat) (l ls : Int → Int) (nx ct : Int) (kl : Int → Int → Int) (n : Int) (c : Int → Int) (hs kr kd_ : Int) (r : q_R) (h' : q_H) : Prop :=
  ((fpl c n n.toNat 0 0 0 0).1 = -1 ∧ r = .inl (some (.int (zi ((fpl c n n.toNat 0 0 0 0).2.1 * (fpl c n n.toNat 0 0 0 0).2.2)))) ∧ RgC (lay c n (fpl c n n.toNat 0 0 0 0).2.1 (fpl c n n.toNat 0 0 0 0).2.2 l) ∧ ∃ nx' ct' kl', HP l nx ct kl nx' ct' kl' ∧ CA h' x (lay c n (fpl c n n.toNat 0 0 0 0).2.1 (fpl c n n.toNat 0 0 0 0).2.2 l) ls nx' ct' kl' 0 c hs (-1) kr kd_ ∧ Fr x 444 h h') ∨
  (¬ (fpl c n n.toNat 0 0 0 0).1 = -1 ∧ r = .inr xIA ∧ ∃ h0, CA h0 x l ls nx ct kl 0 c hs (fpl c n n.toNat 0 0 0 0).1 kr kd_ ∧ Fr x 444 h h0 ∧ h' = thr_ h0)
section CV3
variable {E : q_E} {h h' : q_H} {x w v a b t N k d : Nat} {l lo ls f g c q : Int → Int} {p p2 pk : Int → Nat} {hs fa kr kd_ nx ct n : Int} {kl : Int → Int → Int}
/-- what the text's reading leaves: rows, columns and cells -/
theorem fpl_ok (n : Int) : ∀ (m : Nat) (i R C x : Int) (l : Int → Int), (R = 0 ∧ C = 0 ∧ 0 ≤ x ∧ x ≤ 8 ∨ 1 ≤ R ∧ R ≤ 5 ∧ 2 ≤ C ∧ C ≤ 8 ∧ 0 ≤ x ∧ x ≤ C) → (fpl c n m i R C x).1 = -1 → 0 ≤ i → 0 ≤ n →
    (1 ≤ (fpl c n m i R C x).2.1 ∧ (fpl c n m i R C x).2.1 ≤ 6) ∧ (2 ≤ (fpl c n m i R C x).2.2 ∧ (fpl c n m i R C x).2.2 ≤ 8) ∧ R * C + x ≤ (fpl c n m i R C x).2.1 * (fpl c n m i R C x).2.2 ∧ (fpl c n m i R C x).2.1 * (fpl c n m i R C x).2.2 ≤ 48 ∧
    (∀ j, 0 ≤ j → ¬ (R * C + x ≤ j ∧ j < (fpl c n m i R C x).2.1 * (fpl c n m i R C x).2.2) → j < 48 → rbl c m i (R * C + x) l (8 + j) = l (8 + j) ∧ rbl c m i (R * C + x) l (56 + j) = l (56 + j)) ∧
    (∀ j, R * C + x ≤ j → j < (fpl c n m i R C x).2.1 * (fpl c n m i R C x).2.2 → (0 ≤ rbl c m i (R * C + x) l (8 + j) ∧ rbl c m i (R * C + x) l (8 + j) ≤ 3) ∧ rbl c m i (R * C + x) l (56 + j) = 0) ∧
    ∀ j, j < 8 ∨ 104 ≤ j → rbl c m i (R * C + x) l j = l j
  | 0, i, R, C, x, l, hb, h1, i0, n0 => by
    by_cases q : cer R C x
    · have e : fpl c n 0 i R C x = (-1, R + 1, x) := if_pos q
      have el : rbl c 0 i (R * C + x) l = l := rfl
      have ex : (R + 1) * x = R * C + x := by
        rcases q with q | q
        · rw [q.1, Int.zero_mul, Int.zero_add, Int.one_mul, Int.zero_add]
        · rw [q.2, Int.add_mul, Int.one_mul]
      have hx : 1 ≤ R + 1 ∧ R + 1 ≤ 6 ∧ 2 ≤ x ∧ x ≤ 8 := by omega
      have h48 : (R + 1) * x ≤ 48 := by
        have a1 := Int.mul_le_mul_of_nonneg_right hx.2.1 (show 0 ≤ x by omega)
        omega
      rw [e, el]
      show _ ∧ _ ∧ _ ≤ (R + 1) * x ∧ (R + 1) * x ≤ 48 ∧ (∀ j, 0 ≤ j → ¬ (_ ∧ j < (R + 1) * x) → _) ∧ (∀ j, _ → j < (R + 1) * x → _) ∧ _
      rw [ex] at h48 ⊢
      exact ⟨⟨hx.1, hx.2.1⟩, ⟨hx.2.2.1, hx.2.2.2⟩, Int.le_refl _, h48, fun j _ _ _ => ⟨rfl, rfl⟩, fun j a b => by omega, fun j _ => rfl⟩
    · exact absurd ((congrArg Prod.fst (if_neg q : fpl c n 0 i R C x = (n, R, C))).symm.trans h1) (by show ¬ n = -1; omega)
  | m + 1, i, R, C, x, l, hb, h1, i0, n0 => by
    by_cases q : c i = 47 ∧ cer R C x ∧ R + 1 < 6
    · have e : fpl c n (m + 1) i R C x = fpl c n m (i + 1) (R + 1) x 0 := if_pos q
      have hk : kd (c i) = -1 := by rw [q.1]; rfl
      have el : rbl c (m + 1) i (R * C + x) l = rbl c m (i + 1) (R * C + x) l := if_neg (by omega)
      have ex : (R + 1) * x + 0 = R * C + x := by
        rcases q.2.1 with q | q
        · rw [q.1, Int.zero_mul, Int.zero_add, Int.one_mul, Int.zero_add, Int.add_zero]
        · rw [q.2, Int.add_mul, Int.one_mul, Int.add_zero]
      rw [e] at h1
      have := fpl_ok n m (i + 1) (R + 1) x 0 l (by omega) h1 (by omega) n0
      rw [ex] at this
      rw [e, el]
      exact this
    · by_cases q2 : ¬ kd (c i) = -1 ∧ cgr R C x
      · have e : fpl c n (m + 1) i R C x = fpl c n m (i + 1) R C (x + 1) := (if_neg q).trans (if_pos q2)
        have h48 : R * C + x < 48 := by
          rcases hb with hb | hb
          · rw [hb.1, Int.zero_mul]; omega
          · have a1 := Int.mul_le_mul_of_nonneg_right hb.2.1 (show 0 ≤ C by omega)
            have a2 : cgr R C x := q2.2
            omega
        have h0 : 0 ≤ R * C := Int.mul_nonneg (by omega) (by omega)
        have el : rbl c (m + 1) i (R * C + x) l = rbl c m (i + 1) (R * C + x + 1) (u1 (u1 l (8 + (R * C + x)) (kd (c i))) (56 + (R * C + x)) 0) := if_pos ⟨q2.1, h48⟩
        rw [e] at h1
        have := fpl_ok n m (i + 1) R C (x + 1) (u1 (u1 l (8 + (R * C + x)) (kd (c i))) (56 + (R * C + x)) 0) (by omega) h1 (by omega) n0
        rw [← Int.add_assoc] at this
        rw [e, el]
        generalize hK : R * C + x = K at *
        obtain ⟨y1, y2, y3, y4, y5, y6, y7⟩ := this
        have hkd := @kd_r (c i)
        refine ⟨y1, y2, by omega, y4, fun j a b d => ?_, fun j a b => ?_, fun j a => ?_⟩
        · obtain ⟨z1, z2⟩ := y5 j a (by omega) d
          exact ⟨z1.trans ((u1_ne (by omega)).trans (u1_ne (by omega))), z2.trans ((u1_ne (by omega)).trans (u1_ne (by omega)))⟩
        · by_cases qj : j = K
          · obtain ⟨z1, z2⟩ := y5 j (by omega) (by omega) (by omega)
            subst qj
            have e1 := z1.trans ((u1_ne (by omega)).trans u1_eq)
            have e2 := z2.trans u1_eq
            exact ⟨by omega, e2⟩
          · exact y6 j (by omega) b
        · exact (y7 j a).trans ((u1_ne (by omega)).trans (u1_ne (by omega)))
      · have e : fpl c n (m + 1) i R C x = (i, R, C) := (if_neg q).trans (if_neg q2)
        exact absurd ((congrArg Prod.fst e).symm.trans h1) (by show ¬ i = -1; omega)
theorem lay_l (hn : 0 ≤ n) (h1 : (fpl c n n.toNat 0 0 0 0).1 = -1) {j : Int} (hj : j < 8 ∨ 104 ≤ j) : lay c n (fpl c n n.toNat 0 0 0 0).2.1 (fpl c n n.toNat 0 0 0 0).2.2 l j = u1 (u1 (u1 (u1 (u1 l 0 (fpl c n n.toNat 0 0 0 0).2.1) 1 (fpl c n n.toNat 0 0 0 0).2.2) 2 0) 3 0) 4 0 j := by
  have := fpl_ok (c := c) n n.toNat 0 0 0 0 (u1 (u1 (u1 (u1 (u1 l 0 (fpl c n n.toNat 0 0 0 0).2.1) 1 (fpl c n n.toNat 0 0 0 0).2.2) 2 0) 3 0) 4 0) (by omega) h1 (by omega) hn
  rw [show (0 : Int) * 0 + 0 = 0 from rfl] at this
  exact this.2.2.2.2.2.2 j hj
theorem lay_cs (hn : 0 ≤ n) (h1 : (fpl c n n.toNat 0 0 0 0).1 = -1) : cs (lay c n (fpl c n n.toNat 0 0 0 0).2.1 (fpl c n n.toNat 0 0 0 0).2.2 l) = (fpl c n n.toNat 0 0 0 0).2.1 * (fpl c n n.toNat 0 0 0 0).2.2 := by
  unfold cs
  rw [lay_l hn h1 (by omega), lay_l hn h1 (by omega)]
  rw [show u1 (u1 (u1 (u1 (u1 l 0 (fpl c n n.toNat 0 0 0 0).2.1) 1 (fpl c n n.toNat 0 0 0 0).2.2) 2 0) 3 0) 4 0 0 = (fpl c n n.toNat 0 0 0 0).2.1 from (u1_ne (by omega)).trans ((u1_ne (by omega)).trans ((u1_ne (by omega)).trans ((u1_ne (by omega)).trans u1_eq))), show u1 (u1 (u1 (u1 (u1 l 0 (fpl c n n.toNat 0 0 0 0).2.1) 1 (fpl c n n.toNat 0 0 0 0).2.2) 2 0) 3 0) 4 0 1 = (fpl c n n.toNat 0 0 0 0).2.2 from (u1_ne (by omega)).trans ((u1_ne (by omega)).trans ((u1_ne (by omega)).trans u1_eq))]
theorem lay_rgc (hR : RgC l) (hn : 0 ≤ n) (h1 : (fpl c n n.toNat 0 0 0 0).1 = -1) : RgC (lay c n (fpl c n n.toNat 0 0 0 0).2.1 (fpl c n n.toNat 0 0 0 0).2.2 l) := by
  have := fpl_ok (c := c) n n.toNat 0 0 0 0 (u1 (u1 (u1 (u1 (u1 l 0 (fpl c n n.toNat 0 0 0 0).2.1) 1 (fpl c n n.toNat 0 0 0 0).2.2) 2 0) 3 0) 4 0) (by omega) h1 (by omega) hn
  rw [show (0 : Int) * 0 + 0 = 0 from rfl] at this
  generalize hr : fpl c n n.toNat 0 0 0 0 = F at *
  generalize hl : lay c n F.2.1 F.2.2 l = L
  have hl' : rbl c n.toNat 0 0 (u1 (u1 (u1 (u1 (u1 l 0 F.2.1) 1 F.2.2) 2 0) 3 0) 4 0) = L := hl
  rw [hl'] at this
  obtain ⟨y1, y2, y3, y4, y5, y6, y7⟩ := this
  obtain ⟨g0, g1, g2, g3, g4, gc, g5, g6, g7, gk, gl, gr, go⟩ := hR
  have e0 : L 0 = F.2.1 := (y7 0 (by omega)).trans ((u1_ne (by omega)).trans ((u1_ne (by omega)).trans ((u1_ne (by omega)).trans ((u1_ne (by omega)).trans u1_eq))))
  have e1 : L 1 = F.2.2 := (y7 1 (by omega)).trans ((u1_ne (by omega)).trans ((u1_ne (by omega)).trans ((u1_ne (by omega)).trans u1_eq)))
  have e2 : L 2 = 0 := (y7 2 (by omega)).trans ((u1_ne (by omega)).trans ((u1_ne (by omega)).trans u1_eq))
  have e3 : L 3 = 0 := (y7 3 (by omega)).trans ((u1_ne (by omega)).trans u1_eq)
  have e4 : L 4 = 0 := (y7 4 (by omega)).trans u1_eq
  have e5 (k : Int) (a : 5 ≤ k) (b : k < 8) : L k = l k := (y7 k (by omega)).trans ((u1_ne (by omega)).trans ((u1_ne (by omega)).trans ((u1_ne (by omega)).trans ((u1_ne (by omega)).trans (u1_ne (by omega))))))
  have ec : cs L = F.2.1 * F.2.2 := by unfold cs; rw [e0, e1]
  have h2 : 2 ≤ F.2.1 * F.2.2 := by
    have a1 := Int.mul_le_mul_of_nonneg_right y1.1 (show 0 ≤ F.2.2 by omega)
    omega
  have eu (k : Int) (a : 8 ≤ k) : u1 (u1 (u1 (u1 (u1 l 0 F.2.1) 1 F.2.2) 2 0) 3 0) 4 0 k = l k := (u1_ne (by omega)).trans ((u1_ne (by omega)).trans ((u1_ne (by omega)).trans ((u1_ne (by omega)).trans (u1_ne (by omega)))))
  unfold RgC
  rw [ec, e0, e1, e2, e3, e4, e5 5 (by omega) (by omega), e5 6 (by omega) (by omega), e5 7 (by omega) (by omega)]
  refine ⟨y1, y2, by omega, by omega, by omega, ⟨h2, y4⟩, g5, g6, g7, fun k a b => (y6 k a b).1, fun k a b => ?_, fun r a b => by omega, fun r a b => by omega⟩
  by_cases q : k < F.2.1 * F.2.2
  · rw [(y6 k a q).2]; omega
  · rw [(y5 k a (by omega) b).2, eu _ (by omega)]; exact gl k a b
theorem hi_pf {k : Nat} {nx ct v : Int} (H : HI h k nx ct kl) : ∃ h', q_pf h k 1 2 (.int (zi v)) = some h' ∧ HI h' k nx v kl ∧ Fr k 1 h h' := by
  obtain ⟨a, c, d⟩ := H
  obtain ⟨h', e1, e2, e3⟩ := obj_pf (k := 2) (v := .int (zi v)) a (Nat.le_of_ble_eq_true rfl)
  refine ⟨h', e1, ⟨e2, hia_fr c e3 (by omega), fun i x y => ?_⟩, e3⟩
  obtain ⟨pi, e⟩ := d i x y
  have := kw_b (k := k) x y
  exact ⟨pi, wh_fr e e3 (by omega)⟩
def pvx (nx : Int) : Int := if nx = 0 then 7 else nx - 1
theorem giveBack_x {k : Nat} (hk : 0 < ct) (hR : RgC (kl (pvx nx))) (hH : HI h k nx ct kl) (hW : WH h w l p) (hn : 0 ≤ nx ∧ nx < 8) (hc : 0 ≤ ct ∧ ct ≤ 8) (sp : w + 38 ≤ k ∨ k + 306 ≤ w) : ∃ r_ h', q_cl E q_m_X1_giveBack [Value.ref k, Value.ref w] h = some (r_, h') ∧ (r_ = .inl none ∧ ∃ l', (WH h' w l' p ∧ Lc l' (kl (pvx nx))) ∧ HI h' k (pvx nx) (ct - 1) kl ∧ ∃ h1 h2, Fr k 306 h h1 ∧ Fr w 38 h1 h2 ∧ Fr k 306 h2 h') := by
  unfold pvx at hR ⊢
  by_cases q : nx = 0
  · rw [if_pos q] at hR ⊢
    exact S_X1_giveBack_b q hk hR hH hW hn hc sp
  · rw [if_neg q] at hR ⊢
    exact S_X1_giveBack_a (by omega) hk hR hH hW hn hc sp
theorem S_X7_undo (hC : CA h x l ls nx ct kl n c hs fa kr kd_) (hR : RgC l) (hn : 0 ≤ nx ∧ nx < 8) (hc : 0 ≤ ct ∧ ct ≤ 8) (hRk : 0 < ct → RgC (kl (pvx nx)))  : ∃ r_ h', q_cl E q_m_X7_undo [Value.ref x] h = some (r_, h') ∧ ((0 < ct ∧ ∃ l', Lc l' (kl (pvx nx)) ∧ r_ = .inl (some (.int (zi (ct - 1)))) ∧ CA h' x l' ls (pvx nx) (ct - 1) kl n c hs fa kr kd_ ∧ Fr x 444 h h') ∨ ct = 0 ∧ r_ = .inr xIS ∧ h' = thr_ h) := by
  suffices K : ∀ Q : q_R → q_H → Prop, (∀ r_ h', ((0 < ct ∧ ∃ l', Lc l' (kl (pvx nx)) ∧ r_ = .inl (some (.int (zi (ct - 1)))) ∧ CA h' x l' ls (pvx nx) (ct - 1) kl n c hs fa kr kd_ ∧ Fr x 444 h h') ∨ ct = 0 ∧ r_ = .inr xIS ∧ h' = thr_ h) → Q r_ h') → Xv E q_m_X7_undo 0 [Value.ref x] [] h Q from K _ fun _ _ p => p
  intro Q hQ
  obtain ⟨g0, g1, g2, g3, g4, gc, g5, g6, g7, gk, gl, gr, go⟩ := id hR
  obtain ⟨hX, ⟨p, hW⟩, hSN, hHI, hTX, hDS, hPL⟩ := id hC
  refine xv (x_aload_n 1 d_X7_undo_0 rfl rfl) ?_
  refine xv (x_getfield 4 d_X7_undo_1 rfl f_7_22 (Nat.le_of_ble_eq_true rfl) (Nat.le_of_ble_eq_true rfl) (q_gf_of hX rfl)) ?_
  refine xv (x_getfield 7 d_X7_undo_4 rfl f_7_352 (Nat.le_of_ble_eq_true rfl) (Nat.le_of_ble_eq_true rfl) (q_gf_of hHI.1 rfl)) ?_
  refine v_if_gt 18 10 d_X7_undo_7 rfl rfl (by omega) (by omega) (fun k7 => ?_) (fun k7 => ?_)
  · have hRk := hRk (by omega)
    refine xv (x_aload_n 19 d_X7_undo_18 rfl rfl) ?_
    refine xv (x_getfield 22 d_X7_undo_19 rfl f_7_22 (Nat.le_of_ble_eq_true rfl) (Nat.le_of_ble_eq_true rfl) (q_gf_of hX rfl)) ?_
    refine xv (x_aload_n 23 d_X7_undo_22 rfl rfl) ?_
    refine xv (x_getfield 26 d_X7_undo_23 rfl f_7_12 (Nat.le_of_ble_eq_true rfl) (Nat.le_of_ble_eq_true rfl) (q_gf_of hX rfl)) ?_
    obtain ⟨r26, h26, e26, z26, l26, ⟨w26, c26⟩, i26, ha26, hb26, fa26, fb26, fc26⟩ := giveBack_x (E := E) (by omega) hRk hHI hW hn hc (by omega)
    subst z26
    have X_26a := (fa26.2 _ (by omega)).trans hX
    have SN_26a := sn_fr hSN fa26 (by omega)
    have TX_26a := tx_fr hTX fa26 (by omega)
    have DS_26a := ds_fr hDS fa26 (by omega)
    have PLX_26a := plx_fr hPL fa26 (by omega)
    have F26a : Fr x 444 h ha26 := fr_tr fr_rf (fr_in fa26 (by omega) (by omega))
    have X_26b := (fb26.2 _ (by omega)).trans X_26a
    have SN_26b := sn_fr SN_26a fb26 (by omega)
    have TX_26b := tx_fr TX_26a fb26 (by omega)
    have DS_26b := ds_fr DS_26a fb26 (by omega)
    have PLX_26b := plx_fr PLX_26a fb26 (by omega)
    have F26b : Fr x 444 h hb26 := fr_tr F26a (fr_in fb26 (by omega) (by omega))
    have X_26c := (fc26.2 _ (by omega)).trans X_26b
    have SN_26c := sn_fr SN_26b fc26 (by omega)
    have TX_26c := tx_fr TX_26b fc26 (by omega)
    have DS_26c := ds_fr DS_26b fc26 (by omega)
    have PLX_26c := plx_fr PLX_26b fc26 (by omega)
    have F26c : Fr x 444 h h26 := fr_tr F26b (fr_in fc26 (by omega) (by omega))
    refine xv (x_inv0 29 (as := [Value.ref (x + 1)]) d_X7_undo_26 rfl c_7_355 rfl (Nat.le_of_ble_eq_true rfl) (Nat.le_of_ble_eq_true rfl) hHI.1 (Nat.le_of_ble_eq_true rfl) (Nat.le_of_ble_eq_true rfl) rfl e26) ?_
    show Xv E q_m_X7_undo 29 [Value.ref x] [] h26 Q
    refine xv (x_aload_n 30 d_X7_undo_29 rfl rfl) ?_
    refine xv (x_getfield 33 d_X7_undo_30 rfl f_7_22 (Nat.le_of_ble_eq_true rfl) (Nat.le_of_ble_eq_true rfl) (q_gf_of X_26c rfl)) ?_
    refine xv (x_getfield 36 d_X7_undo_33 rfl f_7_352 (Nat.le_of_ble_eq_true rfl) (Nat.le_of_ble_eq_true rfl) (q_gf_of i26.1 rfl)) ?_
    refine xv_r (x_ireturn d_X7_undo_36 rfl rfl) ?_
    exact hQ _ _ (.inl ⟨by omega, _, c26, rfl, ⟨X_26c, ⟨_, w26⟩, SN_26c, i26, TX_26c, DS_26c, PLX_26c⟩, F26c⟩)
  · refine xv_r (x_throw d_X7_undo_10 rfl rfl (Nat.le_of_ble_eq_true rfl) (Nat.le_of_ble_eq_true rfl) rfl rfl (Nat.le_of_ble_eq_true rfl)) ?_
    exact hQ _ _ (.inr ⟨by omega, rfl, rfl⟩)
theorem S_X7_append (hC : CA h x l ls nx ct kl n c hs fa kr kd_) (hR : RgC l) (hn : 0 ≤ nx ∧ nx < 8) (hc : 0 ≤ ct ∧ ct ≤ 8) (hnn : 0 ≤ n ∧ n ≤ 60) {y : Int} (hy : 0 ≤ y ∧ y < 65536)  : ∃ r_ h', q_cl E q_m_X7_append [Value.ref x, Value.int (zi y)] h = some (r_, h') ∧ ((n < 60 ∧ r_ = .inl (some (.int (zi (n + 1)))) ∧ CA h' x l ls nx ct kl (n + 1) (u1 c n y) hs fa kr kd_ ∧ Fr x 444 h h') ∨ 60 ≤ n ∧ r_ = .inr xIS ∧ h' = thr_ h) := by
  suffices K : ∀ Q : q_R → q_H → Prop, (∀ r_ h', ((n < 60 ∧ r_ = .inl (some (.int (zi (n + 1)))) ∧ CA h' x l ls nx ct kl (n + 1) (u1 c n y) hs fa kr kd_ ∧ Fr x 444 h h') ∨ 60 ≤ n ∧ r_ = .inr xIS ∧ h' = thr_ h) → Q r_ h') → Xv E q_m_X7_append 0 [Value.ref x, Value.int (zi y)] [] h Q from K _ fun _ _ p => p
  intro Q hQ
  obtain ⟨g0, g1, g2, g3, g4, gc, g5, g6, g7, gk, gl, gr, go⟩ := id hR
  obtain ⟨hX, ⟨p, hW⟩, hSN, hHI, ⟨R0, C0, hT, hTC⟩, hDS, hPL⟩ := id hC
  refine xv (x_aload_n 1 d_X7_append_0 rfl rfl) ?_
  refine xv (x_getfield 4 d_X7_append_1 rfl f_7_29 (Nat.le_of_ble_eq_true rfl) (Nat.le_of_ble_eq_true rfl) (q_gf_of hX rfl)) ?_
  refine xv (x_inv1 7 (as := []) d_X7_append_4 rfl c_7_63 rfl (Nat.le_of_ble_eq_true rfl) (Nat.le_of_ble_eq_true rfl) hT (Nat.le_of_ble_eq_true rfl) (Nat.le_of_ble_eq_true rfl) rfl (S_X2_isFull hT hTC (by omega))) ?_
  show Xv E q_m_X7_append 7 [Value.ref x, Value.int (zi y)] [Value.int (zi (bI (60 ≤ n)))] h Q
  refine v_if_eq 18 10 d_X7_append_7 rfl rfl (by have := bI_r (60 ≤ n); omega) (by have := bI_r (60 ≤ n); omega) (fun k7 => ?_) (fun k7 => ?_)
  · replace k7 := bI_0.mp k7
    refine xv (x_aload_n 19 d_X7_append_18 rfl rfl) ?_
    refine xv (x_getfield 22 d_X7_append_19 rfl f_7_29 (Nat.le_of_ble_eq_true rfl) (Nat.le_of_ble_eq_true rfl) (q_gf_of hX rfl)) ?_
    refine xv (x_iload_n 23 d_X7_append_22 rfl rfl) ?_
    obtain ⟨r23, h23, e23, z23, ⟨w23, c23⟩, f23⟩ := S_X2_take (E := E) (x := y) hT hTC (by omega) (by omega)
    subst z23
    have X_23 := (f23.2 _ (by omega)).trans hX
    have W_23 := wh_fr hW f23 (by omega)
    have SN_23 := sn_fr hSN f23 (by omega)
    have HI_23 := hi_fr hHI f23 (by omega)
    have DS_23 := ds_fr hDS f23 (by omega)
    have PLX_23 := plx_fr hPL f23 (by omega)
    have F23 : Fr x 444 h h23 := fr_tr fr_rf (fr_in f23 (by omega) (by omega))
    refine xv (x_inv0 26 (as := [Value.int (zi y)]) d_X7_append_23 rfl c_7_70 rfl (Nat.le_of_ble_eq_true rfl) (Nat.le_of_ble_eq_true rfl) hT (Nat.le_of_ble_eq_true rfl) (Nat.le_of_ble_eq_true rfl) rfl e23) ?_
    show Xv E q_m_X7_append 26 [Value.ref x, Value.int (zi y)] [] h23 Q
    refine xv (x_aload_n 27 d_X7_append_26 rfl rfl) ?_
    refine xv (x_getfield 30 d_X7_append_27 rfl f_7_29 (Nat.le_of_ble_eq_true rfl) (Nat.le_of_ble_eq_true rfl) (q_gf_of X_23 rfl)) ?_
    refine xv (x_getfield 33 d_X7_append_30 rfl f_7_74 (Nat.le_of_ble_eq_true rfl) (Nat.le_of_ble_eq_true rfl) (q_gf_of w23 rfl)) ?_
    refine xv_r (x_ireturn d_X7_append_33 rfl rfl) ?_
    exact hQ _ _ (.inl ⟨by omega, rfl, ⟨X_23, ⟨_, W_23⟩, SN_23, HI_23, ⟨_, _, w23, c23⟩, DS_23, PLX_23⟩, F23⟩)
  · replace k7 := bI_n0.mp k7
    refine xv_r (x_throw d_X7_append_10 rfl rfl (Nat.le_of_ble_eq_true rfl) (Nat.le_of_ble_eq_true rfl) rfl rfl (Nat.le_of_ble_eq_true rfl)) ?_
    exact hQ _ _ (.inr ⟨by omega, rfl, rfl⟩)
end CV3
