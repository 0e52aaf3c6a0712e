/-! both rows after a change, seventh: ticks pass, the end -/
section PL_
variable {l m m' W x f g l0 : Int → Int} {c w r o t a b i y z ro fr to T ct k d e v N : Int} {n : Nat}
/-- bounds as ticks pass -/
abbrev Jk (T k : Int) (m : Int → Int) : Prop := Rg m ∧ 0 ≤ m 2 ∧ TBk T k m
theorem jk_tk (h : Jk T k m) (hr : isR m k) (h0 : 0 ≤ T) (h1 : T ≤ 98000) : Jk T (k + 1) (tk1 m k) ∧ (∀ i, i < 104 → tk1 m k i = m i) ∧ (∀ i, 320 ≤ i → tk1 m k i = m i) := by
  obtain ⟨q1, q2, q3, q4, q5⟩ := tk1_ok h.1 h.2.1 hr h.2.2 h0 (by omega)
  exact ⟨⟨q1, by rw [q3 2 (by omega)]; exact h.2.1, q2⟩, q3, q4⟩
theorem jk_en (h : Jk T k m) (hr : isR m r) (h0 : 0 ≤ T) (h1 : T ≤ 98000) : Jk T k (enL m r) := by
  have hB : TB0 (T + 1) m := tbk_0 h.2.2
  obtain ⟨q1, q2, q3, q4⟩ := enL_ok h.1 h.2.1 hr hB (by omega) (by omega)
  refine ⟨q1, by rw [q3 2 (by omega)]; exact h.2.1, ⟨q2.1, fun r' a b => ?_, q2.2.2⟩⟩
  refine ⟨q2.2.1 r' a b, fun e => ?_⟩
  rw [q3 3 (by omega)] at b
  have hr' : isR m r' := ⟨a, b⟩
  rw [q4 r' hr' 1 (by omega) (by omega) (by omega), q4 r' hr' 5 (by omega) (by omega) (by omega)]
  exact (h.2.2.2.1 r' a b).2 e
theorem jk_48 (h : Jk T k m) (hr : isR m r) : Lo48 m r ∧ (0 ≤ rb m r 3 ∧ rb m r 3 ≤ 30) ∧ (0 ≤ rb m r 2 → 0 ≤ ob m (rb m r 2) 2) := by
  have hC := rgc_of h.1 h.2.1
  have q := rgc_r hC hr
  have gc := hC.2.2.2.2.2.1
  exact ⟨⟨q.1.1, by omega⟩, q.2.2.2.1, fun z => (rgc_o hC ⟨z, q.2.2.1.2⟩).2.2.1.1⟩
theorem en_mt1 (hr : 0 ≤ r ∧ r < 6) (hN : N ≤ 6) : ∀ (n : Nat) (j : Int) (m : Int → Int), r < j → j + n = N → Lo48 m r → (0 ≤ rb m r 2 → 0 ≤ ob m (rb m r 2) 2) → (∀ i, j ≤ i → i < N → Lo48 m i ∧ (0 ≤ rb m i 3 ∧ rb m i 3 ≤ 30)) → enL (mt1 n j m) r = mt1 n j (enL m r) ∧ enV (mt1 n j m) r = enV m r
  | 0, _, _, _, _, _, _, _ => ⟨rfl, rfl⟩
  | n + 1, j, m, hj, hn, h48, hp, hi => by
    show enL (mt1 n (j + 1) (tk1 m j)) r = mt1 n (j + 1) (tk1 (enL m r) j) ∧ enV (mt1 n (j + 1) (tk1 m j)) r = enV m r
    have e (y i : Int) (a : 0 ≤ i) (b : i < 36) (c : y ≠ j) : rb (tk1 m j) y i = rb m y i := by
      rw [tk1_F]; exact rset_ne a b c
    have eo (o k : Int) (a : 0 ≤ 8 * o + k) : ob (tk1 m j) o k = ob m o k := by
      rw [tk1_F]; exact rset_o (k := 320 + 8 * o + k) (by omega)
    obtain ⟨c1, c2⟩ := en_tk1 hr (show 0 ≤ j ∧ j < 6 by omega) (show r ≠ j by omega) h48 (hi j (Int.le_refl j) (by omega)).1 (hi j (Int.le_refl j) (by omega)).2 hp
    obtain ⟨d1, d2⟩ := en_mt1 hr hN n (j + 1) (tk1 m j) (by omega) (by omega) (by unfold Lo48; rw [e r 0 (by omega) (by omega) (by omega)]; exact h48)
      (by rw [e r 2 (by omega) (by omega) (by omega)]; intro z; rw [eo _ 2 (by omega)]; exact hp z)
      (fun i a b => by unfold Lo48; rw [e i 0 (by omega) (by omega) (by omega), e i 3 (by omega) (by omega) (by omega)]; exact hi i (by omega) b)
    rw [d1, d2, c1, c2]
    exact ⟨rfl, rfl⟩
theorem fs_jk (h : Jk T k m) (hr : isR m k) (h0 : 0 ≤ T) (h1 : T ≤ 98000) : Jk T (k + 1) (fs1 l0 m k) ∧ ∀ i, i < 104 → fs1 l0 m k i = m i := by
  obtain ⟨q1, q2, q3⟩ := jk_tk h hr h0 h1
  have hr1 : isR (tk1 m k) k := by unfold isR; rw [q2 3 (by omega)]; exact hr
  have g3 := h.1.2.2.2.1
  unfold fs1
  split
  · exact ⟨jk_en q1 hr1 h0 h1, fun i hi => (enL_o ⟨hr.1, by have := hr.2; omega⟩ i hi).trans (q2 i hi)⟩
  · exact ⟨q1, q2⟩
/-- two passes are one -/
theorem mt_fs (h0 : 0 ≤ T) (h1 : T ≤ 98000) : ∀ (n : Nat) (k : Int) (m : Int → Int) (d : Int), 0 ≤ k → k + n = m 3 → Jk T k m → mt2 l0 n k (mt1 n k m) = fsR l0 n k m ∧ mtV l0 n k (mt1 n k m) d = fsV l0 n k m d
  | 0, _, _, _, _, _, _ => ⟨rfl, rfl⟩
  | n + 1, k, m, d, hk, hn, hJ => by
    have hr : isR m k := ⟨hk, by omega⟩
    have g3 := hJ.1.2.2.2.1
    obtain ⟨q1, q2, q3⟩ := jk_tk hJ hr h0 h1
    obtain ⟨p1, p2⟩ := fs_jk (l0 := l0) hJ hr h0 h1
    have hr1 : isR (tk1 m k) k := by unfold isR; rw [q2 3 (by omega)]; exact hr
    have hy := jk_48 q1 hr1
    obtain ⟨c1, c2⟩ := en_mt1 (N := m 3) (r := k) ⟨hk, by omega⟩ g3.2 n (k + 1) (tk1 m k) (by omega) (by omega) hy.1 hy.2.2 (fun i a b => by
      have := jk_48 q1 (show isR (tk1 m k) i from ⟨by omega, by rw [q2 3 (by omega)]; exact b⟩)
      exact ⟨this.1, this.2.1⟩)
    obtain ⟨i1, i2⟩ := mt_fs h0 h1 n (k + 1) (fs1 l0 m k) (d + fsV1 l0 m k) (by omega) (by rw [p2 3 (by omega)]; omega) p1
    show mt2 l0 n (k + 1) (if rb l0 k 3 = 1 then enL (mt1 n (k + 1) (tk1 m k)) k else mt1 n (k + 1) (tk1 m k)) = fsR l0 n (k + 1) (fs1 l0 m k) ∧ mtV l0 n (k + 1) (if rb l0 k 3 = 1 then enL (mt1 n (k + 1) (tk1 m k)) k else mt1 n (k + 1) (tk1 m k)) (d + (if rb l0 k 3 = 1 then enV (mt1 n (k + 1) (tk1 m k)) k else 0)) = fsV l0 n (k + 1) (fs1 l0 m k) (d + fsV1 l0 m k)
    rw [← i1, ← i2, c1, c2]
    unfold fs1 fsV1
    by_cases z : rb l0 k 3 = 1
    · rw [if_pos z, if_pos z, if_pos z]
      exact ⟨rfl, rfl⟩
    · rw [if_neg z, if_neg z, if_neg z]
      exact ⟨rfl, rfl⟩
theorem tkL_1 (hr : 0 ≤ r) (h3 : 0 ≤ rb l r 3) : tkL l r = (if rb l r 3 = 1 then epL (tk1 l r) r else tk1 l r) ∧ tkV l r = if rb l r 3 = 1 then epV (tk1 l r) r else 0 := by
  have e3 : rb (tkm l r) r 3 = rb l r 3 - 1 := tkm_3 hr
  unfold tkL tkV tk1
  rw [e3]
  by_cases q : 0 < rb l r 3
  · rw [if_pos q, if_pos q]
    by_cases u : rb l r 3 = 1
    · rw [if_pos (by omega), if_pos u, if_pos ⟨q, by omega⟩, if_pos u]
      exact ⟨rfl, rfl⟩
    · rw [if_neg (by omega), if_neg u, if_neg (by omega), if_neg u]
      exact ⟨rfl, rfl⟩
  · rw [if_neg q, if_neg q, if_neg (show ¬ rb l r 3 = 1 by omega), if_neg (show ¬ (0 < rb l r 3 ∧ rb l r 3 - 1 = 0) from fun z => q z.1), if_neg (show ¬ rb l r 3 = 1 by omega)]
    exact ⟨rfl, rfl⟩
theorem sm_tkL (hS : Sm l m) (h : Jk T k m) (hr : isR m k) (h0 : 0 ≤ T) (h1 : T ≤ 98000) (he : rb l0 k 3 = rb m k 3) : Sm (tkL l k) (fs1 l0 m k) ∧ tkV l k = fsV1 l0 m k := by
  have hC := rgc_of h.1 h.2.1
  have h3 := (rgc_r hC hr).2.2.2.1
  have e3 := sm_rb hS hr (i := 3) (by omega) (by omega)
  obtain ⟨t1, t2⟩ := tkL_1 (l := l) (r := k) hr.1 (by rw [e3]; exact h3.1)
  obtain ⟨q1, q2, q3⟩ := jk_tk h hr h0 h1
  have hS1 := sm_tk1 hS hC hr
  have hr1 : isR (tk1 m k) k := by unfold isR; rw [q2 3 (by omega)]; exact hr
  have hC1 := rgc_of q1.1 q1.2.1
  rw [t1, t2, e3]
  unfold fs1 fsV1
  rw [he]
  by_cases z : rb m k 3 = 1
  · rw [if_pos z, if_pos z, if_pos z, if_pos z]
    obtain ⟨p1, p2⟩ := sm_epL hS1 hC1 hr1
    obtain ⟨n1, n2⟩ := en_ep hC1 hr1
    rw [n1, n2]
    refine ⟨?_, p2⟩
    split
    · rename_i u
      have hB : TB0 (T + 1) (tk1 m k) := tbk_0 q1.2.2
      exact sm_by p1 (epL_ok hC1 hr1 (tb_99 hB (by omega) (by omega)) (by omega)).1 u.1.1
    · exact p1
  · rw [if_neg z, if_neg z, if_neg z, if_neg z]
    exact ⟨hS1, rfl⟩
theorem fs_rb (h : Jk T k m) (hr : isR m k) (h0 : 0 ≤ T) (h1 : T ≤ 98000) (hy : isR m y) (hne : y ≠ k) (hi : 0 ≤ i ∧ i < 36) : rb (fs1 l0 m k) y i = rb m y i := by
  have g3 := h.1.2.2.2.1
  have e : rb (tk1 m k) y i = rb m y i := by rw [tk1_F]; exact rset_ne hi.1 hi.2 hne
  unfold fs1
  split
  · rw [enL_rb ⟨hr.1, by have := hr.2; omega⟩ ⟨hy.1, by have := hy.2; omega⟩ hi (.inl hne)]
    exact e
  · exact e
theorem sm_tkr (h0 : 0 ≤ T) (h1 : T ≤ 98000) : ∀ (n : Nat) (k : Int) (l m : Int → Int) (d : Int), 0 ≤ k → k + n = m 3 → Jk T k m → Sm l m → (∀ r, k ≤ r → r < m 3 → rb l0 r 3 = rb m r 3) → Sm (tkr n k l) (fsR l0 n k m) ∧ tkd n k l d = fsV l0 n k m d
  | 0, _, _, _, _, _, _, _, hS, _ => ⟨hS, rfl⟩
  | n + 1, k, l, m, d, hk, hn, hJ, hS, he => by
    have hr : isR m k := ⟨hk, by omega⟩
    obtain ⟨p1, p2⟩ := fs_jk (l0 := l0) hJ hr h0 h1
    obtain ⟨s1, s2⟩ := sm_tkL (l0 := l0) hS hJ hr h0 h1 (he k (Int.le_refl k) hr.2)
    show Sm (tkr n (k + 1) (tkL l k)) (fsR l0 n (k + 1) (fs1 l0 m k)) ∧ tkd n (k + 1) (tkL l k) (d + tkV l k) = fsV l0 n (k + 1) (fs1 l0 m k) (d + fsV1 l0 m k)
    rw [s2]
    refine sm_tkr h0 h1 n (k + 1) _ _ _ (by omega) (by rw [p2 3 (by omega)]; omega) p1 s1 fun r a b => ?_
    rw [p2 3 (by omega)] at b
    rw [fs_rb hJ hr h0 h1 ⟨by omega, b⟩ (by omega) (by omega)]
    exact he r (by omega) b
/-- where a robot is a tick later -/
theorem ahd_tk1 (hC : RgC m) (hr : isR m r) (ht : 0 ≤ t) : ahd (tk1 m r) r t = ahd m r (t + 1) := by
  have h3 := (rgc_r hC hr).2.2.2.1
  have h7 (h : 0 < rb m r 3) : ahf (rb m r) 1 = rb m r 6 := by
    unfold ahf
    rw [if_neg (by omega), if_neg (by omega)]
    rfl
  have e (j : Int) (a : 0 ≤ j) (b : j < 36) : rb (tk1 m r) r j = (if 0 < rb m r 3 then gon (rb m r) else if m (8 + rb m r 0) = 2 then u1 (rb m r) 1 (min 99 (rb m r 1 + m 5)) else rb m r) j := by
    rw [tk1_F]; exact rset_eq a b
  by_cases q : 0 < rb m r 3
  · rw [if_pos q] at e
    unfold ahd
    show (if t = 0 ∨ rb (tk1 m r) r 3 = 0 then rb (tk1 m r) r 0 else rb (tk1 m r) r (6 + (if t > rb (tk1 m r) r 3 then rb (tk1 m r) r 3 else t) - 1)) = if t + 1 = 0 ∨ rb m r 3 = 0 then rb m r 0 else rb m r (6 + (if t + 1 > rb m r 3 then rb m r 3 else t + 1) - 1)
    rw [e 3 (by omega) (by omega), gon_3, e 0 (by omega) (by omega), gon_0, h7 q, if_neg (show ¬ (t + 1 = 0 ∨ rb m r 3 = 0) by omega)]
    by_cases u : t = 0 ∨ rb m r 3 - 1 = 0
    · rw [if_pos u]
      congr 1
      split <;> omega
    · rw [if_neg u, e _ (by split <;> omega) (by split <;> omega)]
      have := gon_p (f := rb m r) (t := (if t > rb m r 3 - 1 then rb m r 3 - 1 else t) - 1) (by split <;> omega) (by split <;> omega)
      rw [show 6 + (if t > rb m r 3 - 1 then rb m r 3 - 1 else t) - 1 = 6 + ((if t > rb m r 3 - 1 then rb m r 3 - 1 else t) - 1) by omega, this]
      congr 1
      split <;> split <;> omega
  · have z : rb m r 3 = 0 := by omega
    rw [if_neg q] at e
    have e0 : rb (tk1 m r) r 0 = rb m r 0 := by
      rw [e 0 (by omega) (by omega)]
      split
      · exact u1_ne (by omega)
      · rfl
    have e3 : rb (tk1 m r) r 3 = 0 := by
      rw [e 3 (by omega) (by omega)]
      split
      · rw [u1_ne (by omega)]; exact z
      · exact z
    show (if t = 0 ∨ rb (tk1 m r) r 3 = 0 then rb (tk1 m r) r 0 else _) = if t + 1 = 0 ∨ rb m r 3 = 0 then rb m r 0 else _
    rw [if_pos (.inr e3), if_pos (.inr z), e0]
theorem ahd_en (hr : 0 ≤ r ∧ r < 6) (hy : 0 ≤ y ∧ y < 6) (h3 : 0 ≤ rb m y 3 ∧ rb m y 3 ≤ 30) (ht : 0 ≤ t) : ahd (enL m r) y t = ahd m y t := by
  have e (j : Int) (a : 0 ≤ j) (b : j < 36) (c : j ≠ 2) : rb (enL m r) y j = rb m y j := enL_rb hr hy ⟨a, b⟩ (.inr c)
  unfold ahd ahf
  rw [e 0 (by omega) (by omega) (by omega), e 3 (by omega) (by omega) (by omega)]
  by_cases q : t = 0 ∨ rb m y 3 = 0
  · rw [if_pos q, if_pos q]
  · rw [if_neg q, if_neg q]
    exact e _ (by split <;> omega) (by split <;> omega) (by split <;> omega)
theorem hb_en (hR : Rg m) (hT : 0 ≤ m 2) (hr : isR m r) (hH : HBm m) : HBm (enL m r) := by
  have hC := rgc_of hR hT
  have g3 := hC.2.2.2.1
  have r6 : 0 ≤ r ∧ r < 6 := ⟨hr.1, by have := hr.2; omega⟩
  have q2 := (rgc_r hC hr).2.2.1
  have gO := hR.2.2.2.2.2.2.2.2.2.2.2.2
  by_cases c0 : rb m r 2 < 0
  · have : enL m r = m := if_pos c0
    rw [this]; exact hH
  · have ho : isO m (rb m r 2) := ⟨by omega, q2.2⟩
    have hz := hH.1 r hr ho.1
    have e3 : enL m r 3 = m 3 := enL_o r6 3 (by omega)
    have e4 : enL m r 4 = m 4 := enL_o r6 4 (by omega)
    have eR (y : Int) : isR (enL m r) y ↔ isR m y := by unfold isR; rw [e3]
    have eO (o : Int) : isO (enL m r) o ↔ isO m o := by unfold isO; rw [e4]
    have erb (y : Int) (a : isR m y) (h : y ≠ r) : rb (enL m r) y 2 = rb m y 2 := enL_rb r6 ⟨a.1, by have := a.2; omega⟩ (by omega) (.inl h)
    generalize hzz : rb m r 2 = z at *
    by_cases c1 : ob m z 2 < ob m z 1
    · have ee : enL m r = u1 m (320 + 8 * z + 2) (ob m z 2 + (if ob m z (5 + ob m z 2) = rb m r 0 then 1 else 0)) := by
        unfold enL
        rw [hzz, if_neg c0, if_pos c1]
      have er2 : rb (enL m r) r 2 = z := by rw [ee, rb_uo (by omega) r6.2 ho.1 (by omega)]; exact hzz
      have eob (o j : Int) (a : 0 ≤ o) (b : 0 ≤ j ∧ j < 8) (c : o ≠ z ∨ j ≠ 2) : ob (enL m r) o j = ob m o j := by rw [ee]; exact obu_ne b (by omega) c
      refine ⟨fun y a b => ?_, fun o a b => ?_, fun o a b c => ?_⟩
      · have a := (eR y).mp a
        by_cases q : y = r
        · rw [q, er2, eob z 3 ho.1 (by omega) (by omega), eob z 4 ho.1 (by omega) (by omega)]
          exact hz
        · rw [erb y a q] at b ⊢
          rw [eob _ 3 b (by omega) (by omega), eob _ 4 b (by omega) (by omega)]
          exact hH.1 y a b
      · have a := (eO o).mp a
        rw [eob o 3 a.1 (by omega) (by omega)] at b ⊢
        have hb := (gO o a.1 a.2).2
        by_cases q : ob m o 3 = r
        · rw [q, er2]
          have := hH.2.1 o a b
          rw [q, hzz] at this
          exact this
        · rw [erb _ ⟨b, hb.2⟩ q]
          exact hH.2.1 o a b
      · have a := (eO o).mp a
        rw [eob o 3 a.1 (by omega) (by omega)] at b
        rw [eob o 4 a.1 (by omega) (by omega)] at c
        by_cases q : o = z
        · rw [q, hz.1] at b; omega
        · rw [eob o 2 a.1 (by omega) (.inl q)]
          exact hH.2.2 o a b c
    · by_cases c2 : m (8 + rb m r 0) = 3
      · have ee : enL m r = u1 (u1 (u1 m (320 + 8 * z + 4) (m 2)) (320 + 8 * z + 3) (-1)) (104 + 36 * r + 2) (-1) := by
          unfold enL
          rw [hzz, if_neg c0, if_neg c1, if_pos c2]
        have er2 : rb (enL m r) r 2 = -1 := by rw [ee]; exact rbu_eq
        have eob (o j : Int) (a : 0 ≤ o) (b : 0 ≤ j ∧ j < 8) (c : o ≠ z ∨ (j ≠ 3 ∧ j ≠ 4)) : ob (enL m r) o j = ob m o j := by
          rw [ee, ob_ur b.1 r6.2 a (by omega), obu_ne b (by omega) (by omega), obu_ne b (by omega) (by omega)]
        have eo3 : ob (enL m r) z 3 = -1 := by rw [ee, ob_ur (by omega) r6.2 ho.1 (by omega)]; exact obu_eq
        have eo4 : ob (enL m r) z 4 = m 2 := by rw [ee, ob_ur (by omega) r6.2 ho.1 (by omega), obu_ne (by omega) (by omega) (by omega)]; exact obu_eq
        refine ⟨fun y a b => ?_, fun o a b => ?_, fun o a b c => ?_⟩
        · have a := (eR y).mp a
          by_cases q : y = r
          · rw [q, er2] at b; omega
          · rw [erb y a q] at b ⊢
            have hy := hH.1 y a b
            have hne : rb m y 2 ≠ z := fun e => by rw [e, hz.1] at hy; exact q hy.1.symm
            rw [eob _ 3 b (by omega) (.inl hne), eob _ 4 b (by omega) (.inl hne)]
            exact hy
        · have a := (eO o).mp a
          by_cases q : o = z
          · rw [q, eo3] at b; omega
          · rw [eob o 3 a.1 (by omega) (.inl q)] at b ⊢
            have hb := (gO o a.1 a.2).2
            have h4 := hH.2.1 o a b
            have hne : ob m o 3 ≠ r := fun e => by rw [e, hzz] at h4; exact q h4.symm
            rw [erb _ ⟨b, hb.2⟩ hne]
            exact h4
        · have a := (eO o).mp a
          by_cases q : o = z
          · rw [q, eo4] at c; omega
          · rw [eob o 3 a.1 (by omega) (.inl q)] at b
            rw [eob o 4 a.1 (by omega) (.inl q)] at c
            rw [eob o 2 a.1 (by omega) (.inl q)]
            exact hH.2.2 o a b c
      · have : enL m r = m := by
          unfold enL
          rw [hzz, if_neg c0, if_neg c1, if_neg c2]
        rw [this]; exact hH
theorem hb_tk1 (hC : RgC m) (hr : isR m r) (hR : Rg m) (hH : HBm m) : HBm (tk1 m r) := by
  have r0 := hr.1
  have g3 := hC.2.2.2.1
  have r1 := hr.2
  refine ord_hb ⟨⟨?_, ?_⟩, fun y hy => ?_, fun o ho => ?_⟩ hC hR hH
  · rw [tk1_F]; exact rset_o (by omega)
  · rw [tk1_F]; exact rset_o (by omega)
  · rw [tk1_F]
    by_cases q : y = r
    · rw [q, rset_eq (by omega) (by omega)]
      split
      · exact gon_2
      · split
        · exact u1_ne (by omega)
        · rfl
    · exact rset_ne (by omega) (by omega) q
  · have := ho.1
    rw [tk1_F]
    exact ⟨rset_o (k := 320 + 8 * o + 3) (by omega), rset_o (k := 320 + 8 * o + 4) (by omega), rset_o (k := 320 + 8 * o + 2) (by omega)⟩
/-- after the robots below k have had their tick -/
theorem fs_inv (h0 : 0 ≤ T) (h1 : T ≤ 98000) : ∀ (n : Nat) (k : Int) (m : Int → Int), 0 ≤ k → k + n = m 3 → Jk T k m → HBm m → HBm (fsR l0 n k m) ∧ (∀ i, i < 104 → fsR l0 n k m i = m i) ∧ (∀ r, 0 ≤ r → r < k → ∀ t, 0 ≤ t → ahd (fsR l0 n k m) r t = ahd m r t) ∧ (∀ r, k ≤ r → r < m 3 → ∀ t, 0 ≤ t → ahd (fsR l0 n k m) r t = ahd m r (t + 1))
  | 0, k, m, hk, hn, _, hH => ⟨hH, fun _ _ => rfl, fun _ _ _ _ _ => rfl, fun r a b => by omega⟩
  | n + 1, k, m, hk, hn, hJ, hH => by
    have hr : isR m k := ⟨hk, by omega⟩
    have hC := rgc_of hJ.1 hJ.2.1
    have g3 := hC.2.2.2.1
    have k6 : 0 ≤ k ∧ k < 6 := ⟨hk, by omega⟩
    obtain ⟨p1, p2⟩ := fs_jk (l0 := l0) hJ hr h0 h1
    obtain ⟨q1, q2, q3⟩ := jk_tk hJ hr h0 h1
    have hr1 : isR (tk1 m k) k := by unfold isR; rw [q2 3 (by omega)]; exact hr
    have hH1 := hb_tk1 hC hr hJ.1 hH
    have hH2 : HBm (fs1 l0 m k) := by
      unfold fs1
      split
      · exact hb_en q1.1 q1.2.1 hr1 hH1
      · exact hH1
    have ea (y t : Int) (hy : isR m y) (ht : 0 ≤ t) : ahd (fs1 l0 m k) y t = ahd (tk1 m k) y t := by
      unfold fs1
      split
      · have hy1 : isR (tk1 m k) y := by unfold isR; rw [q2 3 (by omega)]; exact hy
        exact ahd_en k6 ⟨hy.1, by have := hy.2; omega⟩ (jk_48 q1 hy1).2.1 ht
      · rfl
    have eb (y t : Int) (hy : isR m y) (h : y ≠ k) (ht : 0 ≤ t) : ahd (tk1 m k) y t = ahd m y t := ahd_cg hC hy ht fun j a b _ => by rw [tk1_F]; exact rset_ne a b h
    obtain ⟨i1, i2, i3, i4⟩ := fs_inv h0 h1 n (k + 1) (fs1 l0 m k) (by omega) (by rw [p2 3 (by omega)]; omega) p1 hH2
    refine ⟨i1, fun i hi => (i2 i hi).trans (p2 i hi), fun r a b t c => ?_, fun r a b t c => ?_⟩
    · have hy : isR m r := ⟨a, by omega⟩
      show ahd (fsR l0 n (k + 1) (fs1 l0 m k)) r t = ahd m r t
      rw [i3 r a (by omega) t c, ea r t hy c, eb r t hy (by omega) c]
    · have hy : isR m r := ⟨by omega, b⟩
      show ahd (fsR l0 n (k + 1) (fs1 l0 m k)) r t = ahd m r (t + 1)
      by_cases q : r = k
      · rw [q, i3 k hk (by omega) t c, ea k t hr c, ahd_tk1 hC hr c]
      · rw [i4 r (by omega) (by rw [p2 3 (by omega)]; exact b) t c, ea r (t + 1) hy (by omega), eb r (t + 1) hy q (by omega)]
theorem jk_now (hR : Rg m) (hT : 0 ≤ m 2) (hB : TB0 T m) (h0 : 0 ≤ T) (h1 : T ≤ 98000) : Jk T 0 (u1 m 2 (m 2 + 1)) := ⟨rg_now hR hT (by have := hB.1; omega), by rw [u1_eq]; omega, tb0_k hB h0⟩
theorem cb_tkr : ∀ (n : Nat) (k : Int) (l : Int → Int), 0 ≤ k → k + n ≤ 6 → CB l → CB (tkr n k l)
  | 0, _, _, _, _, h => h
  | n + 1, k, l, hk, hn, h => by
    refine cb_tkr n (k + 1) (tkL l k) (by omega) (by omega) ?_
    have e (q f : Int → Int) (h : CB q) : CB (rset q k f) := fun j a b => by rw [rset_o (by omega)]; exact h j a b
    have e2 (q : Int → Int) (h : CB q) : CB (epL q k) := by
      unfold epL
      split
      · rename_i z; exact cb_u h (by have := z.1.1; omega)
      · split
        · rename_i z; exact cb_u (cb_u h (by have := z.1.1; omega)) (by omega)
        · exact h
    unfold tkL
    split
    · split
      · exact e2 _ (e _ _ h)
      · exact e _ _ h
    · split
      · exact e _ _ h
      · exact h
theorem st_tick (h : StR T l m) (h0 : 0 ≤ T) (h1 : T ≤ 98000) (hR2 : Rg (tmL m)) (hB2 : TB0 (T + 1) (tmL m)) : StR (T + 1) (tkr (l 3).toNat 0 (u1 l 2 (l 2 + 1))) (tmL m) ∧ tkd (l 3).toNat 0 (u1 l 2 (l 2 + 1)) 0 = tmV m := by
  obtain ⟨hS, hI, hC, hB⟩ := h
  obtain ⟨hR, hT, hH, hE, hN⟩ := id hI
  have hcc := rgc_of hR hT
  have g3 := hcc.2.2.2.1
  have gc := hcc.2.2.2.2.2.1
  have hJ := jk_now hR hT hB h0 h1
  have e3 : u1 m 2 (m 2 + 1) 3 = m 3 := u1_ne (by omega)
  have er (r j : Int) (a : 0 ≤ r) (b : 0 ≤ j) : rb (u1 m 2 (m 2 + 1)) r j = rb m r j := u1_ne (i := 104 + 36 * r + j) (by omega)
  have hH1 : HBm (u1 m 2 (m 2 + 1)) := ord_hb (ord_u1 hcc (by omega) (fun r a b => by omega) (by omega)) hcc hR hH
  obtain ⟨s1, s2⟩ := sm_tkr (l0 := m) h0 h1 (m 3).toNat 0 (u1 l 2 (l 2 + 1)) (u1 m 2 (m 2 + 1)) 0 (by omega) (by rw [e3]; omega) hJ (sm_now hS) (fun r a b => (er r 3 a (by omega)).symm)
  obtain ⟨f1, f2⟩ := mt_fs (l0 := m) h0 h1 (m 3).toNat 0 (u1 m 2 (m 2 + 1)) 0 (by omega) (by rw [e3]; omega) hJ
  obtain ⟨i1, i2, i3, i4⟩ := fs_inv (l0 := m) h0 h1 (m 3).toNat 0 (u1 m 2 (m 2 + 1)) (by omega) (by rw [e3]; omega) hJ hH1
  have et : tmL m = fsR m (m 3).toNat 0 (u1 m 2 (m 2 + 1)) := f1
  have ev : tmV m = fsV m (m 3).toNat 0 (u1 m 2 (m 2 + 1)) 0 := f2
  rw [sm_3 hS]
  refine ⟨?_, s2.trans ev.symm⟩
  rw [← et] at s1 i1 i2 i4
  have ei (i : Int) (a : i < 104) (b : i ≠ 2) : tmL m i = m i := (i2 i a).trans (u1_ne b)
  have eR (r : Int) : isR (tmL m) r ↔ isR m r := by unfold isR; rw [ei 3 (by omega) (by omega)]
  have ea (r t : Int) (a : isR m r) (b : 0 ≤ t) : ahd (tmL m) r t = ahd m r (t + 1) := by
    rw [i4 r a.1 (by rw [e3]; exact a.2) t b]
    unfold ahd ahf
    rw [er r 0 a.1 (by omega), er r 3 a.1 (by omega)]
    have h3 := (rgc_r hcc a).2.2.2.1
    by_cases q : t + 1 = 0 ∨ rb m r 3 = 0
    · rw [if_pos q, if_pos q]
    · rw [if_neg q, if_neg q]
      exact er r _ a.1 (by split <;> omega)
  refine ⟨s1, ⟨hR2, by rw [i2 2 (by omega), u1_eq]; omega, i1, fun r a t b => ?_, fun r r' a a' b t c => ?_⟩, cb_tkr _ _ _ (by omega) (by omega) (cb_u hC (by omega)), hB2⟩
  · have a := (eR r).mp a
    rw [ea r t a b]
    have hc := ahd_r hR a (show 0 ≤ t + 1 by omega)
    exact (ent_cg (ei _ (by omega) (by omega)) (ei _ (by omega) (by omega))).mpr (hE r a (t + 1) (by omega))
  · have a := (eR r).mp a
    have a' := (eR r').mp a'
    rw [ea r t a c, ea r' t a' c]
    exact hN r r' a a' b (t + 1) (by omega)
end PL_
