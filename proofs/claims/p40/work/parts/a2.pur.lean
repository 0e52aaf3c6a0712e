/-! both rows after a change, sixth: ticks pass -/
section PK_
variable {l m m' W x f g : Int → Int} {c w r o t a b i y z ro fr to T ct k d e v N : Int} {n : Nat}
theorem sm_now (hS : Sm l m) : Sm (u1 l 2 (l 2 + 1)) (u1 m 2 (m 2 + 1)) := by
  rw [hS.1 2 (by omega) (by omega)]
  exact sm_u hS (by omega) (fun r a e => by have := a.1; omega)
theorem sm_rset (hS : Sm l m) (hR : RgC m) (hr : isR m r) (h1 : ∀ j, 0 ≤ j → j < 6 → f j = g j) (h2 : ∀ t, 0 ≤ t → t < g 3 → f (6 + t) = g (6 + t)) (h3 : g 3 ≤ 30) : Sm (rset l r f) (rset m r g) := by
  have r0 := hr.1
  have r1 := hr.2
  have g3 := hR.2.2.2.1
  have gc := hR.2.2.2.2.2.1
  have mcs : cs (rset m r g) = cs m := by unfold cs; rw [rset_o (by omega), rset_o (by omega)]
  have m3 : rset m r g 3 = m 3 := rset_o (by omega)
  have m4 : rset m r g 4 = m 4 := rset_o (by omega)
  refine ⟨fun i a b => ?_, fun c hc => ?_, fun r' hr' => ?_, fun o ho k a b c => ?_⟩
  · rw [rset_o (by omega), rset_o (by omega)]; exact hS.1 i a b
  · have hc : isC m c := by unfold isC at hc ⊢; rw [mcs] at hc; exact hc
    have := hc.1; have := hc.2
    rw [rset_o (by omega), rset_o (by omega), rset_o (by omega), rset_o (by omega)]
    exact hS.2.1 c hc
  · have hr' : isR m r' := by unfold isR at hr' ⊢; rw [m3] at hr'; exact hr'
    by_cases q : r' = r
    · rw [q]
      refine ⟨fun j a b => ?_, fun t a b => ?_⟩
      · rw [rset_eq a (by omega), rset_eq a (by omega)]; exact h1 j a b
      · rw [rset_eq (by omega) (by omega)] at b
        rw [rset_eq (by omega) (by omega), rset_eq (by omega) (by omega)]
        exact h2 t a b
    · refine ⟨fun j a b => ?_, fun t a b => ?_⟩
      · rw [rset_ne a (by omega) q, rset_ne a (by omega) q]; exact (hS.2.2.1 r' hr').1 j a b
      · rw [rset_ne (by omega) (by omega) q] at b
        have h3 := (rgc_r hR hr').2.2.2.1
        rw [rset_ne (by omega) (by omega) q, rset_ne (by omega) (by omega) q]
        exact (hS.2.2.1 r' hr').2 t a b
  · have ho : isO m o := by unfold isO at ho ⊢; rw [m4] at ho; exact ho
    have := ho.1
    have e1 : ob (rset l r f) o k = ob l o k := rset_o (k := 320 + 8 * o + k) (by omega)
    have e2 : ob (rset m r g) o k = ob m o k := rset_o (k := 320 + 8 * o + k) (by omega)
    rw [e1, e2]
    exact hS.2.2.2 o ho k a b c
theorem sm_tk1 (hS : Sm l m) (hR : RgC m) (hr : isR m r) : Sm (tk1 l r) (tk1 m r) := by
  have e (j : Int) (a : 0 ≤ j) (b : j < 6) := sm_rb hS hr a b
  have hq := rgc_r hR hr
  have ea : ahf (rb l r) 1 = ahf (rb m r) 1 := sm_ahd hS hR hr (by omega)
  have ek := sm_k hS hq.1
  unfold tk1
  rw [e 3 (by omega) (by omega), e 0 (by omega) (by omega), ek]
  by_cases q : 0 < rb m r 3
  · rw [if_pos q, if_pos q]
    unfold tkm
    refine sm_rset hS hR hr (fun j a b => ?_) (fun t a b => ?_) (by rw [gon_3]; omega)
    · unfold gon
      rw [ea, e 0 (by omega) (by omega), e 1 (by omega) (by omega), e 3 (by omega) (by omega), e 4 (by omega) (by omega), e 5 (by omega) (by omega), if_neg (show ¬ (6 ≤ j ∧ j < 6 + (rb m r 3 - 1)) by omega), if_neg (show ¬ (6 ≤ j ∧ j < 6 + (rb m r 3 - 1)) by omega), e j a b]
    · rw [gon_3] at b
      rw [gon_p a (by rw [e 3 (by omega) (by omega)]; exact b), gon_p a b]
      exact (hS.2.2.1 r hr).2 (t + 1) (by omega) (by omega)
  · rw [if_neg q, if_neg q]
    by_cases u : m (8 + rb m r 0) = 2
    · rw [if_pos u, if_pos u]
      refine sm_rset hS hR hr (fun j a b => ?_) (fun t a b => ?_) ?_
      · by_cases p : j = 1
        · rw [p, u1_eq, u1_eq, e 1 (by omega) (by omega), hS.1 5 (by omega) (by omega)]
        · rw [u1_ne p, u1_ne p]; exact e j a b
      · rw [u1_ne (by omega)] at b
        omega
      · rw [u1_ne (by omega)]; omega
    · rw [if_neg u, if_neg u]
      exact hS
theorem sm_epA (hS : Sm l m) (hR : RgC m) (hr : isR m r) : epA l r ↔ epA m r := by
  have hq := rgc_r hR hr
  unfold epA
  rw [sm_rb hS hr (i := 2) (by omega) (by omega), sm_rb hS hr (i := 0) (by omega) (by omega), sm_O hS]
  refine and_congr_right fun ho => ?_
  have hO := rgc_o hR ho
  rw [sm_ob hS ho (i := 2) (by omega) (by omega) (by omega), sm_ob hS ho (i := 1) (by omega) (by omega) (by omega)]
  refine and_congr_right fun h => ?_
  rw [sm_ob hS ho (i := 5 + ob m (rb m r 2) 2) (by omega) (by omega) (by omega)]
theorem sm_epB (hS : Sm l m) (hR : RgC m) (hr : isR m r) : epB l r ↔ epB m r := by
  have hq := rgc_r hR hr
  have hA := sm_epA hS hR hr
  have ek := sm_k hS hq.1
  unfold epB
  unfold epA at hA
  rw [sm_rb hS hr (i := 2) (by omega) (by omega), sm_rb hS hr (i := 0) (by omega) (by omega), sm_O hS] at *
  refine and_congr_right fun ho => ?_
  rw [sm_ob hS ho (i := 2) (by omega) (by omega) (by omega), sm_ob hS ho (i := 1) (by omega) (by omega) (by omega)] at *
  rw [ek]
  refine and_congr (not_congr ?_) Iff.rfl
  exact ⟨fun z => (hA.mp ⟨ho, z⟩).2, fun z => (hA.mpr ⟨ho, z⟩).2⟩
theorem sm_epL (hS : Sm l m) (hR : RgC m) (hr : isR m r) : Sm (epL l r) (epL m r) ∧ epV l r = epV m r := by
  have hA := sm_epA hS hR hr
  have hBB := sm_epB hS hR hr
  have e2 := sm_rb hS hr (i := 2) (by omega) (by omega)
  have r0 := hr.1
  unfold epL epV
  by_cases q : epA m r
  · have ho := q.1
    have nb : ¬ epB m r := fun z => z.2.1 q.2
    rw [if_pos q, if_pos (hA.mpr q), if_neg nb, if_neg (fun z => nb (hBB.mp z)), e2, sm_ob hS ho (i := 2) (by omega) (by omega) (by omega)]
    have := ho.1
    exact ⟨sm_u hS (by omega) (fun r' a e => by have := a.1; have := a.2; have := hR.2.2.2.1; omega), rfl⟩
  · rw [if_neg q, if_neg (fun z => q (hA.mp z))]
    by_cases u : epB m r
    · have ho := u.1
      have := ho.1
      rw [if_pos u, if_pos (hBB.mpr u), if_pos u, if_pos (hBB.mpr u), e2, hS.1 2 (by omega) (by omega)]
      refine ⟨sm_u (sm_u hS (by omega) (fun r' a e => by have := a.1; have := a.2; have := hR.2.2.2.1; omega)) (by omega) (fun r' a e => by omega), rfl⟩
    · rw [if_neg u, if_neg (fun z => u (hBB.mp z)), if_neg u, if_neg (fun z => u (hBB.mp z))]
      exact ⟨hS, rfl⟩
/-- a robot's whole tick -/
def fs1 (l0 l : Int → Int) (r : Int) : Int → Int := if rb l0 r 3 = 1 then enL (tk1 l r) r else tk1 l r
def fsV1 (l0 l : Int → Int) (r : Int) : Int := if rb l0 r 3 = 1 then enV (tk1 l r) r else 0
def fsR (l0 : Int → Int) : Nat → Int → (Int → Int) → (Int → Int)
  | 0, _, l => l
  | n + 1, k, l => fsR l0 n (k + 1) (fs1 l0 l k)
def fsV (l0 : Int → Int) : Nat → Int → (Int → Int) → Int → Int
  | 0, _, _, d => d
  | n + 1, k, l, d => fsV l0 n (k + 1) (fs1 l0 l k) (d + fsV1 l0 l k)
/-- what one robot's end reads and writes is not what another's tick does -/
abbrev Lo48 (l : Int → Int) (r : Int) : Prop := 0 ≤ rb l r 0 ∧ rb l r 0 < 48
theorem en_rset (hr : 0 ≤ r ∧ r < 6) (hr' : 0 ≤ y ∧ y < 6) (hne : r ≠ y) (h48 : Lo48 l r) (hp : 0 ≤ rb l r 2 → 0 ≤ ob l (rb l r 2) 2) : enL (rset l y f) r = rset (enL l r) y f ∧ enV (rset l y f) r = enV l r := by
  have e (j : Int) (a : 0 ≤ j) (b : j < 36) : rb (rset l y f) r j = rb l r j := rset_ne a b hne
  have eo (o k : Int) (a : 0 ≤ 8 * o + k) : ob (rset l y f) o k = ob l o k := rset_o (k := 320 + 8 * o + k) (by omega)
  have ei (i : Int) (h : i < 104 + 36 * y ∨ 140 + 36 * y ≤ i) : rset l y f i = l i := rset_o h
  have ru (i v : Int) (q : Int → Int) (h : i < 104 + 36 * y ∨ 140 + 36 * y ≤ i) : u1 (rset q y f) i v = rset (u1 q i v) y f := by
    funext j
    by_cases p : j = i
    · rw [p, u1_eq, rset_o h, u1_eq]
    · rw [u1_ne p]
      unfold rset
      rw [u1_ne p]
  unfold enL enV
  rw [e 2 (by omega) (by omega), e 0 (by omega) (by omega)]
  by_cases q : rb l r 2 < 0
  · rw [if_pos q, if_pos q, if_pos q, if_pos q]
    exact ⟨rfl, rfl⟩
  · rw [if_neg q, if_neg q, if_neg q, if_neg q, eo _ 2 (by omega), eo _ 1 (by omega), ei 2 (by omega), ei (8 + rb l r 0) (by omega)]
    by_cases u : ob l (rb l r 2) 2 < ob l (rb l r 2) 1
    · have hp := hp (by omega)
      rw [if_pos u, if_pos u, if_pos u, eo _ _ (by omega), ru _ _ _ (by omega)]
      exact ⟨rfl, rfl⟩
    · rw [if_neg u, if_neg u, if_neg u]
      by_cases p : l (8 + rb l r 0) = 3
      · rw [if_pos p, if_pos p, if_pos p, ru _ _ _ (by omega), ru _ _ _ (by omega), ru _ _ _ (by omega)]
        exact ⟨rfl, rfl⟩
      · rw [if_neg p, if_neg p, if_neg p]
        exact ⟨rfl, rfl⟩
theorem enL_o (hr : 0 ≤ r ∧ r < 6) (i : Int) (hi : i < 104) : enL l r i = l i := by
  unfold enL
  by_cases q : rb l r 2 < 0
  · rw [if_pos q]
  · rw [if_neg q]
    split
    · exact u1_ne (by omega)
    · split
      · rw [u1_ne (by omega), u1_ne (by omega), u1_ne (by omega)]
      · rfl
theorem enL_rb (hr : 0 ≤ r ∧ r < 6) (hy : 0 ≤ y ∧ y < 6) (hj : 0 ≤ i ∧ i < 36) (h : y ≠ r ∨ i ≠ 2) : rb (enL l r) y i = rb l y i := by
  unfold enL
  by_cases q : rb l r 2 < 0
  · rw [if_pos q]
  · rw [if_neg q]
    split
    · exact u1_ne (i := 104 + 36 * y + i) (by omega)
    · split
      · show u1 _ _ _ (104 + 36 * y + i) = l (104 + 36 * y + i)
        rw [u1_ne (by omega), u1_ne (by omega), u1_ne (by omega)]
      · rfl
/-- a tick's first half is one robot's row written -/
theorem tk1_F : tk1 l r = rset l r (if 0 < rb l r 3 then gon (rb l r) else if l (8 + rb l r 0) = 2 then u1 (rb l r) 1 (min 99 (rb l r 1 + l 5)) else rb l r) := by
  unfold tk1
  by_cases q : 0 < rb l r 3
  · rw [if_pos q, if_pos q]; rfl
  · rw [if_neg q, if_neg q]
    by_cases u : l (8 + rb l r 0) = 2
    · rw [if_pos u, if_pos u]
    · rw [if_neg u, if_neg u]
      funext i
      unfold rset
      split
      · show l i = l (104 + 36 * r + (i - (104 + 36 * r)))
        congr 1
        omega
      · rfl
theorem rb_fun {l2 : Int → Int} (h : ∀ j, 0 ≤ j → j < 36 → rb l r j = rb l2 r j) (q : Int → Int) : rset q r (rb l r) = rset q r (rb l2 r) := by
  funext i
  unfold rset
  split
  · exact h _ (by omega) (by omega)
  · rfl
theorem en_tk1 (hr : 0 ≤ r ∧ r < 6) (hy : 0 ≤ y ∧ y < 6) (hne : r ≠ y) (h48 : Lo48 l r) (h48y : Lo48 l y) (h3 : 0 ≤ rb l y 3 ∧ rb l y 3 ≤ 30) (hp : 0 ≤ rb l r 2 → 0 ≤ ob l (rb l r 2) 2) : enL (tk1 l y) r = tk1 (enL l r) y ∧ enV (tk1 l y) r = enV l r := by
  have e (j : Int) (a : 0 ≤ j) (b : j < 36) : rb (enL l r) y j = rb l y j := enL_rb hr hy ⟨a, b⟩ (.inl (fun z => hne z.symm))
  rw [tk1_F, tk1_F]
  obtain ⟨q1, q2⟩ := en_rset (f := if 0 < rb l y 3 then gon (rb l y) else if l (8 + rb l y 0) = 2 then u1 (rb l y) 1 (min 99 (rb l y 1 + l 5)) else rb l y) hr hy hne h48 hp
  refine ⟨q1.trans ?_, q2⟩
  have ea : ahf (rb (enL l r) y) 1 = ahf (rb l y) 1 := by
    unfold ahf
    rw [e 0 (by omega) (by omega), e 3 (by omega) (by omega)]
    by_cases z : (1 : Int) = 0 ∨ rb l y 3 = 0
    · rw [if_pos z, if_pos z]
    · rw [if_neg z, if_neg z]
      by_cases z2 : 1 > rb l y 3
      · omega
      · rw [if_neg z2]
        exact e _ (by omega) (by omega)
  rw [e 3 (by omega) (by omega), e 0 (by omega) (by omega), e 1 (by omega) (by omega), enL_o hr _ (by omega), enL_o hr 5 (by omega)]
  funext i
  unfold rset
  split
  · split
    · unfold gon
      rw [ea, e 0 (by omega) (by omega), e 1 (by omega) (by omega), e 3 (by omega) (by omega), e 4 (by omega) (by omega), e 5 (by omega) (by omega), e (i - (104 + 36 * y)) (by omega) (by omega)]
      split
      · rfl
      · split
        · rfl
        · split
          · rfl
          · split
            · rfl
            · split
              · exact (e _ (by omega) (by omega)).symm
              · rfl
    · split
      · by_cases p : i - (104 + 36 * y) = 1
        · rw [p, u1_eq, u1_eq]
        · rw [u1_ne p, u1_ne p]
          exact (e _ (by omega) (by omega)).symm
      · exact (e _ (by omega) (by omega)).symm
  · rfl
end PK_
