/-! what else holds of every warehouse that the law draws: moves, ends of plans, batteries, orders -/
def mvs (l : Int → Int) (r : Int) : Int := mvc (fun i => rb l r (6 + i)) (rb l r 3).toNat 0 (rb l r 0) 0
def JR (l : Int → Int) (r : Int) : Prop := (∀ t, 0 ≤ t → ∃ w, (0 ≤ w ∧ w ≤ 4) ∧ bes l (ahd l r t) w = ahd l r (t + 1)) ∧ (0 < rb l r 3 → ahd l r (rb l r 3 - 1) ≠ ahd l r (rb l r 3)) ∧ (0 ≤ rb l r 1 ∧ rb l r 1 ≤ 99) ∧ (0 < rb l r 3 → (1 ≤ rb l r 4 ∧ rb l r 4 ≤ 2) ∧ rb l r 4 * mvs l r ≤ rb l r 1)
def JS (l : Int → Int) : Prop := ∀ r r', isR l r → isR l r' → r ≠ r' → ∀ t, 0 ≤ t → ¬ (ahd l r t = ahd l r' (t + 1) ∧ ahd l r (t + 1) = ahd l r' t)
def JO (l : Int → Int) : Prop := ∀ o, isO l o → ¬ ob l o 4 = -1 → ob l o 2 = ob l o 1
def JV (l : Int → Int) : Prop := (∀ r, isR l r → JR l r) ∧ JS l ∧ JO l ∧ (∀ c, isC l c → l (56 + c) = 0) ∧ l 6 = 2
/-- in the class's own row -/
def NDl (l : Int → Int) : Prop := ∀ r r', isR l r → isR l r' → r ≠ r' → ∀ t, 0 ≤ t → ahd l r t ≠ ahd l r' t
def ENl (l : Int → Int) : Prop := ∀ r, isR l r → ∀ t, 0 ≤ t → isC l (ahd l r t) ∧ ent l (ahd l r t)
def HBl (l : Int → Int) : Prop := (∀ r, isR l r → 0 ≤ rb l r 2 → isO l (rb l r 2) ∧ ob l (rb l r 2) 4 = -1) ∧ (∀ r r', isR l r → isR l r' → 0 ≤ rb l r 2 → rb l r 2 = rb l r' 2 → r = r') ∧ ∀ o, isO l o → ob l o 4 = -1 → (∀ r, isR l r → ¬ rb l r 2 = o) → ob l o 2 = 0
section C1
variable {l l' m PP X : Int → Int} {r r' y z t T k o g c v : Int}
theorem sm_rf : Sm l l := ⟨fun _ _ _ => rfl, fun _ _ => ⟨rfl, rfl⟩, fun _ _ => ⟨fun _ _ _ => rfl, fun _ _ _ => rfl⟩, fun _ _ _ _ _ _ => rfl⟩
theorem st_ndl (h : StR T l m) : NDl l := fun r r' a b c t d => by
  have hR := iv_c h.2.1
  rw [sm_ahd h.1 hR ((sm_R h.1).mp a) d, sm_ahd h.1 hR ((sm_R h.1).mp b) d]
  exact h.2.1.2.2.2.2 r r' ((sm_R h.1).mp a) ((sm_R h.1).mp b) c t d
theorem st_enl (h : StR T l m) : ENl l := fun r a t d => by
  have hR := iv_c h.2.1
  have ha := (sm_R h.1).mp a
  have e := sm_ahd h.1 hR ha d
  have hc : isC m (ahd m r t) := ahd_r h.2.1.1 ha d
  rw [e]
  exact ⟨(sm_C h.1).mpr hc, (sm_ent h.1 hc).mpr (h.2.1.2.2.2.1 r ha t d)⟩
theorem st_hbl (h : StR T l m) : HBl l := by
  obtain ⟨hS, hI, hC, hB⟩ := h
  have hR := iv_c hI
  have g4 := hR.2.2.2.2.1
  obtain ⟨h1, h2, h3⟩ := hI.2.2.1
  have er : ∀ r, isR m r → rb l r 2 = rb m r 2 := fun r a => sm_rb hS a (by omega) (by omega)
  refine ⟨fun r a b => ?_, fun r r' a a' b e => ?_, fun o a e q => ?_⟩
  · have ha := (sm_R hS).mp a
    rw [er r ha] at b ⊢
    have hq := (rgc_r hR ha).2.2.1
    have ho : isO m (rb m r 2) := ⟨b, hq.2⟩
    exact ⟨(sm_O hS).mpr ho, (sm_ob hS ho (by omega) (by omega) (by omega)).trans (h1 r ha b).2⟩
  · have ha := (sm_R hS).mp a
    have ha' := (sm_R hS).mp a'
    rw [er r ha] at b e
    rw [er r' ha'] at e
    have e1 := (h1 r ha b).1
    have e2 := (h1 r' ha' (by omega)).1
    rw [e] at e1
    omega
  · have ho := (sm_O hS).mp a
    rw [sm_ob hS ho (by omega) (by omega) (by omega)] at e ⊢
    refine h3 o ho (Classical.byContradiction fun hn => ?_) (by omega)
    have hb := iv_by hI ho
    have hr : isR m (ob m o 3) := ⟨by omega, hb.2⟩
    exact q _ ((sm_R hS).mpr hr) ((er _ hr).trans (h2 o ho (by omega)))
/-- a robot that stays changes places with nobody -/
theorem js_stay (hN : NDl l) (hr : isR l r) (hr' : isR l r') (hne : r ≠ r') (ht : 0 ≤ t) (hs : ahd l r (t + 1) = ahd l r t) : ¬ (ahd l r t = ahd l r' (t + 1) ∧ ahd l r (t + 1) = ahd l r' t) := fun h => hN r r' hr hr' hne t ht (hs.symm.trans h.2)
theorem js_stay' (hN : NDl l) (hr : isR l r) (hr' : isR l r') (hne : r ≠ r') (ht : 0 ≤ t) (hs : ahd l r' (t + 1) = ahd l r' t) : ¬ (ahd l r t = ahd l r' (t + 1) ∧ ahd l r (t + 1) = ahd l r' t) := fun h => hN r r' hr hr' hne t ht (h.1.trans hs)
/-- behind its plan's end a robot stays -/
theorem ahd_st (h3 : 0 ≤ rb l r 3) (ht : rb l r 3 ≤ t) : ahd l r (t + 1) = ahd l r t := by
  unfold ahd
  rw [ahf_end h3 (show rb l r 3 ≤ t + 1 by omega), ahf_end h3 ht]
theorem bes_4 : bes l c 4 = c := rfl
/-- the same robots in the same cells -/
theorem jr_cg (h : JR l r) (h0 : l' 0 = l 0) (h1 : l' 1 = l 1) (ha : ∀ t, 0 ≤ t → ahd l' r t = ahd l r t) (hj : ∀ j, 0 ≤ j → j < 36 → j ≠ 2 → rb l' r j = rb l r j) (h3 : 0 ≤ rb l r 3 ∧ rb l r 3 ≤ 30) : JR l' r := by
  obtain ⟨a, b, c, d⟩ := h
  refine ⟨fun t ht => ?_, fun h => ?_, ?_, fun h => ?_⟩
  · rw [ha t ht, ha (t + 1) (by omega)]
    obtain ⟨w, hw, e⟩ := a t ht
    exact ⟨w, hw, by rw [← bes_cg h0.symm h1.symm]; exact e⟩
  · rw [hj 3 (by omega) (by omega) (by omega)] at h ⊢
    rw [ha _ (by omega), ha _ (by omega)]
    exact b h
  · rw [hj 1 (by omega) (by omega) (by omega)]; exact c
  · rw [hj 3 (by omega) (by omega) (by omega)] at h
    have e : mvs l' r = mvs l r := by
      unfold mvs
      rw [hj 3 (by omega) (by omega) (by omega), hj 0 (by omega) (by omega) (by omega)]
      exact mvc_cg _ _ _ _ fun t a b => hj (6 + t) (by omega) (by omega) (by omega)
    rw [e, hj 4 (by omega) (by omega) (by omega), hj 1 (by omega) (by omega) (by omega)]
    exact d h
theorem rgc_3 (hR : RgC l) (hr : isR l r) : 0 ≤ rb l r 3 ∧ rb l r 3 ≤ 30 := (rgc_r hR hr).2.2.2.1
/-- a change that leaves robots' ways as they are -/
theorem jv_same (hR : RgC l) (h : JV l) (e : ∀ i, i < 104 → i ≠ 7 → i ≠ 4 → l' i = l i) (hj : ∀ r, isR l r → ∀ j, 0 ≤ j → j < 36 → j ≠ 2 → rb l' r j = rb l r j) (ho : JO l') : JV l' := by
  obtain ⟨a, b, c, d, f⟩ := h
  have e0 := e 0 (by omega) (by omega) (by omega)
  have e1 := e 1 (by omega) (by omega) (by omega)
  have e3 := e 3 (by omega) (by omega) (by omega)
  have g3 := hR.2.2.2.1
  have hA : ∀ r, isR l r → ∀ t, 0 ≤ t → ahd l' r t = ahd l r t := fun r hr t ht => ahd_cg hR hr ht fun j p q s => hj r hr j p q (by omega)
  have hi : ∀ r, isR l' r → isR l r := fun r q => ⟨q.1, by rw [← e3]; exact q.2⟩
  refine ⟨fun r hr => jr_cg (a r (hi r hr)) e0 e1 (hA r (hi r hr)) (hj r (hi r hr)) (rgc_3 hR (hi r hr)), fun r r' hr hr' hne t ht => ?_, ho, fun c hc => ?_, (e 6 (by omega) (by omega) (by omega)).trans f⟩
  · rw [hA r (hi r hr) t ht, hA r (hi r hr) (t + 1) (by omega), hA r' (hi r' hr') t ht, hA r' (hi r' hr') (t + 1) (by omega)]
    exact b r r' (hi r hr) (hi r' hr') hne t ht
  · have ecs : cs l' = cs l := cs_cg e0 e1
    have hc' : isC l c := ⟨hc.1, by rw [← ecs]; exact hc.2⟩
    have g := hR.2.2.2.2.2.1
    rw [e (56 + c) (by have := hc'.2; omega) (by have := hc'.1; omega) (by have := hc'.1; omega)]
    exact d c hc'
end C1
