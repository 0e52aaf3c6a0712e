/-! orders: those that wait, those that are had, the robot that suits -/
section D6
variable {l l' m X : Int → Int} {r r' x y z t T k o g c v p f q b a w s : Int}
theorem oin_mwc (h : Iv m) : oin m 0 = mwc m := by
  rw [mwc_c]
  have e : oin m 0 = lpI (fun k a => a + bI (stc m k = 0)) (m 4).toNat 0 0 := rfl
  rw [e, lpI_cg (f' := fun k a => a + bI (sto m k = 0)) fun i y a b => by rw [iv_stc h ⟨a, by omega⟩], cnt_x (P := fun k => sto m k = 0)]
  omega
theorem wr_k (h : StR T l m) (h0 : 0 ≤ k) (h1 : k < oin l 0) : ∃ a, wor l k = a ∧ isO l a ∧ ob l a 2 = 0 ∧ wtg m a ∧ mwb m a = k := by
  obtain ⟨hS, hI, hC, hB⟩ := h
  rw [sm_oin hS, oin_mwc hI] at h1
  obtain ⟨a, ha, e⟩ := mwb_on h0 h1
  have ho : isO m a := ha.1
  refine ⟨a, ?_, (sm_O hS).mpr ho, ?_, ha, e⟩
  · rw [sm_wor hS]
    unfold wor
    refine fnd_only ho.1 (by have := ho.1; have := ho.2; omega) ⟨(iv_stc hI ho).trans ha.2, (wbf_mw hI ho).trans e⟩ fun j j0 j1 q => ?_
    have hj : isO m j := ⟨j0, by omega⟩
    exact mwb_in ⟨hj, (iv_stc hI hj).symm.trans q.1⟩ ha (((wbf_mw hI hj).symm.trans q.2).trans e.symm)
  · rw [sm_ob hS ho (by omega) (by omega) (by omega)]
    have q := ha.2
    unfold sto at q
    refine hI.2.2.1.2.2 a ho ?_ ?_
    · by_cases c : ob m a 3 < 0
      · exact c
      · by_cases c2 : 0 ≤ ob m a 4
        · rw [if_pos c2] at q; omega
        · rw [if_neg c2, if_pos (by omega)] at q; omega
    · by_cases c : 0 ≤ ob m a 4
      · rw [if_pos c] at q; omega
      · omega
theorem wr_n (h : StR T l m) : wor l (oin l 0) = -1 := by
  obtain ⟨hS, hI, hC, hB⟩ := h
  rw [sm_wor hS, sm_oin hS, oin_mwc hI]
  unfold wor
  refine fnd_no fun i a b q => ?_
  have ho : isO m i := ⟨a, by omega⟩
  have e := (mwb_r (m := m) (a := i) ⟨ho, (iv_stc hI ho).symm.trans q.1⟩).2
  have e2 := (wbf_mw hI ho).symm.trans q.2
  omega
theorem wr_lt (h : StR T l m) (ha : wtg m a) (hb : wtg m b) (ea : mwb m a = k) (eb : mwb m b = k + 1) : ob l a 0 < ob l b 0 ∨ (ob l a 0 = ob l b 0 ∧ (ob l a 1 - ob l a 2 > ob l b 1 - ob l b 2 ∨ (ob l a 1 - ob l a 2 = ob l b 1 - ob l b 2 ∧ a < b))) := by
  obtain ⟨hS, hI, hC, hB⟩ := h
  have e : ∀ o, wtg m o → ∀ i, 0 ≤ i → i < 3 → ob l o i = ob m o i := fun o q i i0 i1 => sm_ob hS q.1 i0 (by omega) (by omega)
  rw [e a ha 0 (by omega) (by omega), e a ha 1 (by omega) (by omega), e a ha 2 (by omega) (by omega), e b hb 0 (by omega) (by omega), e b hb 1 (by omega) (by omega), e b hb 2 (by omega) (by omega)]
  refine Classical.byContradiction fun n => ?_
  by_cases q : a = b
  · rw [q] at ea; omega
  · have : ahO m b a := by
      show ob m b 0 < ob m a 0 ∨ (ob m b 0 = ob m a 0 ∧ (ob m b 1 - ob m b 2 > ob m a 1 - ob m a 2 ∨ (ob m b 1 - ob m b 2 = ob m a 1 - ob m a 2 ∧ b < a)))
      omega
    have := mwb_lt hb ha this
    omega
theorem or_all (h : StR T l m) (hO : JO l) (ho : isO l y) : ((stc l y = 1 → 0 ≤ rwo l y ∧ rwo l y < l 3 ∧ rb l (rwo l y) 2 = y) ∧ (¬ stc l y = 1 → rwo l y = -1)) ∧ (stc l y = 0 → ob l y 2 = 0) ∧ (stc l y = 2 ↔ 0 ≤ ob l y 4) ∧ (stc l y = 2 → ob l y 2 = ob l y 1) := by
  have hR := st_rg h
  obtain ⟨H1, H2, H3⟩ := st_hbl h
  have g3 := rg_r hR
  have g5 := rg_a5 hR ho
  by_cases c : ob l y 4 = -1
  · have n2 : ¬ (isO l y ∧ ¬ ob l y 4 = -1) := fun q => q.2 c
    by_cases e : rwo l y = -1
    · have s0 : stc l y = 0 := by unfold stc; rw [if_neg n2, if_pos e]
      refine ⟨⟨fun q => by omega, fun _ => e⟩, fun _ => H3 y ho c fun r hr q => ?_, by omega, by omega⟩
      exact fnd_1 (Int.le_refl 0) |>.mp e r hr.1 (by have := hr.1; have := hr.2; omega) q
    · have s1 : stc l y = 1 := by unfold stc; rw [if_neg n2, if_neg e]
      obtain ⟨p1, p2, _⟩ := fnd_p (P := fun r => rb l r 2 = y) e
      exact ⟨⟨fun _ => ⟨p1.1, by have := p1.2; show fnd (fun r => rb l r 2 = y) (l 3).toNat 0 < l 3; omega, p2⟩, fun q => absurd s1 q⟩, by omega, by omega, by omega⟩
  · have s2 : stc l y = 2 := by unfold stc; rw [if_pos ⟨ho, c⟩]
    refine ⟨⟨by omega, fun _ => Classical.byContradiction fun e => ?_⟩, by omega, by omega, fun _ => hO y ho c⟩
    obtain ⟨p1, p2, _⟩ := fnd_p (P := fun r => rb l r 2 = y) e
    have hr : isR l (fnd (fun r => rb l r 2 = y) (l 3).toNat 0) := ⟨p1.1, by have := p1.2; omega⟩
    have q := (H1 _ hr (by rw [p2]; exact ho.1)).2
    rw [p2] at q
    exact c q
/-- where the law stands as it looks for the robot that suits -/
def SI (l : Int → Int) (o r w : Int) : Prop := (w = -2 ∨ (0 ≤ w ∧ w < l 3 ∧ 0 ≤ far l (rb l w 0) (ob l o (5 + 0)))) ∧ ∃ s, (0 ≤ w → s = far l (rb l w 0) (ob l o (5 + 0))) ∧ suiV l o = brf l (ob l o (5 + 0)) (l 3 - r).toNat r (if w = -2 then -1 else w) s
theorem si_0 : SI l o 0 (-2) := ⟨Or.inl rfl, -1, fun h => absurd h (by omega), by unfold suiV; rw [show l 3 - 0 = l 3 by omega]; rfl⟩
theorem si_y (h : SI l o r w) (hr : isR l r) (h2 : rb l r 2 = -1) (hf : 0 ≤ far l (rb l r 0) (ob l o (5 + 0))) (hb : w = -2 ∨ far l (rb l r 0) (ob l o (5 + 0)) < far l (rb l w 0) (ob l o (5 + 0)) ∨ (far l (rb l r 0) (ob l o (5 + 0)) = far l (rb l w 0) (ob l o (5 + 0)) ∧ rb l w 1 < rb l r 1)) : SI l o (r + 1) r := by
  obtain ⟨h1, s, hs, e⟩ := h
  have r0 := hr.1
  have r1 := hr.2
  refine ⟨Or.inr ⟨r0, r1, hf⟩, far l (rb l r 0) (ob l o (5 + 0)), fun _ => rfl, ?_⟩
  rw [e, brf_b hr.2, if_pos, if_neg (show ¬ r = -2 by omega)]
  refine ⟨h2, by omega, ?_⟩
  by_cases c : w = -2
  · exact Or.inl (if_pos c)
  · have hs := hs (by omega)
    rw [if_neg c]
    refine Or.inr ?_
    show (¬ far l (rb l r 0) (ob l o (5 + 0)) = s ∧ far l (rb l r 0) (ob l o (5 + 0)) < s) ∨ (far l (rb l r 0) (ob l o (5 + 0)) = s ∧ rb l w 1 < rb l r 1)
    omega
theorem si_n (h : SI l o r w) (hr : isR l r) (hb : ¬ (rb l r 2 = -1 ∧ ¬ far l (rb l r 0) (ob l o (5 + 0)) = -1 ∧ (w = -2 ∨ far l (rb l r 0) (ob l o (5 + 0)) < far l (rb l w 0) (ob l o (5 + 0)) ∨ (far l (rb l r 0) (ob l o (5 + 0)) = far l (rb l w 0) (ob l o (5 + 0)) ∧ rb l w 1 < rb l r 1)))) : SI l o (r + 1) w := by
  obtain ⟨h1, s, hs, e⟩ := h
  refine ⟨h1, s, hs, ?_⟩
  rw [e, brf_b hr.2, if_neg]
  rintro ⟨c1, c2, c3⟩
  refine hb ⟨c1, c2, ?_⟩
  by_cases c : w = -2
  · exact Or.inl c
  · have hs := hs (by omega)
    rw [if_neg c] at c3
    have c3 : w = -1 ∨ (¬ far l (rb l r 0) (ob l o (5 + 0)) = s ∧ far l (rb l r 0) (ob l o (5 + 0)) < s) ∨ (far l (rb l r 0) (ob l o (5 + 0)) = s ∧ rb l w 1 < rb l r 1) := c3
    omega
theorem si_e (h : SI l o r w) (hr : r = l 3) : dV (suiV l o) = w := by
  obtain ⟨h1, s, hs, e⟩ := h
  rw [e, brf_e (by omega)]
  unfold dV
  by_cases c : w = -2
  · rw [if_pos c, if_pos rfl, c]
  · rw [if_neg c, if_neg (by omega)]
end D6
