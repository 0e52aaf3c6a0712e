/-! the law's sum -/
def lpL (g : Int → Int64 → Int64) : Nat → Int → Int64 → Int64
  | 0, _, a => a
  | n + 1, k, a => lpL g n (k + 1) (g k a)
def vOf (o : Sum String Int) : Int := match o with
  | .inl _ => 0
  | .inr v => v
noncomputable def accV (l : Int → Int) (w : Int) : Int := vOf (accO l 0 0 w)
noncomputable def robV (l : Int → Int) (r w : Int) : Int := vOf (robO l r w)
noncomputable def ordV (l : Int → Int) (y w : Int) : Int := vOf (ordO l y w)
noncomputable def gA (l : Int → Int) (w : Int) (a : Int64) : Int64 := if w = 12 ∨ w = 13 then a else 31 * a + (zi (accV l w)).toInt64
noncomputable def gB (l : Int → Int) (y : Int) (a : Int64) : Int64 := 37 * a + (zi (letV l y)).toInt64 + (zi (1000 * bI (ent l y))).toInt64
noncomputable def gR (l : Int → Int) (r w : Int) (a : Int64) : Int64 := 41 * a + (zi (robV l r w)).toInt64
def gP (l : Int → Int) (r t : Int) (a : Int64) : Int64 := 43 * a + (zi (ahd l r t)).toInt64
noncomputable def gC (l : Int → Int) (r : Int) (a : Int64) : Int64 := lpL (gP l r) ((12 : Int) - 1).toNat 1 (lpL (gR l r) ((7 : Int) - 0).toNat 0 a)
noncomputable def gO (l : Int → Int) (y w : Int) (a : Int64) : Int64 := 47 * a + (zi (ordV l y w)).toInt64
noncomputable def gD (l : Int → Int) (y : Int) (a : Int64) : Int64 := lpL (gO l y) ((6 : Int) - 0).toNat 0 a
noncomputable def sm1 (l : Int → Int) : Int64 := lpL (gA l) ((17 : Int) - 0).toNat 0 7
noncomputable def sm2 (l : Int → Int) : Int64 := lpL (gB l) (cs l - 0).toNat 0 (sm1 l)
noncomputable def sm3 (l : Int → Int) : Int64 := lpL (gC l) (l 3 - 0).toNat 0 (sm2 l)
noncomputable def sumV (l : Int → Int) : Int64 := lpL (gD l) (l 4 - 0).toNat 0 (sm3 l)
section F0
variable {l l' m X L : Int → Int} {r r' x y z t T k o g c v p f q b a w s i j : Int} {n : Nat}
theorem lpL_b {g : Int → Int64 → Int64} {n k : Int} {a : Int64} (h : k < n) : lpL g (n - k).toNat k a = lpL g (n - (k + 1)).toNat (k + 1) (g k a) := by
  rw [show (n - k).toNat = (n - (k + 1)).toNat + 1 by omega]; rfl
theorem lpL_e {g : Int → Int64 → Int64} {n k : Int} {a : Int64} (h : n ≤ k) : lpL g (n - k).toNat k a = a := by
  rw [show (n - k).toNat = 0 by omega]; rfl
theorem lpL_cg {g g' : Int → Int64 → Int64} : ∀ {n : Nat} {k : Int} {a : Int64}, (∀ i a, k ≤ i → i < k + n → g i a = g' i a) → lpL g n k a = lpL g' n k a
  | 0, _, _, _ => rfl
  | n + 1, k, a, h => by
    show lpL g n (k + 1) (g k a) = lpL g' n (k + 1) (g' k a)
    rw [h k a (by omega) (by omega)]
    exact lpL_cg fun i a p q => h i a (by omega) (by omega)
theorem w_17 (h : 0 ≤ w ∧ w < 17) : w = 0 ∨ w = 1 ∨ w = 2 ∨ w = 3 ∨ w = 4 ∨ w = 5 ∨ w = 6 ∨ w = 7 ∨ w = 8 ∨ w = 9 ∨ w = 10 ∨ w = 11 ∨ w = 12 ∨ w = 13 ∨ w = 14 ∨ w = 15 ∨ w = 16 := by omega
theorem acc_v {ct n : Int} (h : 0 ≤ w ∧ w < 17) (h1 : ¬ w = 12) (h2 : ¬ w = 13) : accO l ct n w = .inr (accV l w) := by
  rcases w_17 h with e | e | e | e | e | e | e | e | e | e | e | e | e | e | e | e | e
  all_goals first | exact absurd e h1 | exact absurd e h2 | (subst e; rfl)
theorem rob_v (hr : isR l r) (h : 0 ≤ w ∧ w < 7) : robO l r w = .inr (robV l r w) := by
  have e0 : ∀ w, robO l r w = if w = 0 then .inr (rb l r 0) else if w = 1 then .inr (rb l r 1) else if w = 2 then .inr (rb l r 2) else if w = 3 then .inr (rb l r 3) else if w = 4 then .inr (if rb l r 3 = 0 then -1 else ahf (rb l r) (rb l r 3)) else if w = 5 then .inr (bI (isO l (rb l r 2) ∧ 0 < ob l (rb l r 2) 2)) else if w = 6 then .inr (rb l r 5) else .inl xIA := fun w => by unfold robO; rw [if_neg (not_not_intro hr)]
  unfold robV
  rw [e0 w]
  rcases (by omega : w = 0 ∨ w = 1 ∨ w = 2 ∨ w = 3 ∨ w = 4 ∨ w = 5 ∨ w = 6) with e | e | e | e | e | e | e
  all_goals (subst e; rfl)
theorem ord_v (hy : isO l y) (h : 0 ≤ w ∧ w < 6) : ordO l y w = .inr (ordV l y w) := by
  have e0 : ∀ w, ordO l y w = if w = 0 then .inr (ob l y 0) else if w = 1 then .inr (ob l y 1) else if w = 2 then .inr (ob l y 2) else if w = 3 then .inr (stc l y) else if w = 4 then .inr (rwo l y) else if w = 5 then .inr (ob l y 4) else .inl xIA := fun w => by unfold ordO; rw [if_neg (not_not_intro hy)]
  unfold ordV
  rw [e0 w]
  rcases (by omega : w = 0 ∨ w = 1 ∨ w = 2 ∨ w = 3 ∨ w = 4 ∨ w = 5) with e | e | e | e | e | e
  all_goals (subst e; rfl)
theorem lc_sm (hR : RgC l) (h : Lc l' l) : Sm l' l := by
  obtain ⟨h1, h2, h3⟩ := h
  have gc := rg_c hR
  exact ⟨fun i a b => h1 i a (by omega), fun c hc => ⟨h1 _ (by have := hc.1; omega) (by have := hc.2; omega), h1 _ (by have := hc.1; omega) (by have := hc.2; omega)⟩, fun r hr => ⟨fun j a b => h2 r hr.1 hr.2 j a (by omega), fun t a b => h2 r hr.1 hr.2 (6 + t) (by omega) (by have := rg_b3 hR hr; omega)⟩, fun o ho k a b _ => h3 o ho.1 ho.2 k a b⟩
theorem acc_sm (hR : RgC l) (hS : Sm l' l) (h : 0 ≤ w ∧ w < 17) (h1 : ¬ w = 12) (h2 : ¬ w = 13) : accV l' w = accV l w := by
  have e := hS.1
  rcases w_17 h with q | q | q | q | q | q | q | q | q | q | q | q | q | q | q | q | q
  · subst q; exact e 0 (by omega) (by omega)
  · subst q; exact e 1 (by omega) (by omega)
  · subst q; exact e 3 (by omega) (by omega)
  · subst q; exact e 4 (by omega) (by omega)
  · subst q; exact sm_oin hS
  · subst q; exact sm_oin hS
  · subst q; exact sm_oin hS
  · subst q; exact sm_ccl hS
  · subst q; exact e 2 (by omega) (by omega)
  · subst q; exact sm_sts hS (by omega) (by omega)
  · subst q; exact sm_pks hS
  · subst q; exact sm_sts hS (by omega) (by omega)
  · exact absurd q h1
  · exact absurd q h2
  · subst q; exact e 5 (by omega) (by omega)
  · subst q; exact e 6 (by omega) (by omega)
  · subst q; exact e 7 (by omega) (by omega)
theorem sum_lc (hR : RgC l) (h : Lc l' l) : sumV l' = sumV l := by
  have hS := lc_sm hR h
  have g3 := rg_r hR
  have g4 := rg_o hR
  have gc := rg_c hR
  have e1 : sm1 l' = sm1 l := lpL_cg fun i a p q => by
    unfold gA
    by_cases c : i = 12 ∨ i = 13
    · rw [if_pos c, if_pos c]
    · rw [if_neg c, if_neg c, acc_sm hR hS ⟨p, by omega⟩ (fun e => c (Or.inl e)) (fun e => c (Or.inr e))]
  have e2 : sm2 l' = sm2 l := by
    unfold sm2
    rw [e1, sm_cs hS]
    refine lpL_cg fun i a p q => ?_
    have hc : isC l i := ⟨p, by omega⟩
    have el : letV l' i = letV l i := by
      unfold letV
      rw [sm_rin hS hR (Int.le_refl 0), sm_cl hS hc, sm_k hS hc]
    unfold gB
    rw [el, bI_c (sm_ent hS hc)]
  have e3 : sm3 l' = sm3 l := by
    unfold sm3
    rw [e2, sm_3 hS]
    refine lpL_cg fun i a p q => ?_
    have hr : isR l i := ⟨p, by omega⟩
    have er : ∀ w, 0 ≤ w → w < 7 → robV l' i w = robV l i w := fun w w0 w1 => by
      have hr' : isR l' i := (sm_R hS).mpr hr
      have b : ∀ j, 0 ≤ j → j < 6 → rb l' i j = rb l i j := fun j j0 j1 => sm_rb hS hr j0 j1
      have k1 := rob_v hr' ⟨w0, w1⟩
      have k2 := rob_v hr ⟨w0, w1⟩
      unfold robO at k1 k2
      rw [if_neg (not_not_intro hr')] at k1
      rw [if_neg (not_not_intro hr)] at k2
      have ea : ahf (rb l' i) (rb l' i 3) = ahf (rb l i) (rb l i 3) := by
        rw [b 3 (by omega) (by omega)]
        exact sm_ahd hS hR hr (rg_b3 hR hr).1
      rw [b 0 (by omega) (by omega), b 1 (by omega) (by omega), b 2 (by omega) (by omega), ea, b 3 (by omega) (by omega), b 5 (by omega) (by omega), ← b 2 (by omega) (by omega), bI_c (sm_ldd hS hR hr), b 2 (by omega) (by omega)] at k1
      injection k1.symm.trans k2
    unfold gC
    rw [lpL_cg (g := gR l' i) (g' := gR l i) fun w a w0 w1 => by unfold gR; rw [er w w0 (by omega)]]
    refine lpL_cg fun t a t0 t1 => ?_
    unfold gP
    rw [sm_ahd hS hR hr (by omega)]
  unfold sumV
  rw [e3, sm_4 hS]
  refine lpL_cg fun i a p q => ?_
  have ho : isO l i := ⟨p, by omega⟩
  refine lpL_cg fun w a w0 w1 => ?_
  have ew : ordV l' i w = ordV l i w := by
    have ho' : isO l' i := (sm_O hS).mpr ho
    have b : ∀ j, 0 ≤ j → j < 8 → j ≠ 3 → ob l' i j = ob l i j := fun j j0 j1 j3 => sm_ob hS ho j0 j1 j3
    have k1 := ord_v ho' ⟨w0, show w < 6 by omega⟩
    have k2 := ord_v ho ⟨w0, show w < 6 by omega⟩
    unfold ordO at k1 k2
    rw [if_neg (not_not_intro ho')] at k1
    rw [if_neg (not_not_intro ho)] at k2
    rw [b 0 (by omega) (by omega) (by omega), b 1 (by omega) (by omega) (by omega), b 2 (by omega) (by omega) (by omega), b 4 (by omega) (by omega) (by omega), sm_stc hS, sm_rwo hS] at k1
    injection k1.symm.trans k2
  unfold gO
  rw [ew]
end F0
