/-! distances and arrivals: what the law counts -/
theorem dV_c {v : Int} (h : -1 ≤ v) : (v = -1 ∧ dV v = -2) ∨ (0 ≤ v ∧ dV v = v) := by
  unfold dV
  split <;> omega
section C4
variable {l l' m X : Int → Int} {r r' x y z t T k o g c v p f q b : Int}
/-- cells below z that are reached from y -/
noncomputable def rcP (l : Int → Int) (y z : Int) : Int := lpI (fun k x => x + bI (¬ far l y k = -1)) z.toNat 0 0
theorem rcP_s (h : 0 ≤ z) : rcP l y (z + 1) = rcP l y z + bI (¬ far l y z = -1) := by
  unfold rcP
  rw [show (z + 1).toNat = z.toNat + 1 by omega, lpI_app]
  show lpI (fun k x => x + bI (¬ far l y k = -1)) z.toNat 0 0 + bI (¬ far l y (0 + (z.toNat : Nat)) = -1) = _
  rw [show (0 : Int) + (z.toNat : Nat) = z by omega]
theorem rcP_e (hR : RgC l) (hy : isC l y) : rcP l y (cs l) = rch l y := by
  have gc := rg_c hR
  unfold rcP rch
  rw [show 48 = (cs l).toNat + (48 - (cs l).toNat) by omega, lpI_app, lpI_id (48 - (cs l).toNat)]
  intro i a b x
  have := (far_r hR hy i).2
  rw [bI_f (fun q => by
    have e1 := (far_r hR hy i).1
    have := this (by omega)
    omega)]
  omega
/-- where the law stands as it looks for the farthest cell -/
def DI (l : Int → Int) (y z p f q : Int) : Prop := (p = rcP l y z ∧ 0 ≤ p ∧ p ≤ z) ∧ (0 ≤ f ∧ f < 48 ∧ ∀ j, 0 ≤ j → j < z → far l y j ≤ f) ∧ (0 ≤ q ∧ q < cs l) ∧ (0 < f → far l y q = f ∧ ∀ j, 0 ≤ j → j < q → far l y j < f)
theorem di_0 (hy : isC l y) : DI l y 0 0 0 y := ⟨⟨rfl, by omega, by omega⟩, ⟨by omega, by omega, fun j a b => by omega⟩, hy, fun h => absurd h (by omega)⟩
theorem di_s (hR : RgC l) (hy : isC l y) (hz : isC l z) (h : DI l y z p f q) : DI l y (z + 1) (p + (if dV (far l y z) < 0 then 0 else 1)) (max f (dV (far l y z))) (if dV (far l y z) ≤ f then q else z) := by
  obtain ⟨⟨h1, h1a, h1b⟩, ⟨h2, h2a, h3⟩, h4, h5⟩ := h
  have e := (far_r hR hy z).1
  have ed := dV_c (v := far l y z) e.1
  refine ⟨⟨?_, ?_, ?_⟩, ⟨by omega, by omega, fun j a b => ?_⟩, ?_, fun hf => ?_⟩
  · rw [rcP_s hz.1, ← h1]
    by_cases c : far l y z = -1
    · rw [bI_f (fun n => n c), if_pos (by omega)]
    · rw [bI_t c, if_neg (by omega)]
  · split <;> omega
  · split <;> omega
  · rcases (by omega : j < z ∨ j = z) with q | q
    · have := h3 j a q
      omega
    · rw [q]
      omega
  · split
    · exact h4
    · exact hz
  · by_cases c : dV (far l y z) ≤ f
    · rw [if_pos c]
      rw [show max f (dV (far l y z)) = f by omega] at hf ⊢
      exact h5 hf
    · rw [if_neg c]
      refine ⟨by omega, fun j a b => ?_⟩
      have := h3 j a b
      omega
theorem di_r (hR : RgC l) (hy : isC l y) (hz : z = cs l) (h : DI l y z p f q) : rch l y = p := by
  rw [h.1.1, hz, rcP_e hR hy]
theorem di_f (hR : RgC l) (hy : isC l y) (hz : z = cs l) (h : DI l y z p f q) : frt l y = if f = 0 then y else q := by
  obtain ⟨_, ⟨h2, h2a, h3⟩, h4, h5⟩ := h
  have hz0 := far_z hR hy
  have F : IsF l y (frt l y) := frt_l hR hy 48 0 y (by omega) (by omega) hy (Or.inl ⟨rfl, fun j a b => by omega⟩)
  refine isF_u F ?_
  by_cases c : f = 0
  · rw [if_pos c]
    refine ⟨hy, fun k a => ?_, fun k a b => ?_⟩
    · have := h3 k a.1 (by have := a.2; omega)
      rw [hz0.1]
      omega
    · have e1 := h3 k a (by have := hy.2; omega)
      rw [hz0.1]
      rcases (by omega : far l y k < 0 ∨ far l y k = 0) with e | e
      · exact e
      · have := hz0.2 k e
        omega
  · rw [if_neg c]
    have h5 := h5 (by omega)
    refine ⟨h4, fun k a => ?_, fun k a b => ?_⟩
    · rw [h5.1]
      exact h3 k a.1 (by have := a.2; omega)
    · rw [h5.1]
      exact h5.2 k a b
theorem far_zi (hR : RgC l) (hy : isC l y) : far l y z = 0 ↔ z = y := ⟨(far_z hR hy).2 z, fun e => by rw [e]; exact (far_z hR hy).1⟩
/-- a cell in which a robot can be after n ticks is not farther than n steps -/
theorem rea_far (hR : RgC l) (hr : isR l r) : ∀ (n : Nat) (c : Int), rea l r n c → 0 ≤ far l (rb l r 0) c ∧ far l (rb l r 0) c ≤ n
  | 0, c, h => by
    have h : c = rb l r 0 := h
    have e := (far_z hR (rg_b0 hR hr)).1
    rw [h]
    omega
  | n + 1, c, h => by
    have hb := rg_b0 hR hr
    obtain ⟨hc, w, hw, h0, h1, h2⟩ := h
    have ih := rea_far hR hr n _ h1
    obtain ⟨u, hu, e⟩ := bes_sym hR hc hw rfl h0
    rcases (by omega : u = 4 ∨ u < 4) with q | q
    · rw [q, bes_4] at e
      rw [e] at ih
      omega
    · have k := far_le hR hb 1 (bes l c w) c ih.1 ⟨c, ⟨u, ⟨hu.1, q⟩, e, hc.1, h2.1⟩, rfl⟩
      omega
theorem fT_7 (hR : RgC l) (h : ¬ fT l r g = -1) : fT l r g ≤ l 7 := by
  have g7 := rg_n16 hR
  have e : fT l r g = -1 ∨ (1 ≤ fT l r g ∧ fT l r g < 1 + ((l 7).toNat : Nat)) := fnd_r
  omega
/-- arrivals: never fewer ticks than the distance -/
theorem ar_ok (hR : RgC l) (hE : ENl l) (hr : isR l r) (hg : isC l g) : (0 ≤ arV l r g → 0 ≤ dV (far l (rb l r 0) g) ∧ dV (far l (rb l r 0) g) ≤ arV l r g ∧ arV l r g ≤ l 7) ∧ (arV l r g = 0 ↔ dV (far l (rb l r 0) g) = 0) := by
  have hb := rg_b0 hR hr
  have fz := far_zi (z := g) hR hb
  have g7 := rg_n16 hR
  have fr := (far_r hR hb g).1
  have ed := dV_c (v := far l (rb l r 0) g) fr.1
  have e0 := hE r hr 0 (by omega)
  rw [ahd_0] at e0
  unfold arV
  by_cases qe : ent l g
  · rw [if_neg (not_not_intro qe)]
    by_cases q0 : rb l r 0 = g
    · rw [if_pos q0]
      have : far l (rb l r 0) g = 0 := fz.mpr q0.symm
      omega
    · rw [if_neg q0]
      have n0 : ¬ far l (rb l r 0) g = 0 := fun e => q0 (fz.mp e).symm
      by_cases q : fT l r g = -1
      · rw [show dV (fT l r g) = -2 from if_pos q]
        omega
      · rw [show dV (fT l r g) = fT l r g from if_neg q]
        have a1 := fT_p hR q
        have a2 := fT_7 hR q
        have a3 := rea_far hR hr _ _ a1.2.1.1
        omega
  · rw [if_pos qe]
    have n0 : ¬ far l (rb l r 0) g = 0 := fun e => by
      have := fz.mp e
      rw [this] at qe
      exact qe e0.2
    omega
end C4
