/-! a tick: where robots are, what it costs -/
section E5
variable {l l' m X L : Int → Int} {r r' x y z t T k o g c v p f q b a w s i j : Int} {n : Nat}
/-- a robot's numbers (but its order) after a tick -/
def tkF (l : Int → Int) (r j : Int) : Int := if 0 < rb l r 3 then gon (rb l r) j else if l (8 + rb l r 0) = 2 then u1 (rb l r) 1 (min 99 (rb l r 1 + l 5)) j else rb l r j
theorem ep_i (hr : 0 ≤ r ∧ r < 6) (hi : i < 104) : epL l r i = l i := by
  unfold epL
  split
  · rename_i h
    have := h.1.1
    rw [u1_ne (by omega)]
  · split
    · rename_i h
      have := h.1.1
      rw [u1_ne (by omega), u1_ne (by omega)]
    · rfl
theorem ep_r (hr : 0 ≤ r ∧ r < 6) (hr' : 0 ≤ r' ∧ r' < 6) (hj : 0 ≤ j ∧ j < 36) (hn : r' ≠ r ∨ j ≠ 2) : rb (epL l r) r' j = rb l r' j := by
  unfold epL
  split
  · rename_i h
    have := h.1.1
    exact u1_ne (i := 104 + 36 * r' + j) (by omega)
  · split
    · rename_i h
      have := h.1.1
      exact (u1_ne (i := 104 + 36 * r' + j) (by omega)).trans (u1_ne (by omega))
    · rfl
theorem tm_i (hr : 0 ≤ r ∧ r < 6) (hi : i < 104) : tkm l r i = l i := rset_o (by omega)
theorem tm_r (hr : 0 ≤ r ∧ r < 6) (hr' : 0 ≤ r' ∧ r' < 6) (hj : 0 ≤ j ∧ j < 36) : rb (tkm l r) r' j = if r' = r then gon (rb l r) j else rb l r' j := by
  by_cases e : r' = r
  · rw [if_pos e, e]
    exact rset_eq hj.1 hj.2
  · rw [if_neg e]
    exact rset_ne hj.1 hj.2 e
theorem tL_i (hr : 0 ≤ r ∧ r < 6) (hi : i < 104) : tkL l r i = l i := by
  unfold tkL
  split
  · split
    · rw [ep_i hr hi, tm_i hr hi]
    · exact tm_i hr hi
  · split
    · exact rset_o (by omega)
    · rfl
theorem tL_r (hr : 0 ≤ r ∧ r < 6) (hr' : 0 ≤ r' ∧ r' < 6) (hj : 0 ≤ j ∧ j < 36) (hn : r' ≠ r ∨ j ≠ 2) : rb (tkL l r) r' j = if r' = r then tkF l r j else rb l r' j := by
  unfold tkL tkF
  by_cases h3 : 0 < rb l r 3
  · rw [if_pos h3, if_pos h3]
    split
    · rw [ep_r hr hr' hj hn, tm_r hr hr' hj]
    · exact tm_r hr hr' hj
  · rw [if_neg h3, if_neg h3]
    by_cases h2 : l (8 + rb l r 0) = 2
    · rw [if_pos h2, if_pos h2]
      by_cases e : r' = r
      · rw [if_pos e, e]
        exact rset_eq hj.1 hj.2
      · rw [if_neg e]
        exact rset_ne hj.1 hj.2 e
    · rw [if_neg h2, if_neg h2]
      split
      · rename_i e; rw [e]
      · rfl
theorem jo_tL (hr : 0 ≤ r ∧ r < 6) (h : JO l) : JO (tkL l r) := by
  have base : ∀ l0 : Int → Int, (∀ i, i < 104 → l0 i = l i) → (∀ i, 320 ≤ i → l0 i = l i) → JO l0 := fun l0 e1 e2 o ho => by
    have eb : ∀ j, 0 ≤ j → ob l0 o j = ob l o j := fun j q => e2 (320 + 8 * o + j) (by have := ho.1; omega)
    rw [eb 4 (by omega), eb 2 (by omega), eb 1 (by omega)]
    exact h o ⟨ho.1, by rw [← e1 4 (by omega)]; exact ho.2⟩
  have hm : JO (tkm l r) := base _ (fun i a => tm_i hr a) fun i a => rset_o (by omega)
  unfold tkL
  split
  · split
    · generalize tkm l r = w at hm
      unfold epL
      split
      · rename_i hA
        intro o ho
        have ho' : isO w o := ⟨ho.1, by have := ho.2; rw [u1_ne (by have := hA.1.1; omega)] at this; exact this⟩
        have q0 := hA.1.1
        have o0 := ho.1
        by_cases e : o = rb w r 2
        · subst e
          rw [show ob (u1 w (320 + 8 * rb w r 2 + 2) (ob w (rb w r 2) 2 + 1)) (rb w r 2) 4 = ob w (rb w r 2) 4 from u1_ne (i := 320 + 8 * rb w r 2 + 4) (by omega)]
          intro h4
          have := hm _ ho' h4
          have := hA.2.1
          omega
        · have eb : ∀ j, 0 ≤ j → j < 8 → ob (u1 w (320 + 8 * rb w r 2 + 2) (ob w (rb w r 2) 2 + 1)) o j = ob w o j := fun j a b => u1_ne (i := 320 + 8 * o + j) (by omega)
          rw [eb 4 (by omega) (by omega), eb 2 (by omega) (by omega), eb 1 (by omega) (by omega)]
          exact hm o ho'
      · split
        · rename_i hB
          intro o ho
          have q0 := hB.1.1
          have o0 := ho.1
          have ho' : isO w o := ⟨ho.1, by have := ho.2; rw [u1_ne (by omega), u1_ne (by omega)] at this; exact this⟩
          have eb : ∀ j, 0 ≤ j → j < 4 → ob (u1 (u1 w (320 + 8 * rb w r 2 + 4) (w 2)) (104 + 36 * r + 2) (-1)) o j = ob w o j := fun j a b => (u1_ne (i := 320 + 8 * o + j) (by omega)).trans (u1_ne (by omega))
          rw [eb 2 (by omega) (by omega), eb 1 (by omega) (by omega)]
          by_cases e : o = rb w r 2
          · subst e
            intro _
            have := hB.2.2.1
            omega
          · rw [show ob (u1 (u1 w (320 + 8 * rb w r 2 + 4) (w 2)) (104 + 36 * r + 2) (-1)) o 4 = ob w o 4 from (u1_ne (i := 320 + 8 * o + 4) (by omega)).trans (u1_ne (by omega))]
            exact hm o ho'
        · exact hm
    · exact hm
  · split
    · exact base _ (fun i a => rset_o (by omega)) fun i a => rset_o (by omega)
    · exact h
theorem gon_cg {f f' : Int → Int} (h : ∀ i, 0 ≤ i → i < 36 → f' i = f i) (h0 : 0 < f 3) (h1 : f 3 ≤ 30) (j0 : 0 ≤ j) (j1 : j < 36) : gon f' j = gon f j := by
  have e3 := h 3 (by omega) (by omega)
  have a1 : ahf f 1 = f 6 := ahf_1 (by omega) (by omega)
  have a2 : ahf f' 1 = f 6 := (ahf_1 (by omega) (by omega)).trans (h 6 (by omega) (by omega))
  have hl : (if 6 ≤ j ∧ j < 6 + (f 3 - 1) then f' (j + 1) else f' j) = (if 6 ≤ j ∧ j < 6 + (f 3 - 1) then f (j + 1) else f j) := by
    split
    · exact h _ (by omega) (by omega)
    · exact h _ j0 j1
  unfold gon
  rw [a1, a2, e3, hl, h 0 (by omega) (by omega), h 1 (by omega) (by omega), h 4 (by omega) (by omega), h 5 (by omega) (by omega)]
theorem tkF_cg (h : ∀ i, 0 ≤ i → i < 36 → rb l' r i = rb l r i) (hi : ∀ i, 0 ≤ i → i < 104 → i ≠ 2 → l' i = l i) (h3 : 0 ≤ rb l r 3 ∧ rb l r 3 ≤ 30) (hb : 0 ≤ rb l r 0 ∧ rb l r 0 < 48) (j0 : 0 ≤ j) (j1 : j < 36) : tkF l' r j = tkF l r j := by
  unfold tkF
  rw [h 3 (by omega) (by omega), h 0 (by omega) (by omega), hi (8 + rb l r 0) (by omega) (by omega) (by omega)]
  by_cases c : 0 < rb l r 3
  · rw [if_pos c, if_pos c]
    exact gon_cg h c h3.2 j0 j1
  · rw [if_neg c, if_neg c]
    by_cases d : l (8 + rb l r 0) = 2
    · rw [if_pos d, if_pos d]
      show (if j = 1 then min 99 (rb l' r 1 + l' 5) else rb l' r j) = if j = 1 then min 99 (rb l r 1 + l 5) else rb l r j
      rw [h 1 (by omega) (by omega), hi 5 (by omega) (by omega) (by omega), h j j0 j1]
    · rw [if_neg d, if_neg d]
      exact h j j0 j1
/-- all robots, one after the other -/
theorem tk_all : ∀ (n : Nat) (k : Int) (l : Int → Int), 0 ≤ k → k + n ≤ 6 → (∀ r, k ≤ r → r < k + n → (0 ≤ rb l r 3 ∧ rb l r 3 ≤ 30) ∧ (0 ≤ rb l r 0 ∧ rb l r 0 < 48)) → (∀ i, i < 104 → tkr n k l i = l i) ∧ (∀ r, 0 ≤ r → r < 6 → (r < k ∨ k + n ≤ r) → ∀ j, 0 ≤ j → j < 36 → rb (tkr n k l) r j = rb l r j) ∧ (∀ r, k ≤ r → r < k + n → ∀ j, 0 ≤ j → j < 36 → j ≠ 2 → rb (tkr n k l) r j = tkF l r j) ∧ (JO l → JO (tkr n k l))
  | 0, k, l, _, _, _ => ⟨fun _ _ => rfl, fun _ _ _ _ _ _ _ => rfl, fun r a b => by omega, fun h => h⟩
  | n + 1, k, l, h0, h1, hb => by
    have hk : 0 ≤ k ∧ k < 6 := by omega
    have er : ∀ r, 0 ≤ r → r < 6 → r ≠ k → ∀ i, 0 ≤ i → i < 36 → rb (tkL l k) r i = rb l r i := fun r r0 r1 e i i0 i1 => by rw [tL_r hk ⟨r0, r1⟩ ⟨i0, i1⟩ (Or.inl e), if_neg e]
    obtain ⟨a, b, c, d⟩ := tk_all n (k + 1) (tkL l k) (by omega) (by omega) fun r r0 r1 => by
      rw [er r (by omega) (by omega) (by omega) 3 (by omega) (by omega), er r (by omega) (by omega) (by omega) 0 (by omega) (by omega)]
      exact hb r (by omega) (by omega)
    show (∀ i, i < 104 → tkr n (k + 1) (tkL l k) i = l i) ∧ (∀ r, 0 ≤ r → r < 6 → (r < k ∨ k + ((n + 1 : Nat) : Int) ≤ r) → ∀ j, 0 ≤ j → j < 36 → rb (tkr n (k + 1) (tkL l k)) r j = rb l r j) ∧ (∀ r, k ≤ r → r < k + ((n + 1 : Nat) : Int) → ∀ j, 0 ≤ j → j < 36 → j ≠ 2 → rb (tkr n (k + 1) (tkL l k)) r j = tkF l r j) ∧ (JO l → JO (tkr n (k + 1) (tkL l k)))
    refine ⟨fun i hi => (a i hi).trans (tL_i hk hi), fun r r0 r1 q j j0 j1 => ?_, fun r r0 r1 j j0 j1 j2 => ?_, fun h => d (jo_tL hk h)⟩
    · rw [b r r0 r1 (by omega) j j0 j1, er r r0 r1 (by omega) j j0 j1]
    · by_cases e : r = k
      · rw [b r (by omega) (by omega) (by omega) j j0 j1, tL_r hk (by omega) ⟨j0, j1⟩ (Or.inr j2), if_pos e, e]
      · rw [c r (by omega) (by omega) j j0 j1 j2]
        have q := hb r (by omega) (by omega)
        exact tkF_cg (er r (by omega) (by omega) e) (fun i _ i1 _ => tL_i hk i1) q.1 q.2 j0 j1
/-- a tick: what is left of it -/
abbrev tick (l : Int → Int) : Int → Int := tkr (l 3).toNat 0 (u1 l 2 (l 2 + 1))
theorem ti_all (hR : RgC l) (hO : JO l) : (∀ i, i < 104 → i ≠ 2 → tick l i = l i) ∧ tick l 2 = l 2 + 1 ∧ (∀ r, isR l r → ∀ j, 0 ≤ j → j < 36 → j ≠ 2 → rb (tick l) r j = tkF l r j) ∧ JO (tick l) := by
  have g := rg_r hR
  have gc := rg_c hR
  have er : ∀ r, 0 ≤ r → ∀ j, 0 ≤ j → rb (u1 l 2 (l 2 + 1)) r j = rb l r j := fun r a j b => u1_ne (i := 104 + 36 * r + j) (by omega)
  obtain ⟨a, b, c, d⟩ := tk_all (l 3).toNat 0 (u1 l 2 (l 2 + 1)) (by omega) (by omega) fun r r0 r1 => by
    rw [er r r0 3 (by omega), er r r0 0 (by omega)]
    have e1 := rg_b3 hR (r := r) ⟨r0, by omega⟩
    have e2 := rg_b0 hR (r := r) ⟨r0, by omega⟩
    omega
  refine ⟨fun i hi hn => (a i hi).trans (u1_ne hn), (a 2 (by omega)).trans u1_eq, fun r hr j j0 j1 j2 => ?_, d fun o ho => ?_⟩
  · rw [c r hr.1 (by have := hr.2; omega) j j0 j1 j2]
    have e1 := rg_b3 hR hr
    have e2 := rg_b0 hR hr
    exact tkF_cg (fun i i0 _ => er r hr.1 i i0) (fun i _ _ i2 => u1_ne i2) e1 (by omega) j0 j1
  · have eb : ∀ j, 0 ≤ j → ob (u1 l 2 (l 2 + 1)) o j = ob l o j := fun j q => u1_ne (i := 320 + 8 * o + j) (by have := ho.1; omega)
    rw [eb 4 (by omega), eb 2 (by omega), eb 1 (by omega)]
    exact hO o ⟨ho.1, by have := ho.2; rw [u1_ne (by omega)] at this; exact this⟩
/-- a robot is where it was planned -/
theorem tkF_ahd (hR : RgC l) (hr : isR l r) (hm : ∀ j, 0 ≤ j → j < 36 → j ≠ 2 → rb m r j = tkF l r j) (ht : 0 ≤ t) : ahd m r t = ahd l r (t + 1) := by
  have e3 := rg_b3 hR hr
  have m3 := hm 3 (by omega) (by omega) (by omega)
  have m0 := hm 0 (by omega) (by omega) (by omega)
  unfold tkF at m3 m0
  by_cases c : 0 < rb l r 3
  · rw [if_pos c] at m3 m0
    have m3 : rb m r 3 = rb l r 3 - 1 := m3
    have m0 : rb m r 0 = ahf (rb l r) 1 := m0
    have a1 : ahf (rb l r) 1 = rb l r 6 := ahf_1 (by omega) (by omega)
    unfold ahd
    by_cases q : t = 0 ∨ rb m r 3 = 0
    · rw [ahf_0 q, m0]
      rcases q with q | q
      · rw [q]; rfl
      · rw [ahf_end (f := rb l r) (t := t + 1) (by omega) (by omega), show rb l r 3 = 1 by omega]
    · have pl : ∀ i, 0 ≤ i → i < rb m r 3 → rb m r (6 + i) = rb l r (6 + i + 1) := fun i i0 i1 => by
        rw [hm (6 + i) (by omega) (by omega) (by omega)]
        unfold tkF
        rw [if_pos c]
        show gon (rb l r) (6 + i) = _
        unfold gon
        rw [if_neg (by omega), if_neg (by omega), if_neg (by omega), if_neg (by omega), if_pos (by omega)]
      by_cases q2 : t ≤ rb m r 3
      · rw [ahf_1 (by omega) q2, ahf_1 (by omega) (by omega), pl (t - 1) (by omega) (by omega)]
        congr 1
        omega
      · rw [ahf_2 (by omega) (by omega), ahf_2 (by omega) (by omega), pl (rb m r 3 - 1) (by omega) (by omega), m3]
        congr 1
        omega
  · rw [if_neg c] at m3 m0
    have e0 : rb m r 0 = rb l r 0 ∧ rb m r 3 = 0 := by
      by_cases d : l (8 + rb l r 0) = 2
      · rw [if_pos d] at m3 m0
        have m3 : rb m r 3 = rb l r 3 := m3.trans (u1_ne (by omega))
        have m0 : rb m r 0 = rb l r 0 := m0.trans (u1_ne (by omega))
        omega
      · rw [if_neg d] at m3 m0
        omega
    unfold ahd
    rw [ahf_0 (Or.inr e0.2), ahf_0 (Or.inr (by omega)), e0.1]
end E5
