/-! both rows after a change, fourth: a robot taken off, a plan -/
section PI_
variable {l m m' W : Int → Int} {c w r o t a b i x y z ro g fr to T ct k d e v : Int} {n : Nat}
theorem st_tak (h : StR T l m) (hy : isR m y) (h2 : ¬ 0 ≤ rb m y 2) : StR T (dro l y) (bys (rT0 m y) y (m 4)) := by
  obtain ⟨hS, hI, hC, hB⟩ := h
  obtain ⟨hR, hT, hH, hE, hN⟩ := id hI
  have hcc := rgc_of hR hT
  obtain ⟨g0, g1, g2, g3, g4, gc, g5, g6, g7, gk, gl, gr, go⟩ := id hcc
  have hr := hR.1
  have gO := hR.2.2.2.2.2.2.2.2.2.2.2.2
  have el3 := sm_3 hS
  have hy0 := hy.1
  have hy1 := hy.2
  generalize hn : m 3 = N at *
  have t0 (i : Int) (a : i ≠ 3) (b : i < 104 + 36 * y ∨ 104 + 36 * (N - 1) ≤ i) : rT0 m y i = m i := by
    unfold rT0 cpI
    rw [u1_eq, hn, if_neg (by omega), u1_ne a]
  have t1 (i : Int) (a : 104 + 36 * y ≤ i) (b : i < 104 + 36 * (N - 1)) : rT0 m y i = m (i + 36) := by
    unfold rT0 cpI
    rw [u1_eq, hn, if_pos (by omega), u1_ne (by omega)]
    congr 1
    omega
  have t3 : rT0 m y 3 = N - 1 := by
    unfold rT0 cpI
    rw [u1_eq, hn, if_neg (by omega)]
  generalize hg : bys (rT0 m y) y (m 4) = M'
  have mlo (i : Int) (a : i ≠ 3) (b : i < 104 + 36 * y) : M' i = m i := by
    rw [← hg]
    exact (bys_k i (by omega)).trans (t0 i a (.inl b))
  have m3 : M' 3 = N - 1 := by
    rw [← hg]
    exact (bys_k 3 (by omega)).trans t3
  have mr (r j : Int) (a : 0 ≤ r) (b : r < N - 1) (c : 0 ≤ j) (d : j < 36) : rb M' r j = rb m (if r < y then r else r + 1) j := by
    show M' (104 + 36 * r + j) = _
    rw [← hg, bys_k _ (by omega)]
    by_cases q : r < y
    · rw [if_pos q]; exact t0 (104 + 36 * r + j) (by omega) (by omega)
    · rw [if_neg q, t1 (104 + 36 * r + j) (by omega) (by omega)]
      show m (104 + 36 * r + j + 36) = m (104 + 36 * (r + 1) + j)
      congr 1
      omega
  have mo (o j : Int) (a : isO m o) (c : 0 ≤ j) (d : j < 8) : ob M' o j = if j = 3 ∧ y < ob m o 3 then ob m o 3 - 1 else ob m o j := by
    have a0 := a.1; have a1 := a.2
    have e : rT0 m y (320 + 8 * o + j) = ob m o j := t0 (320 + 8 * o + j) (by omega) (by omega)
    show M' (320 + 8 * o + j) = _
    rw [← hg]
    show (if (320 ≤ 320 + 8 * o + j ∧ 320 + 8 * o + j < 320 + 8 * m 4 ∧ (320 + 8 * o + j - 320) % 8 = 3) ∧ y < rT0 m y (320 + 8 * o + j) then rT0 m y (320 + 8 * o + j) - 1 else rT0 m y (320 + 8 * o + j)) = _
    rw [e]
    by_cases q : j = 3
    · rw [q]
      by_cases u : y < ob m o 3
      · rw [if_pos ⟨by omega, u⟩, if_pos ⟨rfl, u⟩]
      · rw [if_neg (fun z => u z.2), if_neg (fun z => u z.2)]
    · rw [if_neg (by omega), if_neg (fun z => q z.1)]
  have mcs : cs M' = cs m := by unfold cs; rw [mlo 0 (by omega) (by omega), mlo 1 (by omega) (by omega)]
  have m4 : M' 4 = m 4 := mlo 4 (by omega) (by omega)
  have eR (r : Int) : isR M' r ↔ (0 ≤ r ∧ r < N - 1) := by unfold isR; rw [m3]
  have eO (o : Int) : isO M' o ↔ isO m o := by unfold isO; rw [m4]
  have eC (c : Int) : isC M' c ↔ isC m c := by unfold isC; rw [mcs]
  have sR (r : Int) (a : 0 ≤ r) (b : r < N - 1) : isR m (if r < y then r else r + 1) := ⟨by split <;> omega, by rw [hn]; split <;> omega⟩
  have een (c : Int) (hc : isC m c) : ent M' c ↔ ent m c := ent_cg (mlo _ (by have := hc.1; omega) (by have := hc.1; have := hc.2; omega)) (mlo _ (by have := hc.1; omega) (by have := hc.1; have := hc.2; omega))
  have ea (r t : Int) (a : 0 ≤ r) (b : r < N - 1) (c : 0 ≤ t) : ahd M' r t = ahd m (if r < y then r else r + 1) t := ahd_cg hcc (sR r a b) c fun j d e _ => mr r j a b d e
  have hby (o : Int) (a : isO m o) : ob m o 3 ≠ y := fun e => by
    have := hH.2.1 o a (by rw [e]; exact hy0)
    rw [e] at this
    exact h2 (by rw [this]; exact a.1)
  have hbr (o : Int) (a : isO m o) : -1 ≤ ob m o 3 ∧ ob m o 3 < N := by have := iv_by hI a; rw [hn] at this; exact this
  have RC : RgC M' := by
    unfold RgC
    rw [mcs, mlo 0 (by omega) (by omega), mlo 1 (by omega) (by omega), mlo 2 (by omega) (by omega), m3, m4, mlo 5 (by omega) (by omega), mlo 6 (by omega) (by omega), mlo 7 (by omega) (by omega)]
    refine ⟨g0, g1, g2, by omega, g4, gc, g5, g6, g7, fun k a b => by rw [mlo _ (by omega) (by omega)]; exact gk k a b, fun k a b => by rw [mlo _ (by omega) (by omega)]; exact gl k a b, fun r a b => ?_, fun o a b => ?_⟩
    · exact rf_cg (rgc_r hcc (sR r a b)) fun j c d => mr r j a b c d
    · exact of_cg (go o a b) fun j c d e => (mo o j ⟨a, b⟩ c d).trans (if_neg (fun z => e z.1))
  have hbv (o : Int) (a : isO m o) : ob M' o 3 = if y < ob m o 3 then ob m o 3 - 1 else ob m o 3 := by
    rw [mo o 3 a (by omega) (by omega)]
    by_cases q : y < ob m o 3
    · rw [if_pos ⟨rfl, q⟩, if_pos q]
    · rw [if_neg (fun z => q z.2), if_neg q]
  have RR : Rg M' := by
    refine rg_of (fun i => ?_) RC fun o a b => ?_
    · have q1 := hr i
      have q2 := hr (i + 36)
      rw [← hg]
      have e : -1000000 ≤ rT0 m y i ∧ rT0 m y i ≤ 1000000 := by
        by_cases q : i = 3
        · rw [q, t3]; omega
        · by_cases u : i < 104 + 36 * y ∨ 104 + 36 * (N - 1) ≤ i
          · rw [t0 i q u]; exact q1
          · rw [t1 i (by omega) (by omega)]; exact q2
      show -1000000 ≤ (if (320 ≤ i ∧ i < 320 + 8 * m 4 ∧ (i - 320) % 8 = 3) ∧ y < rT0 m y i then rT0 m y i - 1 else rT0 m y i) ∧ (if (320 ≤ i ∧ i < 320 + 8 * m 4 ∧ (i - 320) % 8 = 3) ∧ y < rT0 m y i then rT0 m y i - 1 else rT0 m y i) ≤ 1000000
      split <;> omega
    · rw [m4] at b
      have ho : isO m o := ⟨a, b⟩
      have q1 := hby o ho
      have q2 := hbr o ho
      rw [hbv o ho, m3]
      split <;> omega
  refine ⟨⟨fun i a b => ?_, fun c hc => ?_, fun r hr => ?_, fun o ho k a b c => ?_⟩, ⟨RR, by rw [mlo 2 (by omega) (by omega)]; exact hT, ⟨fun r a b => ?_, fun o a b => ?_, fun o a b c => ?_⟩, fun r a t b => ?_, fun r r' a a' b t c => ?_⟩, fun k a b => ?_, ⟨by rw [mlo 2 (by omega) (by omega)]; exact hB.1, fun r a b => ?_, fun o a b => ?_⟩⟩
  · by_cases q : i = 3
    · rw [q, m3]
      have : dro l y 3 = l 3 - 1 := if_pos rfl
      rw [this, el3]
    · rw [dro_o q (by omega), mlo i q (by omega)]; exact hS.1 i a b
  · have hc := (eC c).mp hc
    have := hc.1; have := hc.2
    rw [dro_o (by omega) (by omega), mlo _ (by omega) (by omega), dro_o (by omega) (by omega), mlo _ (by omega) (by omega)]
    exact hS.2.1 c hc
  · have hr := (eR r).mp hr
    have hs := sR r hr.1 hr.2
    have lr (j : Int) (a : 0 ≤ j) (b : j < 36) : rb (dro l y) r j = rb l (if r < y then r else r + 1) j := by
      rw [dro_r hr.1 (by omega) a b, el3]
      unfold dsg
      by_cases q : r < y
      · rw [if_pos (.inl q), if_pos q]
      · rw [if_neg (by omega), if_neg (by omega), if_neg q]
    refine ⟨fun j a b => ?_, fun t a b => ?_⟩
    · rw [lr j a (by omega), mr r j hr.1 hr.2 a (by omega)]
      exact (hS.2.2.1 _ hs).1 j a b
    · rw [mr r 3 hr.1 hr.2 (by omega) (by omega)] at b
      have h3 := (rgc_r hcc hs).2.2.2.1
      rw [lr (6 + t) (by omega) (by omega), mr r (6 + t) hr.1 hr.2 (by omega) (by omega)]
      exact (hS.2.2.1 _ hs).2 t a b
  · have ho := (eO o).mp ho
    have := ho.1
    rw [mo o k ho a b, if_neg (fun z => c z.1)]
    have e : ob (dro l y) o k = ob l o k := dro_o (i := 320 + 8 * o + k) (by omega) (by omega)
    rw [e]
    exact hS.2.2.2 o ho k a b c
  · have a := (eR r).mp a
    have hs := sR r a.1 a.2
    rw [mr r 2 a.1 a.2 (by omega) (by omega)] at b ⊢
    obtain ⟨q1, q2⟩ := hH.1 _ hs b
    have ho : isO m (rb m (if r < y then r else r + 1) 2) := ⟨b, (rgc_r hcc hs).2.2.1.2⟩
    refine ⟨?_, ?_⟩
    · rw [hbv _ ho, q1]
      split <;> split <;> omega
    · rw [mo _ 4 ho (by omega) (by omega), if_neg (by omega)]
      exact q2
  · have a := (eO o).mp a
    rw [hbv o a] at b ⊢
    have q1 := hby o a
    have q2 := hbr o a
    by_cases q : y < ob m o 3
    · rw [if_pos q] at b ⊢
      rw [mr _ 2 b (by omega) (by omega) (by omega), if_neg (by omega), show ob m o 3 - 1 + 1 = ob m o 3 by omega]
      exact hH.2.1 o a (by omega)
    · rw [if_neg q] at b ⊢
      rw [mr _ 2 b (by omega) (by omega) (by omega), if_pos (by omega)]
      exact hH.2.1 o a b
  · have a := (eO o).mp a
    rw [hbv o a] at b
    rw [mo o 4 a (by omega) (by omega), if_neg (by omega)] at c
    rw [mo o 2 a (by omega) (by omega), if_neg (by omega)]
    refine hH.2.2 o a ?_ c
    split at b <;> omega
  · have a := (eR r).mp a
    rw [ea r t a.1 a.2 b, een _ (ahd_r hR (sR r a.1 a.2) b)]
    exact hE _ (sR r a.1 a.2) t b
  · have a := (eR r).mp a
    have a' := (eR r').mp a'
    rw [ea r t a.1 a.2 c, ea r' t a'.1 a'.2 c]
    exact hN _ _ (sR r a.1 a.2) (sR r' a'.1 a'.2) (by split <;> split <;> omega) t c
  · rw [dro_o (by omega) (by omega)]
    exact hC k a b
  · rw [m3] at b
    rw [mr r 1 a b (by omega) (by omega), mr r 5 a b (by omega) (by omega)]
    exact hB.2.1 _ (sR r a b).1 (sR r a b).2
  · rw [m4] at b
    rw [mo o 4 ⟨a, b⟩ (by omega) (by omega), if_neg (by omega)]
    exact hB.2.2 o a b
end PI_
