/-! both rows after a change, third: add, order -/
section PH
variable {l m m' W : Int → Int} {c w r o t a b i x y z ro g fr to T ct k d e v : Int} {n : Nat}
theorem ent_cg (h1 : m' (8 + c) = m (8 + c)) (h2 : m' (56 + c) = m (56 + c)) : ent m' c ↔ ent m c := by unfold ent; rw [h1, h2]
theorem ahd_cg {r' : Int} (hR : RgC m) (hr : isR m r) (ht : 0 ≤ t) (h : ∀ j, 0 ≤ j → j < 36 → (j = 0 ∨ j = 3 ∨ 6 ≤ j) → rb m' r' j = rb m r j) : ahd m' r' t = ahd m r t := by
  have h3 := (rgc_r hR hr).2.2.2.1
  unfold ahd ahf
  rw [h 0 (by omega) (by omega) (by omega), h 3 (by omega) (by omega) (by omega)]
  by_cases q : t = 0 ∨ rb m r 3 = 0
  · rw [if_pos q, if_pos q]
  · rw [if_neg q, if_neg q]
    exact h _ (by split <;> omega) (by split <;> omega) (by split <;> omega)
theorem rf_cg {n o : Int} {f g : Int → Int} (h : Rf n o f) (e : ∀ j, 0 ≤ j → j < 36 → g j = f j) : Rf n o g := by
  obtain ⟨q0, q1, q2, q3, q4, q5, q6⟩ := h
  unfold Rf
  rw [e 0 (by omega) (by omega), e 1 (by omega) (by omega), e 2 (by omega) (by omega), e 3 (by omega) (by omega), e 4 (by omega) (by omega), e 5 (by omega) (by omega)]
  exact ⟨q0, q1, q2, q3, q4, q5, fun t a b => by rw [e _ (by omega) (by omega)]; exact q6 t a b⟩
theorem of_cg {n : Int} {f g : Int → Int} (h : Of n f) (e : ∀ j, 0 ≤ j → j < 8 → j ≠ 3 → g j = f j) : Of n g := by
  obtain ⟨q0, q1, q2, q4, q5, q6⟩ := h
  unfold Of
  rw [e 0 (by omega) (by omega) (by omega), e 1 (by omega) (by omega) (by omega), e 2 (by omega) (by omega) (by omega), e 4 (by omega) (by omega) (by omega)]
  exact ⟨q0, q1, q2, q4, fun t a b => by rw [e _ (by omega) (by omega) (by omega)]; exact q5 t a b, fun t a b => by rw [e _ (by omega) (by omega) (by omega)]; exact q6 t a b⟩
theorem st_add (h : StR T l m) (hc : isC m y) (he : ent m y) (hz : 0 ≤ z ∧ z ≤ 99) (h6 : m 3 ≠ 6) (hw : ∀ r, isR m r → ∀ t, 0 ≤ t → ahd m r t ≠ y) : StR T (u1 (rset l (l 3) (bgn (rb l (l 3)) y z)) 3 (l 3 + 1)) (rAdd m y z) := by
  obtain ⟨hS, hI, hC, hB⟩ := h
  obtain ⟨hR, hT, hH, hE, hN⟩ := id hI
  have hcc := rgc_of hR hT
  obtain ⟨g0, g1, g2, g3, g4, gc, g5, g6, g7, gk, gl, gr, go⟩ := id hcc
  have hr := hR.1
  have gO := hR.2.2.2.2.2.2.2.2.2.2.2.2
  rw [sm_3 hS]
  generalize hn : m 3 = N at *
  have N5 : N ≤ 5 := by omega
  have hT0 : 0 ≤ T := by have := hB.1; omega
  -- the reference's row
  have mo (i : Int) (a : i ≠ 3) (b : i < 104 + 36 * N ∨ 140 + 36 * N ≤ i) : rAdd m y z i = m i := by
    unfold rAdd
    rw [hn, u1_ne a, u1_ne (by omega), u1_ne (by omega), u1_ne (by omega)]
    exact if_neg (by omega)
  have m3 : rAdd m y z 3 = N + 1 := by unfold rAdd; rw [hn, u1_eq]
  have mN (j : Int) (a : 0 ≤ j) (b : j < 36) : rb (rAdd m y z) N j = if j = 0 then y else if j = 1 then z else if j = 2 then -1 else 0 := by
    show rAdd m y z (104 + 36 * N + j) = _
    unfold rAdd
    rw [hn, u1_ne (by omega)]
    by_cases q0 : j = 0
    · rw [if_pos q0, q0, u1_ne (by omega), u1_ne (by omega), Int.add_zero, u1_eq]
    · rw [if_neg q0]
      by_cases q1 : j = 1
      · rw [if_pos q1, q1, u1_ne (by omega), u1_eq]
      · rw [if_neg q1]
        by_cases q2 : j = 2
        · rw [if_pos q2, q2, u1_eq]
        · rw [if_neg q2, u1_ne (by omega), u1_ne (by omega), u1_ne (by omega)]
          exact if_pos (by omega)
  have mr (r j : Int) (a : 0 ≤ r) (b : r < 6) (c : r ≠ N) (d : 0 ≤ j) (e : j < 36) : rb (rAdd m y z) r j = rb m r j := mo (104 + 36 * r + j) (by omega) (by omega)
  have mob (o k : Int) (a : 0 ≤ o) (b : 0 ≤ k) : ob (rAdd m y z) o k = ob m o k := mo (320 + 8 * o + k) (by omega) (by omega)
  have mcs : cs (rAdd m y z) = cs m := by unfold cs; rw [mo 0 (by omega) (by omega), mo 1 (by omega) (by omega)]
  have m4 : rAdd m y z 4 = m 4 := mo 4 (by omega) (by omega)
  have eR (r : Int) : isR (rAdd m y z) r ↔ (0 ≤ r ∧ r < N + 1) := by unfold isR; rw [m3]
  have eO (o : Int) : isO (rAdd m y z) o ↔ isO m o := by unfold isO; rw [m4]
  have eC (c : Int) : isC (rAdd m y z) c ↔ isC m c := by unfold isC; rw [mcs]
  have een (c : Int) (hc : isC m c) : ent (rAdd m y z) c ↔ ent m c := ent_cg (mo _ (by omega) (by have := hc.1; have := hc.2; omega)) (mo _ (by omega) (by have := hc.1; have := hc.2; omega))
  have ea (r t : Int) (a : isR m r) (b : 0 ≤ t) : ahd (rAdd m y z) r t = ahd m r t := by
    have a2 := a.2
    rw [hn] at a2
    exact ahd_cg hcc a b fun j c d _ => mr r j a.1 (by omega) (by omega) c d
  have eN (t : Int) : ahd (rAdd m y z) N t = y := by
    unfold ahd ahf
    rw [if_pos (.inr (by rw [mN 3 (by omega) (by omega)]; rfl)), mN 0 (by omega) (by omega)]
    rfl
  have isr (r : Int) (a : 0 ≤ r) (b : r < N) : isR m r := ⟨a, by rw [hn]; exact b⟩
  have RC : RgC (rAdd m y z) := by
    unfold RgC
    rw [mcs, mo 0 (by omega) (by omega), mo 1 (by omega) (by omega), mo 2 (by omega) (by omega), m3, m4, mo 5 (by omega) (by omega), mo 6 (by omega) (by omega), mo 7 (by omega) (by omega)]
    refine ⟨g0, g1, g2, by omega, g4, gc, g5, g6, g7, fun k a b => by rw [mo _ (by omega) (by omega)]; exact gk k a b, fun k a b => by rw [mo _ (by omega) (by omega)]; exact gl k a b, fun r a b => ?_, fun o a b => of_cg (go o a b) fun j c d _ => mob o j a c⟩
    by_cases q : r = N
    · rw [q]
      unfold Rf
      rw [mN 0 (by omega) (by omega), mN 1 (by omega) (by omega), mN 2 (by omega) (by omega), mN 3 (by omega) (by omega), mN 4 (by omega) (by omega), mN 5 (by omega) (by omega)]
      exact ⟨hc, ⟨by show -300000 ≤ z; omega, hz.2⟩, ⟨by show (-1 : Int) ≤ -1; omega, by show (-1 : Int) < m 4; omega⟩, ⟨by show (0 : Int) ≤ 0; omega, by show (0 : Int) ≤ 30; omega⟩, ⟨by show (0 : Int) ≤ 0; omega, by show (0 : Int) ≤ 3; omega⟩, ⟨by show (0 : Int) ≤ 0; omega, by show (0 : Int) ≤ 100000; omega⟩, fun t a b => by
        have b : t < (0 : Int) := b
        omega⟩
    · exact rf_cg (gr r a (by omega)) fun j c d => mr r j a (by omega) q c d
  have RR : Rg (rAdd m y z) := by
    refine rg_of (fun i => ?_) RC fun o a b => ?_
    · by_cases q3 : i = 3
      · rw [q3, m3]; omega
      · by_cases q : i < 104 + 36 * N ∨ 140 + 36 * N ≤ i
        · rw [mo i q3 q]; exact hr i
        · have e := mN (i - (104 + 36 * N)) (by omega) (by omega)
          have e2 : rb (rAdd m y z) N (i - (104 + 36 * N)) = rAdd m y z i := by
            show rAdd m y z (104 + 36 * N + (i - (104 + 36 * N))) = _
            rw [show 104 + 36 * N + (i - (104 + 36 * N)) = i by omega]
          rw [← e2, e]
          have := hc.1; have := hc.2
          repeat' split
          all_goals omega
    · rw [m4] at b
      rw [mob o 3 a (by omega), m3]
      have := (gO o a b).2
      omega
  refine ⟨⟨fun i a b => ?_, fun c hc => ?_, fun r hr => ?_, fun o ho k a b c => ?_⟩, ⟨RR, by rw [mo 2 (by omega) (by omega)]; exact hT, ⟨fun r a b => ?_, fun o a b => ?_, fun o a b c => ?_⟩, fun r a t b => ?_, fun r r' a a' b t c => ?_⟩, fun k a b => ?_, ⟨by rw [mo 2 (by omega) (by omega)]; exact hB.1, fun r a b => ?_, fun o a b => ?_⟩⟩
  · by_cases q : i = 3
    · rw [q, u1_eq, m3]
    · rw [u1_ne q, rset_o (by omega), mo i q (by omega)]; exact hS.1 i a b
  · have hc := (eC c).mp hc
    have := hc.1; have := hc.2
    rw [u1_ne (by omega), rset_o (by omega), mo _ (by omega) (by omega), u1_ne (by omega), rset_o (by omega), mo _ (by omega) (by omega)]
    exact hS.2.1 c hc
  · have hr := (eR r).mp hr
    have lr (j : Int) (a : 0 ≤ j) (b : j < 36) : rb (u1 (rset l N (bgn (rb l N) y z)) 3 (N + 1)) r j = rb (rset l N (bgn (rb l N) y z)) r j := u1_ne (i := 104 + 36 * r + j) (by omega)
    by_cases q : r = N
    · rw [q] at lr ⊢
      refine ⟨fun j a b => ?_, fun t a b => ?_⟩
      · rw [lr j a (by omega), rset_eq a (by omega), mN j a (by omega)]
        unfold bgn
        by_cases q4 : j = 4
        · rw [q4, u1_eq]; rfl
        · rw [u1_ne q4]
          by_cases q3 : j = 3
          · rw [q3, u1_eq]; rfl
          · rw [u1_ne q3]
            by_cases q5 : j = 5
            · rw [q5, u1_eq]; rfl
            · rw [u1_ne q5]
              by_cases q2 : j = 2
              · rw [q2, u1_eq]; rfl
              · rw [u1_ne q2]
                by_cases q1 : j = 1
                · rw [q1, u1_eq]; rfl
                · rw [u1_ne q1, show j = 0 by omega, u1_eq]; rfl
      · rw [mN 3 (by omega) (by omega)] at b
        have b : t < (0 : Int) := b
        omega
    · have hm := isr r hr.1 (by omega)
      refine ⟨fun j a b => ?_, fun t a b => ?_⟩
      · rw [lr j a (by omega), rset_ne a (by omega) q, mr r j hr.1 (by omega) q a (by omega)]
        exact (hS.2.2.1 r hm).1 j a b
      · rw [mr r 3 hr.1 (by omega) q (by omega) (by omega)] at b
        have h3 := (rgc_r hcc hm).2.2.2.1
        rw [lr (6 + t) (by omega) (by omega), rset_ne (by omega) (by omega) q, mr r (6 + t) hr.1 (by omega) q (by omega) (by omega)]
        exact (hS.2.2.1 r hm).2 t a b
  · have ho := (eO o).mp ho
    have := ho.1
    rw [mob o k ho.1 a]
    have e : ob (u1 (rset l N (bgn (rb l N) y z)) 3 (N + 1)) o k = ob l o k := (u1_ne (i := 320 + 8 * o + k) (by omega)).trans (rset_o (by omega))
    rw [e]
    exact hS.2.2.2 o ho k a b c
  · have a := (eR r).mp a
    by_cases q : r = N
    · rw [q, mN 2 (by omega) (by omega)] at b
      have b : (0 : Int) ≤ -1 := b
      omega
    · have hm := isr r a.1 (by omega)
      rw [mr r 2 a.1 (by omega) q (by omega) (by omega)] at b ⊢
      rw [mob _ 3 b (by omega), mob _ 4 b (by omega)]
      exact hH.1 r hm b
  · have a := (eO o).mp a
    rw [mob o 3 a.1 (by omega)] at b ⊢
    have hb := (iv_by hI a).2
    rw [hn] at hb
    rw [mr _ 2 b (by omega) (by omega) (by omega) (by omega)]
    exact hH.2.1 o a b
  · have a := (eO o).mp a
    rw [mob o 3 a.1 (by omega)] at b
    rw [mob o 4 a.1 (by omega)] at c
    rw [mob o 2 a.1 (by omega)]
    exact hH.2.2 o a b c
  · have a := (eR r).mp a
    by_cases q : r = N
    · rw [q, eN, een y hc]; exact he
    · have hm := isr r a.1 (by omega)
      rw [ea r t hm b, een _ (ahd_r hR hm b)]
      exact hE r hm t b
  · have a := (eR r).mp a
    have a' := (eR r').mp a'
    by_cases q : r = N
    · have hm := isr r' a'.1 (by omega)
      rw [q, eN, ea r' t hm c]
      exact (hw r' hm t c).symm
    · have hm := isr r a.1 (by omega)
      by_cases q' : r' = N
      · rw [q', eN, ea r t hm c]
        exact hw r hm t c
      · have hm' := isr r' a'.1 (by omega)
        rw [ea r t hm c, ea r' t hm' c]
        exact hN r r' hm hm' b t c
  · rw [u1_ne (by omega), rset_o (by omega)]
    exact hC k a b
  · rw [m3] at b
    by_cases q : r = N
    · rw [q, mN 1 (by omega) (by omega), mN 5 (by omega) (by omega)]
      exact ⟨by show -3 * T ≤ z; omega, hT0⟩
    · rw [mr r 1 a (by omega) q (by omega) (by omega), mr r 5 a (by omega) q (by omega) (by omega)]
      exact hB.2.1 r a (by rw [hn]; omega)
  · rw [m4] at b
    rw [mob o 4 a (by omega)]
    exact hB.2.2 o a b
theorem st_ord (h : StR T l m) (ha : isC m a) (hb : isC m b ∨ b = -1) (hc : isC m c ∨ c = -1) (hd : 0 ≤ d ∧ d ≤ 999) (hbc : b = -1 → c = -1) (h10 : m 4 ≠ 10) (w0 : W 0 = a) (w1 : W 1 = b) (w2 : W 2 = c) : StR T (u1 (oset l (l 4) (obg (ob l (l 4)) d a b c)) 4 (l 4 + 1)) (rOrd m d (cntO b c) W) := by
  obtain ⟨hS, hI, hC, hB⟩ := h
  obtain ⟨hR, hT, hH, hE, hN⟩ := id hI
  have hcc := rgc_of hR hT
  obtain ⟨g0, g1, g2, g3, g4, gc, g5, g6, g7, gk, gl, gr, go⟩ := id hcc
  have hr := hR.1
  have gO := hR.2.2.2.2.2.2.2.2.2.2.2.2
  rw [sm_4 hS]
  generalize hn : m 4 = N at *
  have N9 : N ≤ 9 := by omega
  have hT0 : 0 ≤ T := by have := hB.1; omega
  have hcn : 1 ≤ cntO b c ∧ cntO b c ≤ 3 := by
    unfold cntO
    repeat' split
    all_goals omega
  -- the reference's row
  have o1 (i : Int) (h : i < 320 + 8 * N ∨ 328 + 8 * N ≤ i) : rO1 m d (cntO b c) W i = m i := by
    unfold rO1 cpI
    rw [hn, if_neg (by omega), u1_ne (by omega), u1_ne (by omega), u1_ne (by omega), u1_ne (by omega), u1_ne (by omega)]
  have mo (i : Int) (a_ : i ≠ 4) (b_ : i < 320 + 8 * N ∨ 328 + 8 * N ≤ i) : rOrd m d (cntO b c) W i = m i := (u1_ne a_).trans (o1 i b_)
  have m4 : rOrd m d (cntO b c) W 4 = N + 1 := by
    unfold rOrd
    rw [u1_eq, o1 4 (by omega), hn]
  have mN (j : Int) (a_ : 0 ≤ j) (b_ : j < 8) : ob (rOrd m d (cntO b c) W) N j = if j = 0 then d else if j = 1 then cntO b c else if j = 2 then 0 else if j = 3 then -1 else if j = 4 then -1 else if j = 5 then a else if j = 6 then b else c := by
    show rOrd m d (cntO b c) W (320 + 8 * N + j) = _
    unfold rOrd
    rw [u1_ne (by omega)]
    unfold rO1 cpI
    rw [hn]
    by_cases q5 : 5 ≤ j
    · rw [if_pos (by omega), show 0 + (320 + 8 * N + j - (320 + 8 * N + 5)) = j - 5 by omega, if_neg (by omega), if_neg (by omega), if_neg (by omega), if_neg (by omega), if_neg (by omega)]
      by_cases p5 : j = 5
      · rw [if_pos p5, p5]; exact w0
      · rw [if_neg p5]
        by_cases p6 : j = 6
        · rw [if_pos p6, p6]; exact w1
        · rw [if_neg p6, show j = 7 by omega]; exact w2
    · rw [if_neg (by omega)]
      by_cases q4 : j = 4
      · rw [q4, u1_eq]; rfl
      · rw [u1_ne (by omega)]
        by_cases q3 : j = 3
        · rw [q3, u1_eq]; rfl
        · rw [u1_ne (by omega)]
          by_cases q2 : j = 2
          · rw [q2, u1_eq]; rfl
          · rw [u1_ne (by omega)]
            by_cases q1 : j = 1
            · rw [q1, u1_eq]; rfl
            · rw [u1_ne (by omega), show j = 0 by omega, u1_eq]; rfl
  have mr (r j : Int) (b_ : 0 ≤ r ∧ r < 6) (e : 0 ≤ j ∧ j < 36) : rb (rOrd m d (cntO b c) W) r j = rb m r j := mo (104 + 36 * r + j) (by omega) (by omega)
  have mob (o k : Int) (a_ : 0 ≤ o) (b_ : 0 ≤ k ∧ k < 8) (c_ : o ≠ N) : ob (rOrd m d (cntO b c) W) o k = ob m o k := mo (320 + 8 * o + k) (by omega) (by omega)
  have G : Geo m (rOrd m d (cntO b c) W) := ⟨⟨mo 0 (by omega) (by omega), mo 1 (by omega) (by omega), mo 3 (by omega) (by omega)⟩, fun c_ hc_ => mo _ (by have := hc_.1; omega) (by have := hc_.1; have := hc_.2; omega), fun r hr j a_ b_ _ => mr r j ⟨hr.1, by have := hr.2; omega⟩ ⟨a_, b_⟩⟩
  have m3 := G.1.2.2
  have mcs := geo_cs G
  have eR (r : Int) := geo_R (r := r) G
  have eO (o : Int) : isO (rOrd m d (cntO b c) W) o ↔ (0 ≤ o ∧ o < N + 1) := by unfold isO; rw [m4]
  have iso (o : Int) (a : 0 ≤ o) (b : o < N) : isO m o := ⟨a, by rw [hn]; exact b⟩
  have ha0 := ha.1
  have ha1 := ha.2
  have hbr : -1 ≤ b ∧ b < cs m := by
    rcases hb with q | q
    · have := q.1; have := q.2; omega
    · omega
  have hcr : -1 ≤ c ∧ c < cs m := by
    rcases hc with q | q
    · have := q.1; have := q.2; omega
    · omega
  have ON : Of (cs m) (ob (rOrd m d (cntO b c) W) N) := by
    unfold Of
    rw [mN 0 (by omega) (by omega), mN 1 (by omega) (by omega), mN 2 (by omega) (by omega), mN 4 (by omega) (by omega)]
    refine ⟨hd, hcn, ⟨by show (0 : Int) ≤ 0; omega, by show (0 : Int) ≤ cntO b c; omega⟩, ⟨by show (-1 : Int) ≤ -1; omega, by show (-1 : Int) ≤ 100000; omega⟩, fun t a_ b_ => ?_, fun t a_ b_ => ?_⟩
    · rw [mN (5 + t) (by omega) (by omega), if_neg (by omega), if_neg (by omega), if_neg (by omega), if_neg (by omega), if_neg (by omega)]
      by_cases q0 : 5 + t = 5
      · rw [if_pos q0]; omega
      · rw [if_neg q0]
        by_cases q1 : 5 + t = 6
        · rw [if_pos q1]; omega
        · rw [if_neg q1]; omega
    · have b_ : t < cntO b c := b_
      rw [mN (5 + t) (by omega) (by omega), if_neg (by omega), if_neg (by omega), if_neg (by omega), if_neg (by omega), if_neg (by omega)]
      unfold cntO at b_
      by_cases q0 : 5 + t = 5
      · rw [if_pos q0]; omega
      · rw [if_neg q0]
        by_cases u : b = -1
        · rw [if_pos u] at b_; omega
        · rw [if_neg u] at b_
          by_cases q1 : 5 + t = 6
          · rw [if_pos q1]; omega
          · rw [if_neg q1]
            by_cases u2 : c = -1
            · rw [if_pos u2] at b_; omega
            · omega
  have RC : RgC (rOrd m d (cntO b c) W) := by
    unfold RgC
    rw [mcs, mo 0 (by omega) (by omega), mo 1 (by omega) (by omega), mo 2 (by omega) (by omega), m3, m4, mo 5 (by omega) (by omega), mo 6 (by omega) (by omega), mo 7 (by omega) (by omega)]
    refine ⟨g0, g1, g2, g3, by omega, gc, g5, g6, g7, fun k a b => by rw [mo _ (by omega) (by omega)]; exact gk k a b, fun k a b => by rw [mo _ (by omega) (by omega)]; exact gl k a b, fun r a_ b_ => ?_, fun o a_ b_ => ?_⟩
    · have q := rf_cg (gr r a_ b_) fun j c_ d_ => mr r j ⟨a_, by omega⟩ ⟨c_, d_⟩
      obtain ⟨p0, p1, p2, p3, p4, p5, p6⟩ := q
      exact ⟨p0, p1, by omega, p3, p4, p5, p6⟩
    · by_cases q : o = N
      · rw [q]; exact ON
      · exact of_cg (go o a_ (by omega)) fun j c_ d_ _ => mob o j a_ ⟨c_, d_⟩ q
  have RR : Rg (rOrd m d (cntO b c) W) := by
    refine rg_of (fun i => ?_) RC fun o a_ b_ => ?_
    · by_cases q3 : i = 4
      · rw [q3, m4]; omega
      · by_cases q : i < 320 + 8 * N ∨ 328 + 8 * N ≤ i
        · rw [mo i q3 q]; exact hr i
        · have e := mN (i - (320 + 8 * N)) (by omega) (by omega)
          have e2 : ob (rOrd m d (cntO b c) W) N (i - (320 + 8 * N)) = rOrd m d (cntO b c) W i := by
            show rOrd m d (cntO b c) W (320 + 8 * N + (i - (320 + 8 * N))) = _
            rw [show 320 + 8 * N + (i - (320 + 8 * N)) = i by omega]
          rw [← e2, e]
          repeat' split
          all_goals omega
    · rw [m4] at b_
      rw [m3]
      by_cases q : o = N
      · rw [q, mN 3 (by omega) (by omega)]
        exact ⟨by show (-1 : Int) ≤ -1; omega, by show (-1 : Int) < m 3; omega⟩
      · rw [mob o 3 a_ (by omega) q]
        exact (gO o a_ (by omega)).2
  refine ⟨⟨fun i a_ b_ => ?_, fun c_ hc_ => ?_, fun r hr => ?_, fun o ho k a_ b_ c_ => ?_⟩, ⟨RR, by rw [mo 2 (by omega) (by omega)]; exact hT, ⟨fun r a_ b_ => ?_, fun o a_ b_ => ?_, fun o a_ b_ c_ => ?_⟩, geo_en G hR hT hE (fun r a_ t b_ => .inl ?_), geo_nd G hcc hN⟩, fun k a_ b_ => ?_, ⟨by rw [mo 2 (by omega) (by omega)]; exact hB.1, fun r a_ b_ => ?_, fun o a_ b_ => ?_⟩⟩
  · by_cases q : i = 4
    · rw [q, u1_eq, m4]
    · rw [u1_ne q, oset_o (by omega), mo i q (by omega)]; exact hS.1 i a_ b_
  · have hc_ : isC m c_ := by unfold isC at hc_ ⊢; rw [mcs] at hc_; exact hc_
    have := hc_.1; have := hc_.2
    rw [u1_ne (by omega), oset_o (by omega), mo _ (by omega) (by omega), u1_ne (by omega), oset_o (by omega), mo _ (by omega) (by omega)]
    exact hS.2.1 c_ hc_
  · have hr := (eR r).mp hr
    have r6 : 0 ≤ r ∧ r < 6 := ⟨hr.1, by have := hr.2; omega⟩
    have lr (j : Int) (a_ : 0 ≤ j) (b_ : j < 36) : rb (u1 (oset l N (obg (ob l N) d a b c)) 4 (N + 1)) r j = rb l r j := (u1_ne (i := 104 + 36 * r + j) (by omega)).trans (oset_o (by omega))
    refine ⟨fun j a_ b_ => ?_, fun t a_ b_ => ?_⟩
    · rw [lr j a_ (by omega), mr r j r6 (by omega)]
      exact (hS.2.2.1 r hr).1 j a_ b_
    · rw [mr r 3 r6 (by omega)] at b_
      have h3 := (rgc_r hcc hr).2.2.2.1
      rw [lr (6 + t) (by omega) (by omega), mr r (6 + t) r6 (by omega)]
      exact (hS.2.2.1 r hr).2 t a_ b_
  · have ho := (eO o).mp ho
    have e : ob (u1 (oset l N (obg (ob l N) d a b c)) 4 (N + 1)) o k = ob (oset l N (obg (ob l N) d a b c)) o k := u1_ne (i := 320 + 8 * o + k) (by omega)
    rw [e]
    by_cases q : o = N
    · rw [q, oset_eq a_ b_, mN k a_ b_]
      unfold obg cntO
      by_cases q0 : k = 0
      · rw [if_pos q0, if_pos q0]
      · rw [if_neg q0, if_neg q0]
        by_cases q1 : k = 1
        · rw [if_pos q1, if_pos q1]
        · rw [if_neg q1, if_neg q1]
          by_cases q2 : k = 2
          · rw [if_pos q2, if_pos q2]
          · rw [if_neg q2, if_neg q2, if_neg c_]
            by_cases q4 : k = 4
            · rw [if_pos q4, if_pos q4]
            · rw [if_neg q4, if_neg q4]
              by_cases q5 : k = 5
              · rw [if_pos q5, if_pos q5]
              · rw [if_neg q5, if_neg q5]
                by_cases q6 : k = 6
                · rw [if_pos q6, if_pos q6]
                · rw [if_neg q6, if_neg q6, if_pos (by omega)]
    · rw [oset_ne a_ b_ q, mob o k ho.1 ⟨a_, b_⟩ q]
      exact hS.2.2.2 o (iso o ho.1 (by omega)) k a_ b_ c_
  · have a_ := (eR r).mp a_
    have r6 : 0 ≤ r ∧ r < 6 := ⟨a_.1, by have := a_.2; omega⟩
    rw [mr r 2 r6 (by omega)] at b_ ⊢
    have h2 := (rgc_r hcc a_).2.2.1.2
    rw [hn] at h2
    rw [mob _ 3 b_ (by omega) (by omega), mob _ 4 b_ (by omega) (by omega)]
    exact hH.1 r a_ b_
  · have a_ := (eO o).mp a_
    by_cases q : o = N
    · rw [q, mN 3 (by omega) (by omega)] at b_
      have b_ : (0 : Int) ≤ -1 := b_
      omega
    · have ho := iso o a_.1 (by omega)
      rw [mob o 3 a_.1 (by omega) q] at b_ ⊢
      have h4 := (iv_by hI ho).2
      rw [mr _ 2 ⟨b_, by omega⟩ (by omega)]
      exact hH.2.1 o ho b_
  · have a_ := (eO o).mp a_
    by_cases q : o = N
    · rw [q, mN 2 (by omega) (by omega)]; rfl
    · have ho := iso o a_.1 (by omega)
      rw [mob o 3 a_.1 (by omega) q] at b_
      rw [mob o 4 a_.1 (by omega) q] at c_
      rw [mob o 2 a_.1 (by omega) q]
      exact hH.2.2 o ho b_ c_
  · have hq := ahd_r hR a_ b_
    exact mo _ (by omega) (by omega)
  · rw [u1_ne (by omega), oset_o (by omega)]
    exact hC k a_ b_
  · rw [m3] at b_
    rw [mr r 1 ⟨a_, by omega⟩ (by omega), mr r 5 ⟨a_, by omega⟩ (by omega)]
    exact hB.2.1 r a_ b_
  · rw [m4] at b_
    by_cases q : o = N
    · rw [q, mN 4 (by omega) (by omega)]
      show (-1 : Int) ≤ T
      omega
    · rw [mob o 4 a_ (by omega) q]
      exact hB.2.2 o a_ (by rw [hn]; omega)
end PH
