/-! the reference's row: invariants; readers of both sides answer alike (printed by program) -/
def HBm (m : Int → Int) : Prop := (∀ r, isR m r → 0 ≤ rb m r 2 → ob m (rb m r 2) 3 = r ∧ ob m (rb m r 2) 4 = -1) ∧ (∀ o, isO m o → 0 ≤ ob m o 3 → rb m (ob m o 3) 2 = o) ∧ ∀ o, isO m o → ob m o 3 < 0 → ob m o 4 < 0 → ob m o 2 = 0
def ENm (m : Int → Int) : Prop := ∀ r, isR m r → ∀ t, 0 ≤ t → ent m (ahd m r t)
def NDm (m : Int → Int) : Prop := ∀ r r', isR m r → isR m r' → r ≠ r' → ∀ t, 0 ≤ t → ahd m r t ≠ ahd m r' t
def Iv (m : Int → Int) : Prop := Rg m ∧ 0 ≤ m 2 ∧ HBm m ∧ ENm m ∧ NDm m
/-- a class's outcome and the reference's: thrown (by its place in the list), or the same number -/
def Mt (xs : List String) (o : Sum String Int) (y : Int × Int) : Prop := match o with
  | .inl e => 1 ≤ y.1 ∧ xs[y.1.toNat - 1]? = some e
  | .inr v => y.1 = 0 ∧ y.2 = v
section PB
variable {l m : Int → Int} {c w r o t a b i x y z ro g fr to T : Int}
theorem iv_c (h : Iv m) : RgC m := rgc_of h.1 h.2.1
theorem mt_1 {e : String} {xs : List String} {v : Int} : Mt (e :: xs) (.inl e) (1, v) := ⟨by show (1 : Int) ≤ 1; omega, rfl⟩
theorem mt_2 {e e' : String} {xs : List String} {v : Int} : Mt (e' :: e :: xs) (.inl e) (2, v) := ⟨by show (1 : Int) ≤ 2; omega, rfl⟩
theorem mt_0 {xs : List String} {v v' : Int} (h : v' = v) : Mt xs (.inr v) (0, v') := ⟨rfl, h⟩
theorem iv_by (h : Iv m) (ho : isO m o) : -1 ≤ ob m o 3 ∧ ob m o 3 < m 3 := (h.1.2.2.2.2.2.2.2.2.2.2.2.2 o ho.1 ho.2).2
theorem iv_rwo (h : Iv m) (ho : isO m o) : rwo m o = ob m o 3 := by
  have hb := iv_by h ho
  obtain ⟨_, _, ⟨h1, h2, _⟩, _⟩ := h
  unfold rwo
  by_cases z : 0 ≤ ob m o 3
  · refine fnd_y (by omega) z (by omega) (h2 o ho z) fun j a b e => ?_
    have e : rb m j 2 = o := e
    have := (h1 j ⟨a, by omega⟩ (by rw [e]; exact ho.1)).1
    rw [e] at this
    omega
  · rw [fnd_no fun j a b e => ?_]
    · omega
    · have e : rb m j 2 = o := e
      have := (h1 j ⟨a, by omega⟩ (by rw [e]; exact ho.1)).1
      rw [e] at this
      omega
theorem iv_stc (h : Iv m) (ho : isO m o) : stc m o = sto m o := by
  have hb := iv_by h ho
  have hO := (rgc_o (iv_c h) ho).2.2.2.1
  have hw := iv_rwo h ho
  unfold stc sto
  rw [hw]
  by_cases z : ob m o 4 = -1
  · rw [if_neg (show ¬ (isO m o ∧ ¬ ob m o 4 = -1) from fun x => x.2 z), if_neg (show ¬ 0 ≤ ob m o 4 by omega)]
    by_cases y : ob m o 3 = -1
    · rw [if_pos y, if_neg (show ¬ 0 ≤ ob m o 3 by omega)]
    · rw [if_neg y, if_pos (show 0 ≤ ob m o 3 by omega)]
  · rw [if_pos (show isO m o ∧ ¬ ob m o 4 = -1 from ⟨ho, z⟩), if_pos (show 0 ≤ ob m o 4 by omega)]
theorem iv_oin (h : Iv m) (hx : 0 ≤ x) : oin m x = ovO m x := by
  unfold oin ovO
  refine lpI_cg fun i y a b => ?_
  have g4 := (iv_c h).2.2.2.2.1
  show y + bI (stc m i = x) = y + (if x < 0 then ob m i 2 else if sto m i = x then 1 else 0)
  rw [iv_stc h ⟨a, by omega⟩, if_neg (show ¬ x < 0 by omega)]
  by_cases z : sto m i = x
  · rw [bI_t z, if_pos z]
  · rw [bI_f z, if_neg z]
theorem pks_ov : pks m = ovO m (-1) := by
  unfold pks ovO
  exact lpI_cg fun i y a b => by rw [if_pos (show (-1 : Int) < 0 by decide)]
theorem sts_ov : sts m w = ovR m w := rfl
theorem iv_ldd (h : Iv m) (hr : isR m r) : (isO m (rb m r 2) ∧ 0 < ob m (rb m r 2) 2) ↔ ldd m r := by
  have hq := (rgc_r (iv_c h) hr).2.2.1
  exact ⟨fun z => ⟨z.1.1, z.2⟩, fun z => ⟨⟨z.1, hq.2⟩, z.2⟩⟩
theorem op_cell (hS : Sm l m) (h : Iv m) : Mt [xIO, xIA] (cellO l y z) (celM m y z) := by
  have hR := iv_c h
  by_cases hc : isC m y
  · have _ := hc
    by_cases h0 : z = 0
    · have e1 : cellO l y z = .inr (l (8 + y)) := (Eq.trans (if_neg (fun x => x ((sm_C hS).mpr hc))) (if_pos h0))
      have e2 : celM m y z = (0, m (8 + y)) := (Eq.trans (if_neg (fun x => x hc)) (Eq.trans (if_neg (by omega)) (if_pos h0)))
      rw [e1, e2]
      exact mt_0 (sm_k hS hc).symm
    · have _ := hc
      by_cases h1 : z = 1
      · have e1 : cellO l y z = .inr (bI (ent l y)) := (Eq.trans (if_neg (fun x => x ((sm_C hS).mpr hc))) (Eq.trans (if_neg h0) (if_pos h1)))
        have e2 : celM m y z = (0, bI (ent m y)) := (Eq.trans (if_neg (fun x => x hc)) (Eq.trans (if_neg (by omega)) (Eq.trans (if_neg (by omega)) (if_pos h1))))
        rw [e1, e2]
        exact mt_0 (bI_c (sm_ent hS hc).symm)
      · have _ := hc
        by_cases h2 : z = 2
        · have e1 : cellO l y z = .inr (rin l y 0) := (Eq.trans (if_neg (fun x => x ((sm_C hS).mpr hc))) (Eq.trans (if_neg h0) (Eq.trans (if_neg h1) (if_pos h2))))
          have e2 : celM m y z = (0, rin m y 0) := (Eq.trans (if_neg (fun x => x hc)) (Eq.trans (if_neg (by omega)) (Eq.trans (if_neg (by omega)) (Eq.trans (if_neg (by omega)) (if_pos h2)))))
          rw [e1, e2]
          exact mt_0 (sm_rin hS hR (by omega)).symm
        · have _ := hc
          by_cases h3 : z = 3
          · have e1 : cellO l y z = .inr (nbC l y) := (Eq.trans (if_neg (fun x => x ((sm_C hS).mpr hc))) (Eq.trans (if_neg h0) (Eq.trans (if_neg h1) (Eq.trans (if_neg h2) (if_pos h3)))))
            have e2 : celM m y z = (0, nbC m y) := (Eq.trans (if_neg (fun x => x hc)) (Eq.trans (if_neg (by omega)) (Eq.trans (if_neg (by omega)) (Eq.trans (if_neg (by omega)) (if_neg (by omega))))))
            rw [e1, e2]
            exact mt_0 (sm_nbC hS hR hc).symm
          · have _ := hc
            have e1 : cellO l y z = .inl xIA := (Eq.trans (if_neg (fun x => x ((sm_C hS).mpr hc))) (Eq.trans (if_neg h0) (Eq.trans (if_neg h1) (Eq.trans (if_neg h2) (if_neg h3)))))
            have e2 : celM m y z = (2, 0) := (Eq.trans (if_neg (fun x => x hc)) (if_pos (by omega)))
            rw [e1, e2]
            exact mt_2
  · have e1 : cellO l y z = .inl xIO := (if_pos (fun x => hc ((sm_C hS).mp x)))
    have e2 : celM m y z = (1, 0) := (if_pos hc)
    rw [e1, e2]
    exact mt_1
theorem op_pla (hS : Sm l m) (h : Iv m) : Mt [xIO, xIA] (plaO l y z) (plaM m y z) := by
  have hR := iv_c h
  by_cases hc : isR m y
  · have _ := hc
    by_cases h0 : z < 0
    · have e1 : plaO l y z = .inl xIA := (Eq.trans (if_neg (fun x => x ((sm_R hS).mpr hc))) (if_pos h0))
      have e2 : plaM m y z = (2, 0) := (Eq.trans (if_neg (fun x => x hc)) (if_pos h0))
      rw [e1, e2]
      exact mt_2
    · have _ := hc
      have e1 : plaO l y z = .inr (ahf (rb l y) z) := (Eq.trans (if_neg (fun x => x ((sm_R hS).mpr hc))) (if_neg h0))
      have e2 : plaM m y z = (0, ahd m y z) := (Eq.trans (if_neg (fun x => x hc)) (if_neg h0))
      rw [e1, e2]
      exact mt_0 (sm_ahd hS hR hc (by omega)).symm
  · have e1 : plaO l y z = .inl xIO := (if_pos (fun x => hc ((sm_R hS).mp x)))
    have e2 : plaM m y z = (1, 0) := (if_pos hc)
    rw [e1, e2]
    exact mt_1
theorem op_res (hS : Sm l m) (h : Iv m) : Mt [xIO, xIA] (resO l y z) (resM m y z) := by
  have hR := iv_c h
  by_cases hc : isC m y
  · have _ := hc
    by_cases h0 : z < 0
    · have e1 : resO l y z = .inl xIA := (Eq.trans (if_neg (fun x => x ((sm_C hS).mpr hc))) (if_pos h0))
      have e2 : resM m y z = (2, 0) := (Eq.trans (if_neg (fun x => x hc)) (if_pos h0))
      rw [e1, e2]
      exact mt_2
    · have _ := hc
      have e1 : resO l y z = .inr (rin l y z) := (Eq.trans (if_neg (fun x => x ((sm_C hS).mpr hc))) (if_neg h0))
      have e2 : resM m y z = (0, rin m y z) := (Eq.trans (if_neg (fun x => x hc)) (if_neg h0))
      rw [e1, e2]
      exact mt_0 (sm_rin hS hR (by omega)).symm
  · have e1 : resO l y z = .inl xIO := (if_pos (fun x => hc ((sm_C hS).mp x)))
    have e2 : resM m y z = (1, 0) := (if_pos hc)
    rw [e1, e2]
    exact mt_1
theorem ahd_30 (hR : RgC m) (hr : isR m r) (h : ¬ rb m r 3 = 0) : ahd m r 30 = ahd m r (rb m r 3) := by
  have h3 := (rgc_r hR hr).2.2.2.1
  unfold ahd ahf
  rw [if_neg (show ¬ ((30 : Int) = 0 ∨ rb m r 3 = 0) by omega), if_neg (show ¬ (rb m r 3 = 0 ∨ rb m r 3 = 0) by omega)]
  congr 1
  split <;> split <;> omega
theorem op_rob (hS : Sm l m) (h : Iv m) : Mt [xIO, xIA] (robO l y z) (robM m y z) := by
  have hR := iv_c h
  by_cases hc : isR m y
  · have _ := hc
    have e (i : Int) (a : 0 ≤ i) (b : i < 6) := sm_rb hS hc a b
    have q3 := (rgc_r hR hc).2.2.2.1
    have e4 : (if rb l y 3 = 0 then -1 else ahf (rb l y) (rb l y 3)) = if rb m y 3 = 0 then -1 else ahd m y 30 := by
      rw [e 3 (by omega) (by omega)]
      by_cases q : rb m y 3 = 0
      · rw [if_pos q, if_pos q]
      · rw [if_neg q, if_neg q, ahd_30 hR hc q]
        exact sm_ahd hS hR hc q3.1
    by_cases h0 : z = 0
    · have e1 : robO l y z = .inr (rb l y 0) := (Eq.trans (if_neg (fun x => x ((sm_R hS).mpr hc))) (if_pos h0))
      have e2 : robM m y z = (0, rb m y z) := (Eq.trans (if_neg (fun x => x hc)) (Eq.trans (if_neg (by omega)) (Eq.trans (if_neg (by omega)) (Eq.trans (if_neg (by omega)) (Eq.trans (if_neg (by omega)) (if_neg (by omega)))))))
      rw [e1, e2]
      exact mt_0 (by rw [h0]; exact (e 0 (by omega) (by omega)).symm)
    · have _ := hc
      by_cases h1 : z = 1
      · have e1 : robO l y z = .inr (rb l y 1) := (Eq.trans (if_neg (fun x => x ((sm_R hS).mpr hc))) (Eq.trans (if_neg h0) (if_pos h1)))
        have e2 : robM m y z = (0, rb m y z) := (Eq.trans (if_neg (fun x => x hc)) (Eq.trans (if_neg (by omega)) (Eq.trans (if_neg (by omega)) (Eq.trans (if_neg (by omega)) (Eq.trans (if_neg (by omega)) (if_neg (by omega)))))))
        rw [e1, e2]
        exact mt_0 (by rw [h1]; exact (e 1 (by omega) (by omega)).symm)
      · have _ := hc
        by_cases h2 : z = 2
        · have e1 : robO l y z = .inr (rb l y 2) := (Eq.trans (if_neg (fun x => x ((sm_R hS).mpr hc))) (Eq.trans (if_neg h0) (Eq.trans (if_neg h1) (if_pos h2))))
          have e2 : robM m y z = (0, rb m y z) := (Eq.trans (if_neg (fun x => x hc)) (Eq.trans (if_neg (by omega)) (Eq.trans (if_neg (by omega)) (Eq.trans (if_neg (by omega)) (Eq.trans (if_neg (by omega)) (if_neg (by omega)))))))
          rw [e1, e2]
          exact mt_0 (by rw [h2]; exact (e 2 (by omega) (by omega)).symm)
        · have _ := hc
          by_cases h3 : z = 3
          · have e1 : robO l y z = .inr (rb l y 3) := (Eq.trans (if_neg (fun x => x ((sm_R hS).mpr hc))) (Eq.trans (if_neg h0) (Eq.trans (if_neg h1) (Eq.trans (if_neg h2) (if_pos h3)))))
            have e2 : robM m y z = (0, rb m y 3) := (Eq.trans (if_neg (fun x => x hc)) (Eq.trans (if_neg (by omega)) (if_pos h3)))
            rw [e1, e2]
            exact mt_0 (e 3 (by omega) (by omega)).symm
          · have _ := hc
            by_cases h4 : z = 4
            · have e1 : robO l y z = .inr (if rb l y 3 = 0 then -1 else ahf (rb l y) (rb l y 3)) := (Eq.trans (if_neg (fun x => x ((sm_R hS).mpr hc))) (Eq.trans (if_neg h0) (Eq.trans (if_neg h1) (Eq.trans (if_neg h2) (Eq.trans (if_neg h3) (if_pos h4))))))
              have e2 : robM m y z = (0, if rb m y 3 = 0 then -1 else ahd m y 30) := (Eq.trans (if_neg (fun x => x hc)) (Eq.trans (if_neg (by omega)) (Eq.trans (if_neg (by omega)) (if_pos h4))))
              rw [e1, e2]
              exact mt_0 e4.symm
            · have _ := hc
              by_cases h5 : z = 5
              · have e1 : robO l y z = .inr (bI (isO l (rb l y 2) ∧ 0 < ob l (rb l y 2) 2)) := (Eq.trans (if_neg (fun x => x ((sm_R hS).mpr hc))) (Eq.trans (if_neg h0) (Eq.trans (if_neg h1) (Eq.trans (if_neg h2) (Eq.trans (if_neg h3) (Eq.trans (if_neg h4) (if_pos h5)))))))
                have e2 : robM m y z = (0, bI (ldd m y)) := (Eq.trans (if_neg (fun x => x hc)) (Eq.trans (if_neg (by omega)) (Eq.trans (if_neg (by omega)) (Eq.trans (if_neg (by omega)) (if_pos h5)))))
                rw [e1, e2]
                exact mt_0 (bI_c ((sm_ldd hS hR hc).trans (iv_ldd h hc)).symm)
              · have _ := hc
                by_cases h6 : z = 6
                · have e1 : robO l y z = .inr (rb l y 5) := (Eq.trans (if_neg (fun x => x ((sm_R hS).mpr hc))) (Eq.trans (if_neg h0) (Eq.trans (if_neg h1) (Eq.trans (if_neg h2) (Eq.trans (if_neg h3) (Eq.trans (if_neg h4) (Eq.trans (if_neg h5) (if_pos h6))))))))
                  have e2 : robM m y z = (0, rb m y 5) := (Eq.trans (if_neg (fun x => x hc)) (Eq.trans (if_neg (by omega)) (Eq.trans (if_neg (by omega)) (Eq.trans (if_neg (by omega)) (Eq.trans (if_neg (by omega)) (if_pos h6))))))
                  rw [e1, e2]
                  exact mt_0 (e 5 (by omega) (by omega)).symm
                · have _ := hc
                  have e1 : robO l y z = .inl xIA := (Eq.trans (if_neg (fun x => x ((sm_R hS).mpr hc))) (Eq.trans (if_neg h0) (Eq.trans (if_neg h1) (Eq.trans (if_neg h2) (Eq.trans (if_neg h3) (Eq.trans (if_neg h4) (Eq.trans (if_neg h5) (if_neg h6))))))))
                  have e2 : robM m y z = (2, 0) := (Eq.trans (if_neg (fun x => x hc)) (if_pos (by omega)))
                  rw [e1, e2]
                  exact mt_2
  · have e1 : robO l y z = .inl xIO := (if_pos (fun x => hc ((sm_R hS).mp x)))
    have e2 : robM m y z = (1, 0) := (if_pos hc)
    rw [e1, e2]
    exact mt_1
theorem op_ord (hS : Sm l m) (h : Iv m) : Mt [xIO, xIA] (ordO l y z) (ordM m y z) := by
  have hR := iv_c h
  by_cases hc : isO m y
  · have _ := hc
    have e (i : Int) (a : 0 ≤ i) (b : i < 8) (d : i ≠ 3) := sm_ob hS hc a b d
    by_cases h0 : z = 0
    · have e1 : ordO l y z = .inr (ob l y 0) := (Eq.trans (if_neg (fun x => x ((sm_O hS).mpr hc))) (if_pos h0))
      have e2 : ordM m y z = (0, ob m y z) := (Eq.trans (if_neg (fun x => x hc)) (Eq.trans (if_neg (by omega)) (Eq.trans (if_neg (by omega)) (Eq.trans (if_neg (by omega)) (if_neg (by omega))))))
      rw [e1, e2]
      exact mt_0 (by rw [h0]; exact (e 0 (by omega) (by omega) (by omega)).symm)
    · have _ := hc
      by_cases h1 : z = 1
      · have e1 : ordO l y z = .inr (ob l y 1) := (Eq.trans (if_neg (fun x => x ((sm_O hS).mpr hc))) (Eq.trans (if_neg h0) (if_pos h1)))
        have e2 : ordM m y z = (0, ob m y z) := (Eq.trans (if_neg (fun x => x hc)) (Eq.trans (if_neg (by omega)) (Eq.trans (if_neg (by omega)) (Eq.trans (if_neg (by omega)) (if_neg (by omega))))))
        rw [e1, e2]
        exact mt_0 (by rw [h1]; exact (e 1 (by omega) (by omega) (by omega)).symm)
      · have _ := hc
        by_cases h2 : z = 2
        · have e1 : ordO l y z = .inr (ob l y 2) := (Eq.trans (if_neg (fun x => x ((sm_O hS).mpr hc))) (Eq.trans (if_neg h0) (Eq.trans (if_neg h1) (if_pos h2))))
          have e2 : ordM m y z = (0, ob m y z) := (Eq.trans (if_neg (fun x => x hc)) (Eq.trans (if_neg (by omega)) (Eq.trans (if_neg (by omega)) (Eq.trans (if_neg (by omega)) (if_neg (by omega))))))
          rw [e1, e2]
          exact mt_0 (by rw [h2]; exact (e 2 (by omega) (by omega) (by omega)).symm)
        · have _ := hc
          by_cases h3 : z = 3
          · have e1 : ordO l y z = .inr (stc l y) := (Eq.trans (if_neg (fun x => x ((sm_O hS).mpr hc))) (Eq.trans (if_neg h0) (Eq.trans (if_neg h1) (Eq.trans (if_neg h2) (if_pos h3)))))
            have e2 : ordM m y z = (0, sto m y) := (Eq.trans (if_neg (fun x => x hc)) (Eq.trans (if_neg (by omega)) (if_pos h3)))
            rw [e1, e2]
            exact mt_0 ((sm_stc hS).trans (iv_stc h hc)).symm
          · have _ := hc
            by_cases h4 : z = 4
            · have e1 : ordO l y z = .inr (rwo l y) := (Eq.trans (if_neg (fun x => x ((sm_O hS).mpr hc))) (Eq.trans (if_neg h0) (Eq.trans (if_neg h1) (Eq.trans (if_neg h2) (Eq.trans (if_neg h3) (if_pos h4))))))
              have e2 : ordM m y z = (0, ob m y 3) := (Eq.trans (if_neg (fun x => x hc)) (Eq.trans (if_neg (by omega)) (Eq.trans (if_neg (by omega)) (if_pos h4))))
              rw [e1, e2]
              exact mt_0 ((sm_rwo hS).trans (iv_rwo h hc)).symm
            · have _ := hc
              by_cases h5 : z = 5
              · have e1 : ordO l y z = .inr (ob l y 4) := (Eq.trans (if_neg (fun x => x ((sm_O hS).mpr hc))) (Eq.trans (if_neg h0) (Eq.trans (if_neg h1) (Eq.trans (if_neg h2) (Eq.trans (if_neg h3) (Eq.trans (if_neg h4) (if_pos h5)))))))
                have e2 : ordM m y z = (0, ob m y 4) := (Eq.trans (if_neg (fun x => x hc)) (Eq.trans (if_neg (by omega)) (Eq.trans (if_neg (by omega)) (Eq.trans (if_neg (by omega)) (if_pos h5)))))
                rw [e1, e2]
                exact mt_0 (e 4 (by omega) (by omega) (by omega)).symm
              · have _ := hc
                have e1 : ordO l y z = .inl xIA := (Eq.trans (if_neg (fun x => x ((sm_O hS).mpr hc))) (Eq.trans (if_neg h0) (Eq.trans (if_neg h1) (Eq.trans (if_neg h2) (Eq.trans (if_neg h3) (Eq.trans (if_neg h4) (if_neg h5)))))))
                have e2 : ordM m y z = (2, 0) := (Eq.trans (if_neg (fun x => x hc)) (if_pos (by omega)))
                rw [e1, e2]
                exact mt_2
  · have e1 : ordO l y z = .inl xIO := (if_pos (fun x => hc ((sm_O hS).mp x)))
    have e2 : ordM m y z = (1, 0) := (if_pos hc)
    rw [e1, e2]
    exact mt_1
theorem op_lin (hS : Sm l m) (h : Iv m) : Mt [xIO] (linO l y z) (linM m y z) := by
  have hR := iv_c h
  by_cases hc : isO m y
  · have e := sm_ob hS hc (i := 1) (by omega) (by omega) (by omega)
    have q1 := (rgc_o hR hc).2.1
    by_cases q : 0 ≤ z ∧ z < ob m y 1
    · have e1 : linO l y z = .inr (ob l y (5 + z)) := Eq.trans (if_neg (fun x => x ((sm_O hS).mpr hc))) (if_neg (fun x => x (by rw [e]; exact q)))
      have e2 : linM m y z = (0, ob m y (5 + z)) := if_neg (fun x => x ⟨hc, q.1, by omega⟩)
      rw [e1, e2]
      exact mt_0 (sm_ob hS hc (by omega) (by omega) (by omega)).symm
    · have e1 : linO l y z = .inl xIO := Eq.trans (if_neg (fun x => x ((sm_O hS).mpr hc))) (if_pos (by rw [e]; exact q))
      have e2 : linM m y z = (1, 0) := if_pos (fun x => q ⟨x.2.1, by have := x.2.2; omega⟩)
      rw [e1, e2]
      exact mt_1
  · have e1 : linO l y z = .inl xIO := if_pos (fun x => hc ((sm_O hS).mp x))
    have e2 : linM m y z = (1, 0) := if_pos (fun x => hc x.1)
    rw [e1, e2]
    exact mt_1
theorem op_let (hS : Sm l m) (h : Iv m) : Mt [xIO] (letO l y) (letM m y) := by
  have hR := iv_c h
  by_cases hc : isC m y
  · have e1 : letO l y = .inr (if ¬ rin l y 0 = -1 then 48 + rin l y 0 else if ¬ l (56 + y) = 0 then 120 else sgK (l (8 + y))) := if_neg (fun x => x ((sm_C hS).mpr hc))
    have e2 : letM m y = if 0 ≤ rin m y 0 then (0, 48 + rin m y 0) else if m (56 + y) = 1 then (0, 120) else (0, sgn (m (8 + y))) := if_neg (fun x => x hc)
    rw [e1, e2, sm_rin hS hR (by omega), sm_cl hS hc, sm_k hS hc]
    have q := @fnd_r (fun r => ahd m r 0 = y) (m 3).toNat 0
    have e : rin m y 0 = fnd (fun r => ahd m r 0 = y) (m 3).toNat 0 := rfl
    rw [← e] at q
    have hk := hR.2.2.2.2.2.2.2.2.2.1 y hc.1 hc.2
    have gc := hR.2.2.2.2.2.1
    have hl := hR.2.2.2.2.2.2.2.2.2.2.1 y hc.1 (by omega)
    by_cases z : rin m y 0 = -1
    · rw [if_neg (show ¬ ¬ rin m y 0 = -1 from fun x => x z), if_neg (show ¬ 0 ≤ rin m y 0 by omega)]
      by_cases u : m (56 + y) = 0
      · rw [if_neg (show ¬ ¬ m (56 + y) = 0 from fun x => x u), if_neg (show ¬ m (56 + y) = 1 by omega)]
        refine mt_0 ?_
        unfold sgK
        rw [if_pos (show 0 ≤ m (8 + y) ∧ m (8 + y) < 4 by omega)]
      · rw [if_pos u, if_pos (show m (56 + y) = 1 by omega)]
        exact mt_0 rfl
    · rw [if_pos z, if_pos (show 0 ≤ rin m y 0 by omega)]
      exact mt_0 rfl
  · have e1 : letO l y = .inl xIO := if_pos (fun x => hc ((sm_C hS).mp x))
    have e2 : letM m y = (1, 32) := if_pos hc
    rw [e1, e2]
    exact mt_1
theorem op_dis (hS : Sm l m) (h : Iv m) : Mt [xIO, xNS] (far0 l y z) (disM m y z) := by
  have hR := iv_c h
  by_cases hc : isC m y ∧ isC m z
  · have hf := (far_r hR hc.1 z).1
    have e1 : far0 l y z = if far l y z = -1 then .inl xNS else .inr (far l y z) := if_neg (fun x => x ⟨(sm_C hS).mpr hc.1, (sm_C hS).mpr hc.2⟩)
    have e2 : disM m y z = if far m y z < 0 then (2, 0) else (0, far m y z) := if_neg (fun x => x hc)
    rw [e1, e2, sm_far hS hR hc.1]
    by_cases q : far m y z = -1
    · rw [if_pos q, if_pos (show far m y z < 0 by omega)]; exact mt_2
    · rw [if_neg q, if_neg (show ¬ far m y z < 0 by omega)]; exact mt_0 rfl
  · have e1 : far0 l y z = .inl xIO := if_pos (fun x => hc ⟨(sm_C hS).mp x.1, (sm_C hS).mp x.2⟩)
    have e2 : disM m y z = (1, 0) := if_pos hc
    rw [e1, e2]
    exact mt_1
theorem op_dag (hS : Sm l m) (h : Iv m) : Mt [xIO, xNS] (dst0 l y z) (dagM m y z) := by
  have hR := iv_c h
  by_cases hc : isC m y ∧ isC m z
  · have e1 : dst0 l y z = if dst l y z = -1 then .inl xNS else .inr (dst l y z) := if_neg (fun x => x ⟨(sm_C hS).mpr hc.1, (sm_C hS).mpr hc.2⟩)
    have e2 : dagM m y z = if dst m y z = -1 then (2, 0) else (0, dst m y z) := if_neg (fun x => x hc)
    rw [e1, e2, sm_dst hS hR hc.1]
    by_cases q : dst m y z = -1
    · rw [if_pos q, if_pos q]; exact mt_2
    · rw [if_neg q, if_neg q]; exact mt_0 rfl
  · have e1 : dst0 l y z = .inl xIO := if_pos (fun x => hc ⟨(sm_C hS).mp x.1, (sm_C hS).mp x.2⟩)
    have e2 : dagM m y z = (1, 0) := if_pos hc
    rw [e1, e2]
    exact mt_1
theorem lpI_app {f : Int → Int → Int} : ∀ (p q : Nat) (k x : Int), lpI f (p + q) k x = lpI f q (k + p) (lpI f p k x)
  | 0, q, k, x => by rw [Nat.zero_add, show k + ((0 : Nat) : Int) = k by omega]; rfl
  | p + 1, q, k, x => by
    rw [show p + 1 + q = (p + q) + 1 by omega]
    show lpI f (p + q) (k + 1) (f k x) = lpI f q (k + ((p + 1 : Nat) : Int)) (lpI f p (k + 1) (f k x))
    rw [lpI_app p q, show k + ((p + 1 : Nat) : Int) = k + 1 + (p : Int) by omega]
theorem lpI_id {f : Int → Int → Int} : ∀ (n : Nat) (k x : Int), (∀ i, k ≤ i → i < k + n → ∀ y, f i y = y) → lpI f n k x = x
  | 0, _, _, _ => rfl
  | n + 1, k, x, h => by
    show lpI f n (k + 1) (f k x) = x
    rw [h k (by omega) (by omega)]
    exact lpI_id n (k + 1) x fun i a b => h i (by omega) (by omega)
theorem rch_rc (hR : RgC m) (ha : isC m a) : rch m a = rcN m a := by
  have gc := hR.2.2.2.2.2.1
  unfold rch rcN
  rw [show 48 = (cs m).toNat + (48 - (cs m).toNat) by omega, lpI_app, lpI_id]
  · refine lpI_cg fun i y a_ b_ => ?_
    have := (far_r hR ha i).1
    show y + bI (¬ far m a i = -1) = y + bI (0 ≤ far m a i)
    rw [bI_c (show (¬ far m a i = -1) ↔ 0 ≤ far m a i by omega)]
  · intro i a_ b_ y
    have h1 := far_r hR ha i
    show y + bI (¬ far m a i = -1) = y
    rw [bI_f (fun z => by have := (h1.2 (by omega)).2; omega), Int.add_zero]
theorem op_rch (hS : Sm l m) (h : Iv m) : Mt [xIO] (rch0 l y) (rchM m y) := by
  have hR := iv_c h
  by_cases hc : isC m y
  · have e1 : rch0 l y = .inr (rch l y) := if_neg (fun x => x ((sm_C hS).mpr hc))
    have e2 : rchM m y = (0, rcN m y) := if_neg (fun x => x hc)
    rw [e1, e2]
    exact mt_0 ((sm_rch hS hR hc).trans (rch_rc hR hc)).symm
  · have e1 : rch0 l y = .inl xIO := if_pos (fun x => hc ((sm_C hS).mp x))
    have e2 : rchM m y = (1, 0) := if_pos hc
    rw [e1, e2]
    exact mt_1
theorem op_rea {kr kd_ p q : Int} (h1 : kr = -1 ↔ p = 0) (h2 : ¬ p = 0 → kr = p ∧ kd_ = q) : Mt [xNS] (reaO kr kd_ y) (reaM p q y) := by
  by_cases z : p = 0
  · have e1 : reaO kr kd_ y = .inl xNS := if_pos (h1.mpr z)
    have e2 : reaM p q y = (1, 0) := if_pos z
    rw [e1, e2]
    exact mt_1
  · obtain ⟨u1_, u2_⟩ := h2 z
    have e1 : reaO kr kd_ y = if y = 0 then .inr kr else .inr kd_ := if_neg (fun x => z (h1.mp x))
    have e2 : reaM p q y = if y = 0 then (0, p) else (0, q) := if_neg z
    rw [e1, e2, u1_, u2_]
    by_cases u : y = 0
    · rw [if_pos u, if_pos u]; exact mt_0 rfl
    · rw [if_neg u, if_neg u]; exact mt_0 rfl
end PB
