/-! what both sides refuse, alike (printed by program) -/
section PE
variable {l m : Int → Int} {c w r o t a b i x y z ro g fr to T ct k d e : Int} {n : Nat}
theorem sm_lev (hS : Sm l m) (hR : RgC m) : lev l c e = lev m c e := by
  unfold lev
  rw [sm_3 hS]
  refine fnd_cg fun i a b => ?_
  have hi : isR m i := ⟨a, by omega⟩
  have h3 := (rgc_r hR hi).2.2.2.1
  have e3 := sm_rb hS hi (i := 3) (by omega) (by omega)
  show (i ≠ e ∧ ∃ t, (0 ≤ t ∧ t ≤ rb l i 3) ∧ ahf (rb l i) t = c) ↔ (i ≠ e ∧ ∃ t, (0 ≤ t ∧ t ≤ rb m i 3) ∧ ahf (rb m i) t = c)
  refine and_congr_right fun _ => ?_
  rw [e3]
  constructor
  · rintro ⟨t, h1, h2⟩
    exact ⟨t, h1, (sm_ahd hS hR hi h1.1).symm.trans h2⟩
  · rintro ⟨t, h1, h2⟩
    exact ⟨t, h1, (sm_ahd hS hR hi h1.1).trans h2⟩
theorem lev_wbe (hR : RgC m) : lev m c e = wbe m c 0 e := by
  unfold lev wbe
  refine fnd_cg fun i a b => ?_
  have hi : isR m i := ⟨a, by omega⟩
  have h3 := (rgc_r hR hi).2.2.2.1
  constructor
  · rintro ⟨h1, t, h2, h4⟩
    exact ⟨⟨t, by omega, h4⟩, h1⟩
  · rintro ⟨⟨t, h2, h4⟩, h1⟩
    by_cases q : t ≤ rb m i 3
    · exact ⟨h1, t, ⟨h2.1, q⟩, h4⟩
    · refine ⟨h1, rb m i 3, ⟨h3.1, Int.le_refl _⟩, ?_⟩
      have h4 : ahf (rb m i) t = c := h4
      rw [← ahf_end h3.1 (show rb m i 3 ≤ t by omega)]
      exact h4
theorem lev_wb1 (h : Iv m) (hr : isR m r) : lev m (rb m r 0) r = wbe m (rb m r 0) 1 r := by
  have hR := iv_c h
  rw [lev_wbe hR]
  unfold wbe
  refine fnd_cg fun i a b => ?_
  have hi : isR m i := ⟨a, by omega⟩
  constructor
  · rintro ⟨⟨t, h2, h4⟩, h1⟩
    refine ⟨⟨t, ⟨?_, h2.2⟩, h4⟩, h1⟩
    by_cases q : t = 0
    · rw [q] at h4
      have := h.2.2.2.2 i r hi hr h1 0 (Int.le_refl 0)
      rw [h4, ahd_0] at this
      exact absurd rfl this
    · omega
  · rintro ⟨⟨t, h2, h4⟩, h1⟩
    exact ⟨⟨t, by omega, h4⟩, h1⟩
theorem wbe_r : wbe m c w e = -1 ∨ (0 ≤ wbe m c w e ∧ wbe m c w e < 0 + ((m 3).toNat : Int)) := @fnd_r (wbA m c w e) (m 3).toNat 0
theorem rf_RC (hS : Sm l m) (hR : RgC m) : rfRC l c (-1) = if 0 ≤ wbe m c 0 (-1) then (5, wbe m c 0 (-1)) else (0, 0) := by
  have hw := @wbe_r m c 0 (-1)
  unfold rfRC
  rw [sm_lev hS hR, lev_wbe hR]
  by_cases z : wbe m c 0 (-1) = -1
  · rw [if_pos z, if_neg (show ¬ 0 ≤ wbe m c 0 (-1) by omega)]
  · rw [if_neg z, if_pos (show 0 ≤ wbe m c 0 (-1) by omega)]
theorem rf_RCr (hS : Sm l m) (h : Iv m) (hr : isR m r) : rfRC l (rb m r 0) r = if 0 ≤ wbe m (rb m r 0) 1 r then (5, wbe m (rb m r 0) 1 r) else (0, 0) := by
  have hw := @wbe_r m (rb m r 0) 1 r
  unfold rfRC
  rw [sm_lev hS (iv_c h), lev_wb1 h hr]
  by_cases z : wbe m (rb m r 0) 1 r = -1
  · rw [if_pos z, if_neg (show ¬ 0 ≤ wbe m (rb m r 0) 1 r by omega)]
  · rw [if_neg z, if_pos (show 0 ≤ wbe m (rb m r 0) 1 r by omega)]
theorem rf_add (hS : Sm l m) (h : Iv m) : rfAdd l y z = mAdd m y z := by
  have hR := iv_c h
  by_cases hc : ¬ isC m y
  · have e1 : rfAdd l y z = (1, 0) := (if_pos (fun x => hc ((sm_C hS).mp x)))
    have e2 : mAdd m y z = (1, 0) := (if_pos hc)
    rw [e1, e2]
  · have _ := hR
    by_cases h2 : z < 0 ∨ 99 < z
    · have e1 : rfAdd l y z = (2, 0) := (Eq.trans (if_neg (fun x => x ((sm_C hS).mpr (Classical.not_not.mp hc)))) (if_pos h2))
      have e2 : mAdd m y z = (2, 0) := (Eq.trans (if_neg hc) (if_pos (by omega)))
      rw [e1, e2]
    · have _ := hR
      by_cases h3 : m 3 = 6
      · have e1 : rfAdd l y z = (3, 0) := (Eq.trans (if_neg (fun x => x ((sm_C hS).mpr (Classical.not_not.mp hc)))) (Eq.trans (if_neg h2) (if_pos (by rw [sm_3 hS]; omega))))
        have e2 : mAdd m y z = (3, 0) := (Eq.trans (if_neg hc) (Eq.trans (if_neg (by omega)) (if_pos h3)))
        rw [e1, e2]
      · have _ := hR
        by_cases h4 : ¬ ent m y
        · have e1 : rfAdd l y z = (4, y) := (Eq.trans (if_neg (fun x => x ((sm_C hS).mpr (Classical.not_not.mp hc)))) (Eq.trans (if_neg h2) (Eq.trans (if_neg (by rw [sm_3 hS]; have := hR.2.2.2.1; omega)) (if_pos (fun x => h4 ((sm_ent hS (Classical.not_not.mp hc)).mp x))))))
          have e2 : mAdd m y z = (4, y) := (Eq.trans (if_neg hc) (Eq.trans (if_neg (by omega)) (Eq.trans (if_neg h3) (if_pos h4))))
          rw [e1, e2]
        · have _ := hR
          have e1 : rfAdd l y z = rfRC l y (-1) := (Eq.trans (if_neg (fun x => x ((sm_C hS).mpr (Classical.not_not.mp hc)))) (Eq.trans (if_neg h2) (Eq.trans (if_neg (by rw [sm_3 hS]; have := hR.2.2.2.1; omega)) (if_neg (fun x => x ((sm_ent hS (Classical.not_not.mp hc)).mpr (Classical.not_not.mp h4)))))))
          have e2 : mAdd m y z = (if 0 ≤ wbe m y 0 (-1) then (5, wbe m y 0 (-1)) else (0, 0)) := (Eq.trans (if_neg hc) (Eq.trans (if_neg (by omega)) (Eq.trans (if_neg h3) (if_neg h4))))
          rw [e1, e2]
          exact rf_RC hS hR
theorem rf_tak (hS : Sm l m) (h : Iv m) : rfTak l y = mTak m y := by
  have hR := iv_c h
  have q2 := fun hr : isR m y => (rgc_r hR hr).2.2.1
  by_cases hc : ¬ isR m y
  · have e1 : rfTak l y = (1, 0) := (if_pos (fun x => hc ((sm_R hS).mp x)))
    have e2 : mTak m y = (1, 0) := (if_pos hc)
    rw [e1, e2]
  · have _ := hR
    by_cases h2 : 0 ≤ rb m y 2
    · have e1 : rfTak l y = (7, rb l y 2) := (Eq.trans (if_neg (fun x => x ((sm_R hS).mpr (Classical.not_not.mp hc)))) (if_pos (by rw [sm_rb hS (Classical.not_not.mp hc) (i := 2) (by omega) (by omega)]; have := q2 (Classical.not_not.mp hc); omega)))
      have e2 : mTak m y = (7, rb m y 2) := (Eq.trans (if_neg hc) (if_pos h2))
      rw [e1, e2]
      rw [sm_rb hS (Classical.not_not.mp hc) (i := 2) (by omega) (by omega)]
    · have _ := hR
      have e1 : rfTak l y = (0, 0) := (Eq.trans (if_neg (fun x => x ((sm_R hS).mpr (Classical.not_not.mp hc)))) (if_neg (by rw [sm_rb hS (Classical.not_not.mp hc) (i := 2) (by omega) (by omega)]; have := q2 (Classical.not_not.mp hc); omega)))
      have e2 : mTak m y = (0, 0) := (Eq.trans (if_neg hc) (if_neg h2))
      rw [e1, e2]
theorem rf_rel (hS : Sm l m) (h : Iv m) : rfRel l y = mRel m y := by
  have hR := iv_c h
  have q2 := fun hr : isR m y => (rgc_r hR hr).2.2.1
  by_cases hc : ¬ isR m y
  · have e1 : rfRel l y = (1, 0) := (if_pos (fun x => hc ((sm_R hS).mp x)))
    have e2 : mRel m y = (1, 0) := (if_pos hc)
    rw [e1, e2]
  · have _ := hR
    by_cases h2 : rb m y 2 < 0
    · have e1 : rfRel l y = (7, -1) := (Eq.trans (if_neg (fun x => x ((sm_R hS).mpr (Classical.not_not.mp hc)))) (if_pos (by rw [sm_rb hS (Classical.not_not.mp hc) (i := 2) (by omega) (by omega)]; have := q2 (Classical.not_not.mp hc); omega)))
      have e2 : mRel m y = (7, -1) := (Eq.trans (if_neg hc) (if_pos h2))
      rw [e1, e2]
    · have _ := hR
      have e1 : rfRel l y = (0, 0) := (Eq.trans (if_neg (fun x => x ((sm_R hS).mpr (Classical.not_not.mp hc)))) (if_neg (by rw [sm_rb hS (Classical.not_not.mp hc) (i := 2) (by omega) (by omega)]; have := q2 (Classical.not_not.mp hc); omega)))
      have e2 : mRel m y = (0, 0) := (Eq.trans (if_neg hc) (if_neg h2))
      rw [e1, e2]
theorem rf_asg (hS : Sm l m) (h : Iv m) : rfAsg l y z = mAsg m y z := by
  have hR := iv_c h
  have q2 := fun hr : isR m y => (rgc_r hR hr).2.2.1
  by_cases hc : ¬ (isR m y ∧ isO m z)
  · have e1 : rfAsg l y z = (1, 0) := (if_pos (by by_cases q : isR m y; exact .inr (fun x => hc ⟨q, (sm_O hS).mp x⟩); exact .inl (fun x => q ((sm_R hS).mp x))))
    have e2 : mAsg m y z = (1, 0) := (if_pos hc)
    rw [e1, e2]
  · have _ := hR
    by_cases h2 : 0 ≤ rb m y 2
    · have e1 : rfAsg l y z = (7, rb l y 2) := (Eq.trans (if_neg (fun x => by rcases x with x | x; exact x ((sm_R hS).mpr (Classical.not_not.mp hc).1); exact x ((sm_O hS).mpr (Classical.not_not.mp hc).2))) (if_pos (by rw [sm_rb hS (Classical.not_not.mp hc).1 (i := 2) (by omega) (by omega)]; have := q2 (Classical.not_not.mp hc).1; omega)))
      have e2 : mAsg m y z = (7, rb m y 2) := (Eq.trans (if_neg hc) (if_pos h2))
      rw [e1, e2]
      rw [sm_rb hS (Classical.not_not.mp hc).1 (i := 2) (by omega) (by omega)]
    · have _ := hR
      by_cases h3 : ¬ sto m z = 0
      · have e1 : rfAsg l y z = (8, stc l z) := (Eq.trans (if_neg (fun x => by rcases x with x | x; exact x ((sm_R hS).mpr (Classical.not_not.mp hc).1); exact x ((sm_O hS).mpr (Classical.not_not.mp hc).2))) (Eq.trans (if_neg (by rw [sm_rb hS (Classical.not_not.mp hc).1 (i := 2) (by omega) (by omega)]; have := q2 (Classical.not_not.mp hc).1; omega)) (if_pos (by rw [sm_stc hS, iv_stc h (Classical.not_not.mp hc).2]; exact h3))))
        have e2 : mAsg m y z = (8, sto m z) := (Eq.trans (if_neg hc) (Eq.trans (if_neg h2) (if_pos h3)))
        rw [e1, e2]
        rw [sm_stc hS, iv_stc h (Classical.not_not.mp hc).2]
      · have _ := hR
        have e1 : rfAsg l y z = (0, 0) := (Eq.trans (if_neg (fun x => by rcases x with x | x; exact x ((sm_R hS).mpr (Classical.not_not.mp hc).1); exact x ((sm_O hS).mpr (Classical.not_not.mp hc).2))) (Eq.trans (if_neg (by rw [sm_rb hS (Classical.not_not.mp hc).1 (i := 2) (by omega) (by omega)]; have := q2 (Classical.not_not.mp hc).1; omega)) (if_neg (by rw [sm_stc hS, iv_stc h (Classical.not_not.mp hc).2]; exact h3))))
        have e2 : mAsg m y z = (0, 0) := (Eq.trans (if_neg hc) (Eq.trans (if_neg h2) (if_neg h3)))
        rw [e1, e2]
theorem rf_clo (hS : Sm l m) (h : Iv m) : rfClo l y = mClo m y := by
  have hR := iv_c h
  by_cases hc : ¬ isC m y
  · have e1 : rfClo l y = (1, 0) := (if_pos (fun x => hc ((sm_C hS).mp x)))
    have e2 : mClo m y = (1, 0) := (if_pos hc)
    rw [e1, e2]
  · have _ := hR
    by_cases h2 : m (56 + y) = 1
    · have e1 : rfClo l y = (13, 0) := (Eq.trans (if_neg (fun x => x ((sm_C hS).mpr (Classical.not_not.mp hc)))) (if_pos (by rw [sm_cl hS (Classical.not_not.mp hc)]; have := hR.2.2.2.2.2.2.2.2.2.2.1 y (Classical.not_not.mp hc).1 (by have := (Classical.not_not.mp hc).2; have := hR.2.2.2.2.2.1; omega); omega)))
      have e2 : mClo m y = (13, 0) := (Eq.trans (if_neg hc) (if_pos h2))
      rw [e1, e2]
    · have _ := hR
      by_cases h3 : m (8 + y) = 1
      · have e1 : rfClo l y = (4, y) := (Eq.trans (if_neg (fun x => x ((sm_C hS).mpr (Classical.not_not.mp hc)))) (Eq.trans (if_neg (by rw [sm_cl hS (Classical.not_not.mp hc)]; have := hR.2.2.2.2.2.2.2.2.2.2.1 y (Classical.not_not.mp hc).1 (by have := (Classical.not_not.mp hc).2; have := hR.2.2.2.2.2.1; omega); omega)) (if_pos (by rw [sm_k hS (Classical.not_not.mp hc)]; exact h3))))
        have e2 : mClo m y = (4, y) := (Eq.trans (if_neg hc) (Eq.trans (if_neg h2) (if_pos h3)))
        rw [e1, e2]
      · have _ := hR
        have e1 : rfClo l y = rfRC l y (-1) := (Eq.trans (if_neg (fun x => x ((sm_C hS).mpr (Classical.not_not.mp hc)))) (Eq.trans (if_neg (by rw [sm_cl hS (Classical.not_not.mp hc)]; have := hR.2.2.2.2.2.2.2.2.2.2.1 y (Classical.not_not.mp hc).1 (by have := (Classical.not_not.mp hc).2; have := hR.2.2.2.2.2.1; omega); omega)) (if_neg (by rw [sm_k hS (Classical.not_not.mp hc)]; exact h3))))
        have e2 : mClo m y = (if 0 ≤ wbe m y 0 (-1) then (5, wbe m y 0 (-1)) else (0, 0)) := (Eq.trans (if_neg hc) (Eq.trans (if_neg h2) (if_neg h3)))
        rw [e1, e2]
        exact rf_RC hS hR
theorem rf_opn (hS : Sm l m) (h : Iv m) : rfOpn l y = mOpn m y := by
  have hR := iv_c h
  by_cases hc : ¬ isC m y
  · have e1 : rfOpn l y = (1, 0) := (if_pos (fun x => hc ((sm_C hS).mp x)))
    have e2 : mOpn m y = (1, 0) := (if_pos hc)
    rw [e1, e2]
  · have _ := hR
    by_cases h2 : m (56 + y) = 0
    · have e1 : rfOpn l y = (13, 0) := (Eq.trans (if_neg (fun x => x ((sm_C hS).mpr (Classical.not_not.mp hc)))) (if_pos (by rw [sm_cl hS (Classical.not_not.mp hc)]; exact h2)))
      have e2 : mOpn m y = (13, 0) := (Eq.trans (if_neg hc) (if_pos h2))
      rw [e1, e2]
    · have _ := hR
      have e1 : rfOpn l y = (0, 0) := (Eq.trans (if_neg (fun x => x ((sm_C hS).mpr (Classical.not_not.mp hc)))) (if_neg (by rw [sm_cl hS (Classical.not_not.mp hc)]; exact h2)))
      have e2 : mOpn m y = (0, 0) := (Eq.trans (if_neg hc) (if_neg h2))
      rw [e1, e2]
theorem rf_can (hS : Sm l m) (h : Iv m) : rfCan l y = mCan m y := by
  have hR := iv_c h
  by_cases hc : ¬ isR m y
  · have e1 : rfCan l y = (1, 0) := (if_pos (fun x => hc ((sm_R hS).mp x)))
    have e2 : mCan m y = (1, 0) := (if_pos hc)
    rw [e1, e2]
  · have _ := hR
    by_cases h2 : rb m y 3 = 0
    · have e1 : rfCan l y = (14, 0) := (Eq.trans (if_neg (fun x => x ((sm_R hS).mpr (Classical.not_not.mp hc)))) (if_pos (by rw [sm_rb hS (Classical.not_not.mp hc) (by omega) (by omega)]; exact h2)))
      have e2 : mCan m y = (14, 0) := (Eq.trans (if_neg hc) (if_pos h2))
      rw [e1, e2]
    · have _ := hR
      have e1 : rfCan l y = rfRC l (rb l y 0) y := (Eq.trans (if_neg (fun x => x ((sm_R hS).mpr (Classical.not_not.mp hc)))) (if_neg (by rw [sm_rb hS (Classical.not_not.mp hc) (by omega) (by omega)]; exact h2)))
      have e2 : mCan m y = (if 0 ≤ wbe m (rb m y 0) 1 y then (5, wbe m (rb m y 0) 1 y) else (0, 0)) := (Eq.trans (if_neg hc) (if_neg h2))
      rw [e1, e2]
      rw [sm_rb hS (Classical.not_not.mp hc) (i := 0) (by omega) (by omega)]; exact rf_RCr hS h (Classical.not_not.mp hc)
theorem rf_set : rfSet w z = mSet w z := by
  unfold rfSet mSet mst2 mst inn
  by_cases h1 : w < 0 ∨ 3 ≤ w
  · rw [if_pos h1, if_pos (by omega)]
  · rw [if_neg h1]
    by_cases h2 : z < 1 ∨ (if w = 0 then 20 else if w = 1 then 3 else 30) < z
    · rw [if_pos h2, if_pos (by omega)]
    · rw [if_neg h2, if_neg (by omega)]
theorem rf_pas : rfPas t = mPas t := by
  unfold rfPas mPas inn
  by_cases h1 : t < 1 ∨ 99 < t
  · rw [if_pos h1, if_pos (by omega)]
  · rw [if_neg h1, if_neg (by omega)]
theorem rf_lin (hS : Sm l m) (hc : isC m c) : rfLin l c = if ¬ m (8 + c) = 0 then (12, c) else (0, 0) := by
  unfold rfLin
  rw [sm_k hS hc]
  by_cases z : ¬ m (8 + c) = 0
  · rw [if_pos z, if_pos ⟨(sm_C hS).mpr hc, z⟩]
  · rw [if_neg z, if_neg (fun x => z x.2)]
theorem rf_lin0 (hS : Sm l m) (hc : ¬ isC m c) : rfLin l c = (0, 0) := if_neg (fun x => hc ((sm_C hS).mp x.1))
theorem rf_ord (hS : Sm l m) (h : Iv m) : rfOrd l d a b c = mOrd m d a b c := by
  have hR := iv_c h
  have g4 := hR.2.2.2.2.1
  by_cases h1 : isC m a ∧ (isC m b ∨ b = -1) ∧ (isC m c ∨ c = -1)
  · have l1 : ¬ (¬ isC l a ∨ ¬ (b = -1 ∨ isC l b) ∨ ¬ (c = -1 ∨ isC l c)) := by
      rw [sm_C hS, sm_C hS, sm_C hS]
      intro x
      rcases x with x | x | x
      · exact x h1.1
      · exact x h1.2.1.symm
      · exact x h1.2.2.symm
    by_cases h2 : d < 0 ∨ 999 < d ∨ (b = -1 ∧ ¬ c = -1)
    · have e1 : rfOrd l d a b c = (2, 0) := Eq.trans (if_neg l1) (if_pos h2)
      have e2 : mOrd m d a b c = (2, 0) := Eq.trans (if_neg (fun x => x h1)) (if_pos (by unfold inn; omega))
      rw [e1, e2]
    · by_cases h3 : m 4 = 10
      · have e1 : rfOrd l d a b c = (3, 0) := Eq.trans (if_neg l1) (Eq.trans (if_neg h2) (if_pos (by rw [sm_4 hS]; omega)))
        have e2 : mOrd m d a b c = (3, 0) := Eq.trans (if_neg (fun x => x h1)) (Eq.trans (if_neg (by unfold inn; omega)) (if_pos h3))
        rw [e1, e2]
      · have e1 : rfOrd l d a b c = if ¬ (rfLin l a).1 = 0 then rfLin l a else if ¬ (rfLin l b).1 = 0 then rfLin l b else rfLin l c := Eq.trans (if_neg l1) (Eq.trans (if_neg h2) (if_neg (by rw [sm_4 hS]; omega)))
        have e2 : mOrd m d a b c = if ¬ m (8 + a) = 0 then (12, a) else if ¬ b = -1 ∧ ¬ m (8 + b) = 0 then (12, b) else if ¬ b = -1 ∧ ¬ c = -1 ∧ ¬ m (8 + c) = 0 then (12, c) else (0, 0) := Eq.trans (if_neg (fun x => x h1)) (Eq.trans (if_neg (by unfold inn; omega)) (if_neg h3))
        rw [e1, e2, rf_lin hS h1.1]
        by_cases u : ¬ m (8 + a) = 0
        · rw [if_pos u, if_pos u, if_pos (show ¬ ((12 : Int), a).1 = 0 from (by decide : ¬ (12 : Int) = 0))]
        · rw [if_neg u, if_neg u, if_neg (by decide)]
          by_cases v : b = -1
          · rw [rf_lin0 hS (c := b) (by rw [v]; unfold isC; omega), if_neg (show ¬ ¬ ((0 : Int), (0 : Int)).1 = 0 by decide), if_neg (fun x => x.1 v), if_neg (fun x => x.1 v)]
            exact rf_lin0 hS (by have : c = -1 := by omega
                                 rw [this]; unfold isC; omega)
          · have hb : isC m b := h1.2.1.resolve_right v
            rw [rf_lin hS hb]
            by_cases q : ¬ m (8 + b) = 0
            · rw [if_pos q, if_pos (show ¬ ((12 : Int), b).1 = 0 from (by decide : ¬ (12 : Int) = 0)), if_pos (show ¬ b = -1 ∧ ¬ m (8 + b) = 0 from ⟨v, q⟩)]
            · rw [if_neg q, if_neg (show ¬ ¬ ((0 : Int), (0 : Int)).1 = 0 by decide), if_neg (show ¬ (¬ b = -1 ∧ ¬ m (8 + b) = 0) from fun x => q x.2)]
              by_cases v2 : c = -1
              · rw [rf_lin0 hS (c := c) (by rw [v2]; unfold isC; omega), if_neg (fun x => x.2.1 v2)]
              · have hcc : isC m c := h1.2.2.resolve_right v2
                rw [rf_lin hS hcc]
                by_cases q2 : ¬ m (8 + c) = 0
                · rw [if_pos q2, if_pos ⟨v, v2, q2⟩]
                · rw [if_neg q2, if_neg (fun x => q2 x.2.2)]
  · have l1 : ¬ isC l a ∨ ¬ (b = -1 ∨ isC l b) ∨ ¬ (c = -1 ∨ isC l c) := by
      rw [sm_C hS, sm_C hS, sm_C hS]
      by_cases u : isC m a
      · by_cases v : isC m b ∨ b = -1
        · exact .inr (.inr (fun x => h1 ⟨u, v, x.symm⟩))
        · exact .inr (.inl (fun x => v x.symm))
      · exact .inl u
    have e1 : rfOrd l d a b c = (1, 0) := if_pos l1
    have e2 : mOrd m d a b c = (1, 0) := if_pos h1
    rw [e1, e2]
end PE
