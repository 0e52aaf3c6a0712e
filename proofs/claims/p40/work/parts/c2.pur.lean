/-! the same after each change that the law makes while it draws -/
section C2
variable {l l' m PP X : Int → Int} {r r' y z t T k o g c v d a b e w : Int}
theorem rb_u_ne {i : Int} (hr : 0 ≤ r ∧ r < 6) (hj : 0 ≤ i ∧ i < 36) (hk : k < 104 ∨ 320 ≤ k ∨ (k < 104 + 36 * r ∨ 140 + 36 * r ≤ k) ∨ k ≠ 104 + 36 * r + i) : rb (u1 l k v) r i = rb l r i := u1_ne (i := 104 + 36 * r + i) (by omega)
theorem bgn_0 {f : Int → Int} : bgn f c b 0 = c ∧ bgn f c b 1 = b ∧ bgn f c b 2 = -1 ∧ bgn f c b 3 = 0 := by
  unfold bgn
  refine ⟨?_, ?_, ?_, ?_⟩
  · rw [u1_ne (by omega), u1_ne (by omega), u1_ne (by omega), u1_ne (by omega), u1_ne (by omega), u1_eq]
  · rw [u1_ne (by omega), u1_ne (by omega), u1_ne (by omega), u1_ne (by omega), u1_eq]
  · rw [u1_ne (by omega), u1_ne (by omega), u1_ne (by omega), u1_eq]
  · rw [u1_ne (by omega), u1_eq]
theorem jv_add (hR : RgC l) (h : JV l) (h6 : l 3 < 6) (hz : 0 ≤ z ∧ z ≤ 99) (hN : NDl (u1 (rset l (l 3) (bgn (rb l (l 3)) y z)) 3 (l 3 + 1))) : JV (u1 (rset l (l 3) (bgn (rb l (l 3)) y z)) 3 (l 3 + 1)) := by
  have g3 := hR.2.2.2.1
  have g4 := hR.2.2.2.2.1
  generalize hl : u1 (rset l (l 3) (bgn (rb l (l 3)) y z)) 3 (l 3 + 1) = l' at *
  have e : ∀ i, i < 104 → i ≠ 3 → l' i = l i := fun i a b => by rw [← hl, u1_ne b, rset_o (by omega)]
  have e3 : l' 3 = l 3 + 1 := by rw [← hl, u1_eq]
  have eo : ∀ i, 320 ≤ i → l' i = l i := fun i a => by rw [← hl, u1_ne (by omega), rset_o (by omega)]
  have en : ∀ j, 0 ≤ j → j < 36 → rb l' (l 3) j = bgn (rb l (l 3)) y z j := fun j a b => by
    rw [← hl, rb_u_ne ⟨g3.1, h6⟩ ⟨a, b⟩ (by omega), rset_eq a b]
  have er : ∀ r, isR l r → ∀ j, 0 ≤ j → j < 36 → rb l' r j = rb l r j := fun r hr j a b => by
    rw [← hl, rb_u_ne ⟨hr.1, by have := hr.2; omega⟩ ⟨a, b⟩ (by omega), rset_ne a b (by have := hr.2; omega)]
  obtain ⟨q0, q1, q2, q3⟩ := bgn_0 (f := rb l (l 3)) (c := y) (b := z)
  have n0 := (en 0 (by omega) (by omega)).trans q0
  have n1 := (en 1 (by omega) (by omega)).trans q1
  have n3 := (en 3 (by omega) (by omega)).trans q3
  have hA : ∀ r, isR l r → ∀ t, 0 ≤ t → ahd l' r t = ahd l r t := fun r hr t ht => ahd_cg hR hr ht fun j p q s => er r hr j p q
  have hY : ∀ t, ahd l' (l 3) t = y := fun t => by
    unfold ahd ahf
    rw [if_pos (Or.inr n3)]
    exact n0
  have hi : ∀ r, isR l' r → isR l r ∨ r = l 3 := fun r q => by
    have := q.2
    have := q.1
    rw [e3] at *
    by_cases x : r = l 3
    · exact Or.inr x
    · exact Or.inl ⟨by omega, by omega⟩
  obtain ⟨a1, a2, a3, a4, a5⟩ := h
  refine ⟨fun r hr => ?_, fun r r' hr hr' hne t ht => ?_, fun o ho => ?_, fun c hc => ?_, (e 6 (by omega) (by omega)).trans a5⟩
  · rcases hi r hr with x | x
    · exact jr_cg (a1 r x) (e 0 (by omega) (by omega)) (e 1 (by omega) (by omega)) (hA r x) (fun j p q _ => er r x j p q) (rgc_3 hR x)
    · subst x
      refine ⟨fun t _ => ⟨4, by omega, ?_⟩, fun q => absurd q (by omega), by omega, fun q => absurd q (by omega)⟩
      rw [hY, hY]
      rfl
  · rcases hi r hr with x | x
    · rcases hi r' hr' with x' | x'
      · rw [hA r x t ht, hA r x (t + 1) (by omega), hA r' x' t ht, hA r' x' (t + 1) (by omega)]
        exact a2 r r' x x' hne t ht
      · exact js_stay' hN hr hr' hne ht (by rw [x', hY, hY])
    · exact js_stay hN hr hr' hne ht (by rw [x, hY, hY])
  · have ho' : isO l o := ⟨ho.1, by rw [← e 4 (by omega) (by omega)]; exact ho.2⟩
    have eb : ∀ j, 0 ≤ j → ob l' o j = ob l o j := fun j q => eo (320 + 8 * o + j) (by have := ho.1; omega)
    rw [eb 4 (by omega), eb 2 (by omega), eb 1 (by omega)]
    exact a3 o ho'
  · have ecs : cs l' = cs l := cs_cg (e 0 (by omega) (by omega)) (e 1 (by omega) (by omega))
    have hc' : isC l c := ⟨hc.1, by rw [← ecs]; exact hc.2⟩
    have g := hR.2.2.2.2.2.1
    rw [e (56 + c) (by have := hc'.2; omega) (by have := hc'.1; omega)]
    exact a4 c hc'
theorem jv_ord (hR : RgC l) (h : JV l) (h10 : l 4 < 10) : JV (u1 (oset l (l 4) (obg (ob l (l 4)) d a b c)) 4 (l 4 + 1)) := by
  have g3 := hR.2.2.2.1
  have g4 := hR.2.2.2.2.1
  refine jv_same hR h (fun i a b c => by rw [u1_ne c, oset_o (by omega)]) (fun r hr j p q _ => ?_) fun o ho => ?_
  · have := hr.2
    rw [rb_u_ne ⟨hr.1, by omega⟩ ⟨p, q⟩ (by omega)]
    exact oset_o (k := 104 + 36 * r + j) (by have := hr.1; omega)
  · have e4 : u1 (oset l (l 4) (obg (ob l (l 4)) d a b c)) 4 (l 4 + 1) 4 = l 4 + 1 := u1_eq
    have ho2 := ho.2
    rw [e4] at ho2
    have eb : ∀ j, 0 ≤ j → j < 8 → ob (u1 (oset l (l 4) (obg (ob l (l 4)) d a b c)) 4 (l 4 + 1)) o j = ob (oset l (l 4) (obg (ob l (l 4)) d a b c)) o j := fun j q _ => u1_ne (i := 320 + 8 * o + j) (by have := ho.1; omega)
    rw [eb 4 (by omega) (by omega), eb 2 (by omega) (by omega), eb 1 (by omega) (by omega)]
    by_cases x : o = l 4
    · rw [x, oset_eq (by omega) (by omega)]
      intro q
      exact absurd (show obg (ob l (l 4)) d a b c 4 = -1 by unfold obg; simp) q
    · rw [oset_ne (by omega) (by omega) x, oset_ne (by omega) (by omega) x, oset_ne (by omega) (by omega) x]
      exact h.2.2.1 o ⟨ho.1, by omega⟩
theorem jv_asg (hR : RgC l) (h : JV l) (hy : isR l y) : JV (u1 l (104 + 36 * y + 2) z) := by
  have g3 := hR.2.2.2.1
  have := hy.1
  have := hy.2
  refine jv_same hR h (fun i a b c => u1_ne (by omega)) (fun r hr j p q n => u1_ne (i := 104 + 36 * r + j) (by omega)) fun o ho => ?_
  have eb : ∀ j, 0 ≤ j → ob (u1 l (104 + 36 * y + 2) z) o j = ob l o j := fun j q => u1_ne (i := 320 + 8 * o + j) (by have := ho.1; omega)
  rw [eb 4 (by omega), eb 2 (by omega), eb 1 (by omega)]
  exact h.2.2.1 o ⟨ho.1, by have := ho.2; rw [u1_ne (by omega)] at this; exact this⟩
theorem jv_set (hR : RgC l) (h : JV l) : JV (u1 l 7 v) := by
  have g3 := hR.2.2.2.1
  refine jv_same hR h (fun i a b c => u1_ne b) (fun r hr j p q n => u1_ne (i := 104 + 36 * r + j) (by have := hr.1; omega)) fun o ho => ?_
  have eb : ∀ j, 0 ≤ j → ob (u1 l 7 v) o j = ob l o j := fun j q => u1_ne (i := 320 + 8 * o + j) (by have := ho.1; omega)
  rw [eb 4 (by omega), eb 2 (by omega), eb 1 (by omega)]
  exact h.2.2.1 o ⟨ho.1, by have := ho.2; rw [u1_ne (by omega)] at this; exact this⟩
/-- a plan: where the robot will be -/
theorem ahd_fol (hT : 1 ≤ T ∧ T ≤ 30) (ht : 0 ≤ t) : ahd (rset l y (fol (rb l y) PP T z)) y t = (fun t => if t = 0 then rb l y 0 else PP (t - 1)) (if t > T then T else t) := by
  have e : ∀ j, 0 ≤ j → j < 36 → rb (rset l y (fol (rb l y) PP T z)) y j = fol (rb l y) PP T z j := fun j a b => rset_eq a b
  have e3 : fol (rb l y) PP T z 3 = T := by unfold fol; simp
  have e0 : fol (rb l y) PP T z 0 = rb l y 0 := by unfold fol; rw [if_neg (by omega), if_neg (by omega), if_neg (by omega)]
  unfold ahd ahf
  rw [e 3 (by omega) (by omega), e 0 (by omega) (by omega), e3, e0]
  show (if t = 0 ∨ T = 0 then rb l y 0 else rb (rset l y (fol (rb l y) PP T z)) y (6 + (if t > T then T else t) - 1)) = if (if t > T then T else t) = 0 then rb l y 0 else PP ((if t > T then T else t) - 1)
  by_cases h0 : t = 0
  · rw [if_pos (Or.inl h0), h0, if_neg (show ¬ (0 : Int) > T by omega), if_pos rfl]
  · rw [if_neg (by omega)]
    generalize hu : (if t > T then T else t) = u
    have hu1 : 1 ≤ u ∧ u ≤ T := by rw [← hu]; split <;> omega
    rw [if_neg (by omega), e _ (by omega) (by omega)]
    unfold fol
    rw [if_neg (by omega), if_neg (by omega), if_pos (by omega)]
    congr 1
    omega
theorem jv_pln (hR : RgC l) (h : JV l) (hy : isR l y) (hg : isC l g) (h3 : rb l y 3 = 0) (h0 : rb l y 0 ≠ g) (hf : ¬ fT l y g = -1) (hG : Grd l y g (fT l y g) (fun t => if t = 0 then rb l y 0 else PP (t - 1))) (hz : 1 ≤ z ∧ z ≤ 2) (hb : mvc PP (fT l y g).toNat 0 (rb l y 0) 0 * z ≤ rb l y 1)
    (hN : NDl (rset l y (fol (rb l y) PP (fT l y g) z))) : JV (rset l y (fol (rb l y) PP (fT l y g) z)) := by
  have g3 := hR.2.2.2.1
  have gy := hy.1
  have gy2 := hy.2
  obtain ⟨hT, hp, hno⟩ := fT_p hR hf
  have hnr := no_rest hR hy h0 hT hp hno
  generalize fT l y g = T at *
  generalize hX : (fun t => if t = 0 then rb l y 0 else PP (t - 1)) = X at hG
  have hx := grd_x sm_rf hR hy hT hnr hG
  generalize hl : rset l y (fol (rb l y) PP T z) = l' at *
  have e : ∀ i, i < 104 → l' i = l i := fun i a => by rw [← hl, rset_o (by omega)]
  have eo : ∀ i, 320 ≤ i → l' i = l i := fun i a => by rw [← hl, rset_o (by omega)]
  have er : ∀ r, isR l r → r ≠ y → ∀ j, 0 ≤ j → j < 36 → rb l' r j = rb l r j := fun r hr n j a b => by rw [← hl, rset_ne a b n]
  have ey : ∀ j, 0 ≤ j → j < 36 → rb l' y j = fol (rb l y) PP T z j := fun j a b => by rw [← hl, rset_eq a b]
  have hA : ∀ r, isR l r → r ≠ y → ∀ t, 0 ≤ t → ahd l' r t = ahd l r t := fun r hr n t ht => ahd_cg hR hr ht fun j p q s => er r hr n j p q
  have hY : ∀ t, 0 ≤ t → ahd l' y t = X (if t > T then T else t) := fun t ht => by rw [← hl, ahd_fol hT ht, hX]
  have hYi : ∀ t, 0 ≤ t → t ≤ T → ahd l' y t = X t := fun t ht hl => by rw [hY t ht, if_neg (by omega)]
  have n3 : rb l' y 3 = T := (ey 3 (by omega) (by omega)).trans (by unfold fol; simp)
  have n4 : rb l' y 4 = z := (ey 4 (by omega) (by omega)).trans (by unfold fol; simp)
  have n1 : rb l' y 1 = rb l y 1 := (ey 1 (by omega) (by omega)).trans (by unfold fol; rw [if_neg (by omega), if_neg (by omega), if_neg (by omega)])
  have n0 : rb l' y 0 = rb l y 0 := (ey 0 (by omega) (by omega)).trans (by unfold fol; rw [if_neg (by omega), if_neg (by omega), if_neg (by omega)])
  have hM : ∀ t, 0 ≤ t → t < T → mgo l y (X t) (X (t + 1)) t := fun t a b => by
    have q := ((hx (t + 1).toNat (by omega)).2.2 (by omega)).1
    rw [show (((t + 1).toNat : Nat) : Int) = t + 1 by omega, show t + 1 - 1 = t by omega] at q
    exact q
  have hW : ∀ t, 0 ≤ t → t < T → ∃ w, (0 ≤ w ∧ w ≤ 4) ∧ bes l (X t) w = X (t + 1) := fun t a b => by
    obtain ⟨w, hw, q, _⟩ := hG.2 t a b
    exact ⟨w, hw, q.1⟩
  have hi : ∀ r, isR l' r ↔ isR l r := fun r => by unfold isR; rw [e 3 (by omega)]
  have hend : X (T - 1) ≠ X T := by
    obtain ⟨_, q2, _⟩ := hx (T - 1).toNat (by omega)
    obtain ⟨_, _, q3⟩ := hx T.toNat (by omega)
    have q3 := (q3 (by omega)).2
    rw [show ((T.toNat : Nat) : Int) = T by omega, show (T - T).toNat = 0 by omega] at q3
    have q3 : X T = g := q3
    rw [show (((T - 1).toNat : Nat) : Int) = T - 1 by omega] at q2
    intro x
    rw [x, q3] at q2
    exact hnr q2
  obtain ⟨a1, a2, a3, a4, a5⟩ := h
  refine ⟨fun r hr => ?_, fun r r' hr hr' hne t ht => ?_, fun o ho => ?_, fun c hc => ?_, (e 6 (by omega)).trans a5⟩
  · have hr1 := (hi r).mp hr
    by_cases x : r = y
    · subst x
      refine ⟨fun t ht => ?_, fun _ => ?_, by rw [n1]; exact (a1 r hr1).2.2.1, fun _ => ?_⟩
      · by_cases q : t < T
        · obtain ⟨w, hw, q2⟩ := hW t ht q
          exact ⟨w, hw, by rw [hYi t ht (by omega), hYi (t + 1) (by omega) (by omega), ← bes_cg (e 0 (by omega)).symm (e 1 (by omega)).symm]; exact q2⟩
        · refine ⟨4, by omega, ?_⟩
          rw [hY t ht, hY (t + 1) (by omega), bes_4, if_pos (show t + 1 > T by omega)]
          by_cases q3 : t > T
          · rw [if_pos q3]
          · rw [if_neg q3, show t = T by omega]
      · rw [n3, hYi (T - 1) (by omega) (by omega), hYi T (by omega) (by omega)]
        exact hend
      · have em : mvs l' r = mvc PP T.toNat 0 (rb l r 0) 0 := by
          unfold mvs
          rw [n3, n0]
          refine mvc_cg _ _ _ _ fun t a b => ?_
          show rb l' r (6 + t) = PP t
          rw [ey (6 + t) (by omega) (by omega)]
          unfold fol
          rw [if_neg (by omega), if_neg (by omega), if_pos (by omega)]
          congr 1
          omega
        rw [n4, n1, em, Int.mul_comm]
        exact ⟨hz, hb⟩
    · exact jr_cg (a1 r hr1) (e 0 (by omega)) (e 1 (by omega)) (hA r hr1 x) (fun j p q _ => er r hr1 x j p q) (rgc_3 hR hr1)
  · have hr1 := (hi r).mp hr
    have hr2 := (hi r').mp hr'
    by_cases x : r = y
    · have x' : r' ≠ y := fun q => hne (x.trans q.symm)
      by_cases q : t < T
      · have hm := (hM t ht q).2 r' hr2.1 hr2.2
        rw [x, hYi t ht (by omega), hYi (t + 1) (by omega) (by omega), hA r' hr2 x' t ht, hA r' hr2 x' (t + 1) (by omega)]
        rcases hm with hm | hm
        · exact absurd hm x'
        · exact fun p => hm.2 ⟨p.1.symm, p.2.symm⟩
      · exact js_stay hN hr hr' hne ht (by rw [x]; exact ahd_st (by omega) (by omega))
    · by_cases x' : r' = y
      · by_cases q : t < T
        · have hm := (hM t ht q).2 r hr1.1 hr1.2
          rw [x', hYi t ht (by omega), hYi (t + 1) (by omega) (by omega), hA r hr1 x t ht, hA r hr1 x (t + 1) (by omega)]
          rcases hm with hm | hm
          · exact absurd hm x
          · exact fun p => hm.2 ⟨p.2, p.1⟩
        · exact js_stay' hN hr hr' hne ht (by rw [x']; exact ahd_st (by omega) (by omega))
      · rw [hA r hr1 x t ht, hA r hr1 x (t + 1) (by omega), hA r' hr2 x' t ht, hA r' hr2 x' (t + 1) (by omega)]
        exact a2 r r' hr1 hr2 hne t ht
  · have ho' : isO l o := ⟨ho.1, by rw [← e 4 (by omega)]; exact ho.2⟩
    have eb : ∀ j, 0 ≤ j → ob l' o j = ob l o j := fun j q => eo (320 + 8 * o + j) (by have := ho.1; omega)
    rw [eb 4 (by omega), eb 2 (by omega), eb 1 (by omega)]
    exact a3 o ho'
  · have ecs : cs l' = cs l := cs_cg (e 0 (by omega)) (e 1 (by omega))
    have hc' : isC l c := ⟨hc.1, by rw [← ecs]; exact hc.2⟩
    have gg := hR.2.2.2.2.2.1
    rw [e (56 + c) (by have := hc'.2; omega)]
    exact a4 c hc'
end C2
