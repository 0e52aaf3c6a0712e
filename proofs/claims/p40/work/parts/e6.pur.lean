/-! a tick keeps what is asked of moves; what three ticks cost -/
section E6
variable {l l' m X L : Int → Int} {r r' x y z t T k o g c v p f q b a w s i j : Int} {n : Nat}
theorem mvc_a {f : Int → Int} : ∀ (n : Nat) (i b a d : Int), mvc f n i b (a + d) = mvc f n i b a + d
  | 0, _, _, _, _ => rfl
  | n + 1, i, b, a, d => by
    show mvc f n (i + 1) (f i) (if f i = b then a + d else a + d + 1) = mvc f n (i + 1) (f i) (if f i = b then a else a + 1) + d
    rw [← mvc_a n (i + 1) (f i) _ d]
    congr 1
    split <;> omega
theorem mvc_sh {f f' : Int → Int} : ∀ (n : Nat) (i b a : Int), (∀ t, i ≤ t → t < i + n → f' t = f (t + 1)) → mvc f' n i b a = mvc f n (i + 1) b a
  | 0, _, _, _, _ => rfl
  | n + 1, i, b, a, h => by
    have e := h i (by omega) (by omega)
    show mvc f' n (i + 1) (f' i) (if f' i = b then a else a + 1) = mvc f n (i + 1 + 1) (f (i + 1)) (if f (i + 1) = b then a else a + 1)
    rw [e]
    exact mvc_sh n (i + 1) _ _ fun t t0 t1 => h t (by omega) (by omega)
/-- what a tick does with a robot that has a plan -/
theorem tk_mv (hR : RgC l) (hr : isR l r) (hm : ∀ j, 0 ≤ j → j < 36 → j ≠ 2 → rb m r j = tkF l r j) (h3 : 0 < rb l r 3) : rb m r 3 = rb l r 3 - 1 ∧ rb m r 4 = rb l r 4 ∧ rb m r 0 = ahd l r 1 ∧ ((ahd l r 1 = rb l r 0 ∧ rb m r 1 = rb l r 1 ∧ rb m r 5 = rb l r 5 ∧ mvs l r = mvs m r) ∨ (¬ ahd l r 1 = rb l r 0 ∧ rb m r 1 = rb l r 1 - rb l r 4 ∧ rb m r 5 = rb l r 5 + 1 ∧ mvs l r = mvs m r + 1)) := by
  have e3 := rg_b3 hR hr
  have tf : ∀ j, 0 ≤ j → j < 36 → j ≠ 2 → rb m r j = gon (rb l r) j := fun j a b c => by rw [hm j a b c]; unfold tkF; rw [if_pos h3]
  have m3 : rb m r 3 = rb l r 3 - 1 := tf 3 (by omega) (by omega) (by omega)
  have m4 : rb m r 4 = rb l r 4 := by rw [tf 4 (by omega) (by omega) (by omega)]; unfold gon; rw [if_neg (by omega), if_neg (by omega), if_neg (by omega), if_neg (by omega), if_neg (by omega)]
  have m0 : rb m r 0 = ahd l r 1 := tf 0 (by omega) (by omega) (by omega)
  have m1 : rb m r 1 = if ahd l r 1 = rb l r 0 then rb l r 1 else rb l r 1 - rb l r 4 := tf 1 (by omega) (by omega) (by omega)
  have m5 : rb m r 5 = if ahd l r 1 = rb l r 0 then rb l r 5 else rb l r 5 + 1 := tf 5 (by omega) (by omega) (by omega)
  have a1 : ahd l r 1 = rb l r 6 := ahf_1 (by omega) (by omega)
  have pl : ∀ i, 0 ≤ i → i < rb m r 3 → rb m r (6 + i) = rb l r (6 + (i + 1)) := fun i i0 i1 => by
    rw [tf (6 + i) (by omega) (by omega) (by omega)]
    unfold gon
    rw [if_neg (by omega), if_neg (by omega), if_neg (by omega), if_neg (by omega), if_pos (by omega)]
    congr 1
    omega
  have em : mvs l r = mvs m r + if ahd l r 1 = rb l r 0 then 0 else 1 := by
    unfold mvs
    rw [show (rb l r 3).toNat = (rb m r 3).toNat + 1 by omega, m0]
    show mvc (fun i => rb l r (6 + i)) (rb m r 3).toNat (0 + 1) (rb l r (6 + 0)) (if rb l r (6 + 0) = rb l r 0 then 0 else 0 + 1) = _
    rw [mvc_sh (f := fun i => rb l r (6 + i)) (f' := fun i => rb m r (6 + i)) (rb m r 3).toNat 0 (ahd l r 1) 0 fun t t0 t1 => pl t t0 (by omega)]
    rw [← mvc_a (f := fun i => rb l r (6 + i)) (rb m r 3).toNat (0 + 1) (ahd l r 1) 0 (if ahd l r 1 = rb l r 0 then 0 else 1), a1]
    rw [show rb l r (6 + 0) = rb l r 6 from rfl]
    congr 1
    split <;> omega
  refine ⟨m3, m4, m0, ?_⟩
  by_cases c : ahd l r 1 = rb l r 0
  · rw [if_pos c] at m1 m5 em
    exact Or.inl ⟨c, m1, m5, by omega⟩
  · rw [if_neg c] at m1 m5 em
    exact Or.inr ⟨c, m1, m5, em⟩
/-- one without a plan -/
theorem tk_st (hm : ∀ j, 0 ≤ j → j < 36 → j ≠ 2 → rb m r j = tkF l r j) (h3 : ¬ 0 < rb l r 3) : rb m r 3 = rb l r 3 ∧ rb m r 0 = rb l r 0 ∧ rb m r 5 = rb l r 5 ∧ ((l (8 + rb l r 0) = 2 ∧ rb m r 1 = min 99 (rb l r 1 + l 5)) ∨ (¬ l (8 + rb l r 0) = 2 ∧ rb m r 1 = rb l r 1)) := by
  by_cases d : l (8 + rb l r 0) = 2
  · have tf : ∀ j, 0 ≤ j → j < 36 → j ≠ 2 → rb m r j = u1 (rb l r) 1 (min 99 (rb l r 1 + l 5)) j := fun j a b c => by rw [hm j a b c]; unfold tkF; rw [if_neg h3, if_pos d]
    exact ⟨(tf 3 (by omega) (by omega) (by omega)).trans (u1_ne (by omega)), (tf 0 (by omega) (by omega) (by omega)).trans (u1_ne (by omega)), (tf 5 (by omega) (by omega) (by omega)).trans (u1_ne (by omega)), Or.inl ⟨d, (tf 1 (by omega) (by omega) (by omega)).trans u1_eq⟩⟩
  · have tf : ∀ j, 0 ≤ j → j < 36 → j ≠ 2 → rb m r j = rb l r j := fun j a b c => by rw [hm j a b c]; unfold tkF; rw [if_neg h3, if_neg d]
    exact ⟨tf 3 (by omega) (by omega) (by omega), tf 0 (by omega) (by omega) (by omega), tf 5 (by omega) (by omega) (by omega), Or.inr ⟨d, tf 1 (by omega) (by omega) (by omega)⟩⟩
theorem mvs_0 (h : 0 ≤ mvs l r) : 0 ≤ mvs l r := h
theorem mvs_r : 0 ≤ mvs l r := by
  have := mvc_r (f := fun i => rb l r (6 + i)) (rb l r 3).toNat 0 (rb l r 0) 0
  unfold mvs
  omega
theorem jv_tick (hR : RgC l) (h : JV l) : JV (tick l) := by
  obtain ⟨hJ, hS, hO, hC, h6⟩ := h
  obtain ⟨e1, e2, e3, e4⟩ := ti_all hR hO
  have g5 := rg_n14 hR
  have hi : ∀ r, isR (tick l) r → isR l r := fun r q => ⟨q.1, by rw [← e1 3 (by omega) (by omega)]; exact q.2⟩
  have hA : ∀ r, isR l r → ∀ t, 0 ≤ t → ahd (tick l) r t = ahd l r (t + 1) := fun r hr t ht => tkF_ahd hR hr (e3 r hr) ht
  refine ⟨fun r hr' => ?_, fun r r' hr hr' hne t ht => ?_, e4, fun c hc => ?_, (e1 6 (by omega) (by omega)).trans h6⟩
  · have hr := hi r hr'
    obtain ⟨a, b, c, d⟩ := hJ r hr
    refine ⟨fun t ht => ?_, fun h3 => ?_, ?_, fun h3 => ?_⟩
    · rw [hA r hr t ht, hA r hr (t + 1) (by omega)]
      obtain ⟨w, hw, e⟩ := a (t + 1) (by omega)
      exact ⟨w, hw, by rw [← bes_cg (e1 0 (by omega) (by omega)).symm (e1 1 (by omega) (by omega)).symm]; exact e⟩
    · by_cases p : 0 < rb l r 3
      · obtain ⟨q1, _⟩ := tk_mv hR hr (e3 r hr) p
        rw [q1] at h3 ⊢
        rw [hA r hr _ (by omega), hA r hr _ (by omega), show rb l r 3 - 1 - 1 + 1 = rb l r 3 - 1 by omega, show rb l r 3 - 1 + 1 = rb l r 3 by omega]
        exact b p
      · obtain ⟨q1, _⟩ := tk_st (e3 r hr) p
        omega
    · by_cases p : 0 < rb l r 3
      · obtain ⟨q1, q4, q0, q⟩ := tk_mv hR hr (e3 r hr) p
        have d := d p
        have mm := @mvs_r (tick l) r
        rcases q with q | q
        · omega
        · have k : rb l r 4 * (mvs (tick l) r + 1) ≤ rb l r 1 := by rw [← q.2.2.2]; exact d.2
          rcases (by omega : rb l r 4 = 1 ∨ rb l r 4 = 2) with z | z
          · rw [z] at k; omega
          · rw [z] at k; omega
      · obtain ⟨q1, q0, q5, q⟩ := tk_st (e3 r hr) p
        omega
    · by_cases p : 0 < rb l r 3
      · obtain ⟨q1, q4, q0, q⟩ := tk_mv hR hr (e3 r hr) p
        have d := d p
        refine ⟨by omega, ?_⟩
        rw [q4]
        rcases q with q | q
        · rw [← q.2.2.2, q.2.1]
          exact d.2
        · have k : rb l r 4 * (mvs (tick l) r + 1) ≤ rb l r 1 := by rw [← q.2.2.2]; exact d.2
          rcases (by omega : rb l r 4 = 1 ∨ rb l r 4 = 2) with z | z
          · rw [z] at k ⊢; omega
          · rw [z] at k ⊢; omega
      · obtain ⟨q1, _⟩ := tk_st (e3 r hr) p
        omega
  · rw [hA r (hi r hr) t ht, hA r (hi r hr) (t + 1) (by omega), hA r' (hi r' hr') t ht, hA r' (hi r' hr') (t + 1) (by omega)]
    exact hS r r' (hi r hr) (hi r' hr') hne (t + 1) (by omega)
  · have ecs : cs (tick l) = cs l := cs_cg (e1 0 (by omega) (by omega)) (e1 1 (by omega) (by omega))
    have hc' : isC l c := ⟨hc.1, by rw [← ecs]; exact hc.2⟩
    have g := rg_c hR
    rw [e1 (56 + c) (by have := hc'.2; omega) (by have := hc'.1; omega)]
    exact hC c hc'
/-- what n ticks made of a robot -/
def GO (n : Int) (l L : Int → Int) (r : Int) : Prop := (rb L r 3 = max 0 (rb l r 3 - n) ∧ ahd L r 0 = ahd l r n) ∧ (0 ≤ rb L r 5 - rb l r 5 ∧ rb L r 5 - rb l r 5 ≤ n ∧ rb L r 5 - rb l r 5 ≤ rb l r 3) ∧ (¬ (rb l r 3 < n ∧ l (8 + ahd l r n) = 2) → rb L r 1 - rb l r 1 ≤ -(rb L r 5 - rb l r 5) ∧ -2 * (rb L r 5 - rb l r 5) ≤ rb L r 1 - rb l r 1)
theorem gox_0 (h3 : 0 ≤ rb l r 3) : GO 0 l l r := ⟨⟨by omega, rfl⟩, by omega, fun _ => by omega⟩
theorem gox_s (hR : RgC L) (hJ : JV L) (hr : isR L r) (h3 : 0 ≤ rb l r 3) (hn : 0 ≤ k) (hk : ∀ i, 0 ≤ i → i < 104 → i ≠ 2 → L i = l i) (hA : ∀ t, 0 ≤ t → ahd L r t = ahd l r (t + k)) (h : GO k l L r) : GO (k + 1) l (tick L) r := by
  obtain ⟨⟨a1, a2⟩, a3, a4⟩ := h
  obtain ⟨e1, e2, e3, e4⟩ := ti_all hR hJ.2.2.1
  have gc := rg_c hR
  have hA' : ahd (tick L) r 0 = ahd l r (k + 1) := by rw [tkF_ahd hR hr (e3 r hr) (by omega), hA _ (by omega)]; congr 1; omega
  by_cases p : 0 < rb L r 3
  · obtain ⟨q1, q4, q0, q⟩ := tk_mv hR hr (e3 r hr) p
    have d := (hJ.1 r hr).2.2.2 p
    have a4 := a4 (by omega)
    refine ⟨⟨by omega, hA'⟩, by omega, fun _ => by omega⟩
  · obtain ⟨q1, q0, q5, q⟩ := tk_st (e3 r hr) p
    have e : ahd l r (k + 1) = ahd l r k := by
      rw [ahd_end (t := k + 1) h3 (by omega), ahd_end (t := k) h3 (by omega)]
    have ec : rb L r 0 = ahd l r k := by rw [← a2, ahd_0]
    have b0 := rg_b0 hR hr
    rw [hk (8 + rb L r 0) (by omega) (by omega) (by omega), ec] at q
    refine ⟨⟨by omega, hA'⟩, by omega, fun hc => ?_⟩
    rw [e] at hc
    have hc2 : ¬ l (8 + ahd l r k) = 2 := fun z => hc ⟨by omega, z⟩
    have a4 := a4 fun z => hc2 z.2
    rcases q with q | q
    · exact absurd q.1 hc2
    · omega
theorem jv_3 {mm : Int → Int} (h : StR T l mm) (h0 : 0 ≤ T) (h1 : T ≤ 90000) (hJ : JV l) : JV (psL 3 l) ∧ psL 3 l 2 = l 2 + 3 ∧ psL 3 l 3 = l 3 ∧ (∀ i, 0 ≤ i → i < 104 → i ≠ 2 → psL 3 l i = l i) ∧ ∀ r, isR l r → GO 3 l (psL 3 l) r := by
  have r0 := st_rg h
  have s1 := (st_pasn 1 T l mm 0 h h0 (by omega)).1
  have s2 := (st_pasn 2 T l mm 0 h h0 (by omega)).1
  have r1 : RgC (tick l) := st_rg s1
  have r2 : RgC (tick (tick l)) := st_rg s2
  have j1 := jv_tick r0 hJ
  have j2 := jv_tick r1 j1
  have j3 := jv_tick r2 j2
  obtain ⟨a1, a2, a3, _⟩ := ti_all r0 hJ.2.2.1
  obtain ⟨b1, b2, b3, _⟩ := ti_all r1 j1.2.2.1
  obtain ⟨c1, c2, c3, _⟩ := ti_all r2 j2.2.2.1
  have k1 : ∀ i, 0 ≤ i → i < 104 → i ≠ 2 → tick l i = l i := fun i _ x y => a1 i x y
  have k2 : ∀ i, 0 ≤ i → i < 104 → i ≠ 2 → tick (tick l) i = l i := fun i _ x y => (b1 i x y).trans (a1 i x y)
  have k3 : ∀ i, 0 ≤ i → i < 104 → i ≠ 2 → tick (tick (tick l)) i = l i := fun i _ x y => (c1 i x y).trans ((b1 i x y).trans (a1 i x y))
  refine ⟨j3, ?_, k3 3 (by omega) (by omega) (by omega), k3, fun r hr => ?_⟩
  · show tick (tick (tick l)) 2 = l 2 + 3
    rw [c2, b2, a2]
    omega
  · have hr1 : isR (tick l) r := ⟨hr.1, by rw [k1 3 (by omega) (by omega) (by omega)]; exact hr.2⟩
    have hr2 : isR (tick (tick l)) r := ⟨hr.1, by rw [k2 3 (by omega) (by omega) (by omega)]; exact hr.2⟩
    have g3 := (rg_b3 r0 hr).1
    have A1 : ∀ t, 0 ≤ t → ahd (tick l) r t = ahd l r (t + 1) := fun t ht => tkF_ahd r0 hr (a3 r hr) ht
    have A2 : ∀ t, 0 ≤ t → ahd (tick (tick l)) r t = ahd l r (t + 2) := fun t ht => by rw [tkF_ahd r1 hr1 (b3 r hr1) ht, A1 _ (by omega)]; congr 1; omega
    have G1 := gox_s (l := l) (k := 0) r0 hJ hr g3 (by omega) (fun _ _ _ _ => rfl) (fun t _ => by rw [Int.add_zero]) (gox_0 g3)
    have G2 := gox_s (l := l) (k := 0 + 1) r1 j1 hr1 g3 (by omega) k1 (fun t ht => by rw [A1 t ht]; rfl) G1
    exact gox_s (l := l) (k := 0 + 1 + 1) r2 j2 hr2 g3 (by omega) k2 (fun t ht => by rw [A2 t ht]; rfl) G2
end E6
