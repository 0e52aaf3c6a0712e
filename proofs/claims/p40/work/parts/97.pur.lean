/-! both rows after a change, first -/
def StR (T : Int) (l m : Int → Int) : Prop := Sm l m ∧ Iv m ∧ CB l ∧ TB0 T m
/-- where robots are and will be stays -/
def Geo (m m' : Int → Int) : Prop := (m' 0 = m 0 ∧ m' 1 = m 1 ∧ m' 3 = m 3) ∧ (∀ c, isC m c → m' (8 + c) = m (8 + c)) ∧ ∀ r, isR m r → ∀ j, 0 ≤ j → j < 36 → (j = 0 ∨ j = 3 ∨ 6 ≤ j) → rb m' r j = rb m r j
/-- who has which order stays -/
def Ord (m m' : Int → Int) : Prop := (m' 3 = m 3 ∧ m' 4 = m 4) ∧ (∀ r, isR m r → rb m' r 2 = rb m r 2) ∧ ∀ o, isO m o → ob m' o 3 = ob m o 3 ∧ ob m' o 4 = ob m o 4 ∧ ob m' o 2 = ob m o 2
section PF
variable {l m m' : Int → Int} {c w r o t a b i x y z ro g fr to T ct k d e v : Int} {n : Nat}
theorem geo_ahd (h : Geo m m') (hR : RgC m) (hr : isR m r) (ht : 0 ≤ t) : ahd m' r t = ahd m r t := by
  have h3 := (rgc_r hR hr).2.2.2.1
  have hg := h.2.2 r hr
  unfold ahd ahf
  rw [hg 0 (by omega) (by omega) (by omega), hg 3 (by omega) (by omega) (by omega)]
  by_cases q : t = 0 ∨ rb m r 3 = 0
  · rw [if_pos q, if_pos q]
  · rw [if_neg q, if_neg q]
    exact hg _ (by split <;> omega) (by split <;> omega) (by split <;> omega)
theorem geo_R (h : Geo m m') : isR m' r ↔ isR m r := by unfold isR; rw [h.1.2.2]
theorem geo_cs (h : Geo m m') : cs m' = cs m := by unfold cs; rw [h.1.1, h.1.2.1]
theorem geo_nd (h : Geo m m') (hR : RgC m) (hN : NDm m) : NDm m' := by
  intro r r' a b c t d
  have a := (geo_R h).mp a
  have b := (geo_R h).mp b
  rw [geo_ahd h hR a d, geo_ahd h hR b d]
  exact hN r r' a b c t d
theorem geo_en (h : Geo m m') (hR : Rg m) (h0 : 0 ≤ m 2) (hE : ENm m) (hc : ∀ r, isR m r → ∀ t, 0 ≤ t → m' (56 + ahd m r t) = m (56 + ahd m r t) ∨ m' (56 + ahd m r t) = 0) : ENm m' := by
  intro r a t b
  have a := (geo_R h).mp a
  rw [geo_ahd h (rgc_of hR h0) a b]
  have e := hE r a t b
  have ek := h.2.1 _ (ahd_r hR a b)
  refine ⟨by rw [ek]; exact e.1, ?_⟩
  rcases hc r a t b with q | q
  · rw [q]; exact e.2
  · exact q
theorem ord_hb (h : Ord m m') (hR : RgC m) (hg : Rg m) (hH : HBm m) : HBm m' := by
  obtain ⟨h1, h2, h3⟩ := hH
  have eR : ∀ r, isR m' r ↔ isR m r := fun r => by unfold isR; rw [h.1.1]
  have eO : ∀ o, isO m' o ↔ isO m o := fun o => by unfold isO; rw [h.1.2]
  refine ⟨fun r a b => ?_, fun o a b => ?_, fun o a b c => ?_⟩
  · have a := (eR r).mp a
    rw [h.2.1 r a] at b ⊢
    have ho : isO m (rb m r 2) := ⟨b, (rgc_r hR a).2.2.1.2⟩
    obtain ⟨q1, q2, _⟩ := h.2.2 _ ho
    rw [q1, q2]
    exact h1 r a b
  · have a := (eO o).mp a
    obtain ⟨q1, q2, _⟩ := h.2.2 _ a
    rw [q1] at b ⊢
    have hb := (hg.2.2.2.2.2.2.2.2.2.2.2.2 o a.1 a.2).2
    rw [h.2.1 _ ⟨b, hb.2⟩]
    exact h2 o a b
  · have a := (eO o).mp a
    obtain ⟨q1, q2, q3⟩ := h.2.2 _ a
    rw [q1] at b
    rw [q2] at c
    rw [q3]
    exact h3 o a b c
theorem geo_u1 (hR : RgC m) (h1 : k ≠ 0 ∧ k ≠ 1 ∧ k ≠ 3) (h2 : k < 8 ∨ 56 ≤ k) (h3 : ∀ r j, 0 ≤ r → r < 6 → 0 ≤ j → j < 36 → (j = 0 ∨ j = 3 ∨ 6 ≤ j) → 104 + 36 * r + j ≠ k) : Geo m (u1 m k v) := by
  have gc := hR.2.2.2.2.2.1
  have g3 := hR.2.2.2.1
  refine ⟨⟨u1_ne (by omega), u1_ne (by omega), u1_ne (by omega)⟩, fun c hc => u1_ne (by have := hc.1; have := hc.2; omega), fun r hr j a b c => u1_ne (h3 r j hr.1 (by have := hr.2; omega) a b c)⟩
theorem ord_u1 (hR : RgC m) (h1 : k ≠ 3 ∧ k ≠ 4) (h2 : ∀ r, 0 ≤ r → r < 6 → 104 + 36 * r + 2 ≠ k) (h3 : k < 320) : Ord m (u1 m k v) := by
  have g3 := hR.2.2.2.1
  refine ⟨⟨u1_ne (by omega), u1_ne (by omega)⟩, fun r hr => u1_ne (h2 r hr.1 (by have := hr.2; omega)), fun o ho => ⟨u1_ne (i := 320 + 8 * o + 3) (by have := ho.1; omega), u1_ne (i := 320 + 8 * o + 4) (by have := ho.1; omega), u1_ne (i := 320 + 8 * o + 2) (by have := ho.1; omega)⟩⟩
theorem tb_u1 (h : TB0 T m) (h1 : k ≠ 2 ∧ k ≠ 3 ∧ k ≠ 4) (h2 : ∀ r, 0 ≤ r → r < m 3 → 104 + 36 * r + 1 ≠ k ∧ 104 + 36 * r + 5 ≠ k) (h3 : ∀ o, 0 ≤ o → o < m 4 → 320 + 8 * o + 4 ≠ k) : TB0 T (u1 m k v) := by
  obtain ⟨q1, q2, q3⟩ := h
  unfold TB0
  rw [u1_ne (show (2 : Int) ≠ k by omega), u1_ne (show (3 : Int) ≠ k by omega), u1_ne (show (4 : Int) ≠ k by omega)]
  refine ⟨q1, fun r a b => ?_, fun o a b => ?_⟩
  · rw [show rb (u1 m k v) r 1 = rb m r 1 from u1_ne (h2 r a b).1, show rb (u1 m k v) r 5 = rb m r 5 from u1_ne (h2 r a b).2]
    exact q2 r a b
  · rw [show ob (u1 m k v) o 4 = ob m o 4 from u1_ne (h3 o a b)]
    exact q3 o a b
theorem sm_u (hS : Sm l m) (h1 : k ≠ 0 ∧ k ≠ 1 ∧ k ≠ 3 ∧ k ≠ 4) (h3 : ∀ r, isR m r → 104 + 36 * r + 3 = k → v = 0) : Sm (u1 l k v) (u1 m k v) := by
  have gen (i : Int) (h : l i = m i) : u1 l k v i = u1 m k v i := by
    by_cases q : i = k
    · rw [q, u1_eq, u1_eq]
    · rw [u1_ne q, u1_ne q]; exact h
  have ec : cs (u1 m k v) = cs m := by unfold cs; rw [u1_ne (by omega), u1_ne (by omega)]
  have e3 : u1 m k v 3 = m 3 := u1_ne (by omega)
  have e4 : u1 m k v 4 = m 4 := u1_ne (by omega)
  refine ⟨fun i a b => gen i (hS.1 i a b), fun c hc => ?_, fun r hr => ?_, fun o ho j a b c => gen _ (hS.2.2.2 o (by unfold isO at ho ⊢; rw [e4] at ho; exact ho) j a b c)⟩
  · have hc : isC m c := by unfold isC at hc ⊢; rw [ec] at hc; exact hc
    exact ⟨gen _ (hS.2.1 c hc).1, gen _ (hS.2.1 c hc).2⟩
  · have hr : isR m r := by unfold isR at hr ⊢; rw [e3] at hr; exact hr
    refine ⟨fun j a b => gen _ ((hS.2.2.1 r hr).1 j a b), fun t a b => gen _ ((hS.2.2.1 r hr).2 t a ?_)⟩
    by_cases q : 104 + 36 * r + 3 = k
    · have : rb (u1 m k v) r 3 = v := by
        show u1 m k v (104 + 36 * r + 3) = v
        rw [q, u1_eq]
      rw [this, h3 r hr q] at b
      omega
    · rw [show rb (u1 m k v) r 3 = rb m r 3 from u1_ne q] at b
      exact b
theorem sm_by (hS : Sm l m) (hR : RgC m) (ho : 0 ≤ o) : Sm l (u1 m (320 + 8 * o + 3) v) := by
  have hg3 := hR.2.2.2.1.2
  have hgc := hR.2.2.2.2.2.1.2
  have ec : cs (u1 m (320 + 8 * o + 3) v) = cs m := by unfold cs; rw [u1_ne (by omega), u1_ne (by omega)]
  have e3 : u1 m (320 + 8 * o + 3) v 3 = m 3 := u1_ne (by omega)
  have e4 : u1 m (320 + 8 * o + 3) v 4 = m 4 := u1_ne (by omega)
  refine ⟨fun i a b => (hS.1 i a b).trans (u1_ne (by omega)).symm, fun c hc => ?_, fun r hr => ?_, fun p hp j a b c => (hS.2.2.2 p (by unfold isO at hp ⊢; rw [e4] at hp; exact hp) j a b c).trans (u1_ne (i := 320 + 8 * p + j) (by omega)).symm⟩
  · have hc : isC m c := by unfold isC at hc ⊢; rw [ec] at hc; exact hc
    have := hc.2
    exact ⟨(hS.2.1 c hc).1.trans (u1_ne (by omega)).symm, (hS.2.1 c hc).2.trans (u1_ne (by omega)).symm⟩
  · have hr : isR m r := by unfold isR at hr ⊢; rw [e3] at hr; exact hr
    have := hr.2
    refine ⟨fun j a b => ((hS.2.2.1 r hr).1 j a b).trans (u1_ne (i := 104 + 36 * r + j) (by omega)).symm, fun t a b => ?_⟩
    rw [show rb (u1 m (320 + 8 * o + 3) v) r 3 = rb m r 3 from u1_ne (i := 104 + 36 * r + 3) (by omega)] at b
    have e := (hS.2.2.1 r hr).2 t a b
    have h3 := (rgc_r hR hr).2.2.2.1
    exact e.trans (u1_ne (i := 104 + 36 * r + (6 + t)) (by omega)).symm
theorem cb_u (h : CB l) (hk : k < 56 ∨ 104 ≤ k ∨ (0 ≤ v ∧ v ≤ 1)) : CB (u1 l k v) := by
  intro j a b
  by_cases q : 56 + j = k
  · rw [q, u1_eq]; omega
  · rw [u1_ne q]; exact h j a b
theorem geo_tr {m2 : Int → Int} (h : Geo m m') (h2 : Geo m' m2) : Geo m m2 := by
  refine ⟨⟨h2.1.1.trans h.1.1, h2.1.2.1.trans h.1.2.1, h2.1.2.2.trans h.1.2.2⟩, fun c hc => (h2.2.1 c ?_).trans (h.2.1 c hc), fun r hr j a b c => (h2.2.2 r ((geo_R h).mpr hr) j a b c).trans (h.2.2 r hr j a b c)⟩
  unfold isC at hc ⊢
  rw [geo_cs h]
  exact hc
theorem rbu_eq : rb (u1 m (104 + 36 * y + k) v) y k = v := u1_eq
theorem rbu_ne {j : Int} (a : 0 ≤ j ∧ j < 36) (b : 0 ≤ k ∧ k < 36) (c : r ≠ y ∨ j ≠ k) : rb (u1 m (104 + 36 * y + k) v) r j = rb m r j := u1_ne (i := 104 + 36 * r + j) (by omega)
theorem obu_eq : ob (u1 m (320 + 8 * y + k) v) y k = v := u1_eq
theorem obu_ne {j : Int} (a : 0 ≤ j ∧ j < 8) (b : 0 ≤ k ∧ k < 8) (c : o ≠ y ∨ j ≠ k) : ob (u1 m (320 + 8 * y + k) v) o j = ob m o j := u1_ne (i := 320 + 8 * o + j) (by omega)
theorem rb_uo {j : Int} (a : 0 ≤ j ∧ j < 36) (b : r < 6) (c : 0 ≤ o) (d : 0 ≤ k) : rb (u1 m (320 + 8 * o + k) v) r j = rb m r j := u1_ne (i := 104 + 36 * r + j) (by omega)
theorem ob_ur {j : Int} (a : 0 ≤ j) (b : y < 6) (c : 0 ≤ o) (d : k < 36) : ob (u1 m (104 + 36 * y + k) v) o j = ob m o j := u1_ne (i := 320 + 8 * o + j) (by omega)
theorem sto_0 (hR : RgC m) (ho : isO m o) (h : sto m o = 0) : ob m o 3 < 0 ∧ ob m o 4 = -1 := by
  have h4 := (rgc_o hR ho).2.2.2.1
  unfold sto at h
  by_cases q : 0 ≤ ob m o 4
  · rw [if_pos q] at h; exact absurd h (by decide)
  · rw [if_neg q] at h
    by_cases q2 : 0 ≤ ob m o 3
    · rw [if_pos q2] at h; exact absurd h (by decide)
    · omega
theorem geo_ur (hR : RgC m) (hr : isR m y) (hk : 0 ≤ k ∧ k < 36) (hn : k ≠ 0 ∧ k ≠ 3 ∧ k < 6) : Geo m (u1 m (104 + 36 * y + k) v) := geo_u1 hR (by have := hr.1; omega) (by have := hr.1; omega) (fun r j a b c d e => by omega)
theorem geo_uo (hR : RgC m) (ho : 0 ≤ o) (hk : 0 ≤ k) : Geo m (u1 m (320 + 8 * o + k) v) := geo_u1 hR (by omega) (by omega) (fun r j a b c d e => by omega)
theorem tb_ur (h : TB0 T m) (hr : isR m y) (hk : 0 ≤ k ∧ k < 36) (hn : k ≠ 1 ∧ k ≠ 5) (hg : m 3 ≤ 6) : TB0 T (u1 m (104 + 36 * y + k) v) := tb_u1 h (by have := hr.1; omega) (fun r a b => by omega) (fun o a b => by have := hr.2; omega)
theorem tb_uo (h : TB0 T m) (ho : 0 ≤ o) (hk : 0 ≤ k ∧ k < 8) (hn : k ≠ 4) (hg : m 3 ≤ 6) : TB0 T (u1 m (320 + 8 * o + k) v) := tb_u1 h (by omega) (fun r a b => by omega) (fun p a b => by omega)
theorem rgc_ou (hR : RgC m) (ho : isO m o) (hk : 0 ≤ k ∧ k < 8) (hO : Of (cs m) (u1 (ob m o) k v)) : RgC (u1 m (320 + 8 * o + k) v) := by
  rw [← oset_u (l := m) (o := o) (v := v) (k := k) hk.1 hk.2]
  exact rgc_oset hR ho hO
theorem rgc_ru (hR : RgC m) (hr : isR m r) (hk : 0 ≤ k ∧ k < 36) (hF : Rf (cs m) (m 4) (u1 (rb m r) k v)) : RgC (u1 m (104 + 36 * r + k) v) := by
  rw [← rset_u (l := m) (r := r) (v := v) (k := k) hk.1 hk.2]
  exact rgc_rset hR hr hF
theorem rg_ou (hR : Rg m) (hT : 0 ≤ m 2) (ho : isO m o) (hk : 0 ≤ k ∧ k < 8) (h3 : k ≠ 3) (hv : -1000000 ≤ v ∧ v ≤ 1000000) (hO : Of (cs m) (u1 (ob m o) k v)) : Rg (u1 m (320 + 8 * o + k) v) := by
  have gO := hR.2.2.2.2.2.2.2.2.2.2.2.2
  refine rg_of (u1_r hR.1 hv) (rgc_ou (rgc_of hR hT) ho hk hO) fun p a b => ?_
  have := ho.1
  rw [u1_ne (by omega)] at b
  rw [obu_ne (by omega) hk (.inr (by omega)), u1_ne (by omega)]
  exact (gO p a b).2
theorem st_asg (h : StR T l m) (hr : isR m y) (ho : isO m z) (h2 : rb m y 2 < 0) (h3 : sto m z = 0) : StR T (u1 l (104 + 36 * y + 2) z) (rAsg m y z) ∧ ob l z 1 - ob l z 2 = ob (rAsg m y z) z 1 := by
  obtain ⟨hS, hI, hC, hB⟩ := h
  obtain ⟨hR, hT, hH, hE, hN⟩ := id hI
  have hc := rgc_of hR hT
  have g3 := hc.2.2.2.1
  have y6 : y < 6 := by have := hr.2; omega
  have h0 := sto_0 hc ho h3
  have G1 : Geo m (u1 m (104 + 36 * y + 2) z) := geo_ur hc hr (by omega) (by omega)
  have R1 : Rg (u1 m (104 + 36 * y + 2) z) := rg_has hR hT hr ⟨by have := ho.1; omega, ho.2⟩
  have T1 : 0 ≤ u1 m (104 + 36 * y + 2) z 2 := by rw [u1_ne (by have := hr.1; omega)]; exact hT
  have e13 : u1 m (104 + 36 * y + 2) z 3 = m 3 := G1.1.2.2
  have e14 : u1 m (104 + 36 * y + 2) z 4 = m 4 := u1_ne (by have := hr.1; omega)
  have ho1 : isO (u1 m (104 + 36 * y + 2) z) z := by unfold isO; rw [e14]; exact ho
  have R2 : Rg (rAsg m y z) := rg_by R1 T1 ho1 (by have := hr.1; have := hr.2; omega)
  have G2 : Geo m (rAsg m y z) := geo_tr G1 (geo_uo (rgc_of R1 T1) ho.1 (by omega))
  have T2 : 0 ≤ rAsg m y z 2 := by
    show 0 ≤ u1 (u1 m (104 + 36 * y + 2) z) (320 + 8 * z + 3) y 2
    rw [u1_ne (by have := ho.1; omega)]; exact T1
  have erb (r j : Int) (a : r < 6) (b : 0 ≤ j ∧ j < 36) (c : r ≠ y ∨ j ≠ 2) : rb (rAsg m y z) r j = rb m r j := (rb_uo b a ho.1 (by omega)).trans (rbu_ne b (by omega) c)
  have erb2 : rb (rAsg m y z) y 2 = z := (rb_uo (by omega) y6 ho.1 (by omega)).trans rbu_eq
  have eob (o j : Int) (a : 0 ≤ o) (b : 0 ≤ j ∧ j < 8) (c : o ≠ z ∨ j ≠ 3) : ob (rAsg m y z) o j = ob m o j := (obu_ne b (by omega) c).trans (ob_ur b.1 y6 a (by omega))
  have eob3 : ob (rAsg m y z) z 3 = y := obu_eq
  have eR (r : Int) : isR (rAsg m y z) r ↔ isR m r := geo_R G2
  have eO (o : Int) : isO (rAsg m y z) o ↔ isO m o := by
    unfold isO
    rw [show rAsg m y z 4 = m 4 from (u1_ne (by have := ho.1; omega)).trans e14]
  have e12 := sm_ob hS ho (i := 1) (by omega) (by omega) (by omega)
  have e22 := sm_ob hS ho (i := 2) (by omega) (by omega) (by omega)
  have hp := hH.2.2 z ho h0.1 (by omega)
  refine ⟨⟨sm_by (sm_u hS (by have := hr.1; omega) (fun r a e => by omega)) (rgc_of R1 T1) ho.1, ⟨R2, T2, ⟨fun r a b => ?_, fun o a b => ?_, fun o a b c => ?_⟩, geo_en G2 hR hT hE (fun r a t b => .inl ?_), geo_nd G2 hc hN⟩, cb_u hC (by have := hr.1; omega), ?_⟩, ?_⟩
  · have a := (eR r).mp a
    have a6 : r < 6 := by have := a.2; omega
    by_cases q : r = y
    · rw [q, erb2]
      exact ⟨eob3, (eob z 4 ho.1 (by omega) (by omega)).trans h0.2⟩
    · rw [erb r 2 a6 (by omega) (.inl q)] at b ⊢
      obtain ⟨h4, h5⟩ := hH.1 r a b
      have hne : rb m r 2 ≠ z := fun e => by rw [e] at h4; have := a.1; omega
      rw [eob _ 3 b (by omega) (.inl hne), eob _ 4 b (by omega) (.inl hne)]
      exact ⟨h4, h5⟩
  · have a := (eO o).mp a
    by_cases q : o = z
    · rw [q, eob3, erb2]
    · rw [eob o 3 a.1 (by omega) (.inl q)] at b ⊢
      have h4 := hH.2.1 o a b
      have hb := (iv_by hI a).2
      have hne : ob m o 3 ≠ y := fun e => by rw [e] at h4; have := a.1; omega
      rw [erb _ 2 (by omega) (by omega) (.inl hne)]
      exact h4
  · have a := (eO o).mp a
    by_cases q : o = z
    · rw [q, eob3] at b; have := hr.1; omega
    · rw [eob o 3 a.1 (by omega) (.inl q)] at b
      rw [eob o 4 a.1 (by omega) (.inl q)] at c
      rw [eob o 2 a.1 (by omega) (.inl q)]
      exact hH.2.2 o a b c
  · have hq := ahd_r hR a b
    have gc := hc.2.2.2.2.2.1
    show u1 (u1 m (104 + 36 * y + 2) z) (320 + 8 * z + 3) y _ = _
    rw [u1_ne (by have := ho.1; omega), u1_ne (by have := hr.1; omega)]
  · exact tb_uo (tb_ur hB hr (by omega) (by omega) g3.2) ho.1 (by omega) (by omega) (by rw [e13]; exact g3.2)
  · rw [e12, e22, eob z 1 ho.1 (by omega) (by omega), hp]
    omega
end PF
