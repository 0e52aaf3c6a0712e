/-! both rows after a change, second: release, close, open, set, cancel -/
section PG
variable {l m m' : Int → Int} {c w r o t a b i x y z ro g fr to T ct k d e v : Int} {n : Nat}
theorem wbe_no (hR : RgC m) (h0 : 0 ≤ t ∧ t ≤ 31) (h : ¬ 0 ≤ wbe m g t ro) : ∀ r, isR m r → r ≠ ro → ∀ t', t ≤ t' → ahd m r t' ≠ g := (wbe_n hR h0).mp (by omega)
theorem st_rel (h : StR T l m) (hr : isR m y) (h2 : ¬ rb m y 2 < 0) : StR T (frl l y) (rRel m y) ∧ rb l y 2 = rb m y 2 := by
  obtain ⟨hS, hI, hC, hB⟩ := h
  obtain ⟨hR, hT, hH, hE, hN⟩ := id hI
  have hc := rgc_of hR hT
  have g3 := hc.2.2.2.1
  have y6 : y < 6 := by have := hr.2; omega
  have q2 := (rgc_r hc hr).2.2.1
  have e2 := sm_rb hS hr (i := 2) (by omega) (by omega)
  refine ⟨?_, e2⟩
  have ho : isO m (rb m y 2) := ⟨by omega, q2.2⟩
  have el : frl l y = u1 (u1 l (104 + 36 * y + 2) (-1)) (320 + 8 * rb m y 2 + 2) 0 := by
    unfold frl
    rw [e2, if_pos ((sm_O hS).mpr ho)]
  rw [el]
  unfold rRel
  generalize hz : rb m y 2 = z at *
  have G1 : Geo m (u1 m (104 + 36 * y + 2) (-1)) := geo_ur hc hr (by omega) (by omega)
  have g4 := hc.2.2.2.2.1
  have R1 : Rg (u1 m (104 + 36 * y + 2) (-1)) := rg_has hR hT hr ⟨by omega, by omega⟩
  have T1 : 0 ≤ u1 m (104 + 36 * y + 2) (-1) 2 := by rw [u1_ne (by have := hr.1; omega)]; exact hT
  have e13 : u1 m (104 + 36 * y + 2) (-1) 3 = m 3 := G1.1.2.2
  have e14 : u1 m (104 + 36 * y + 2) (-1) 4 = m 4 := u1_ne (by have := hr.1; omega)
  have ho1 : isO (u1 m (104 + 36 * y + 2) (-1)) z := by unfold isO; rw [e14]; exact ho
  have R2 : Rg (u1 (u1 m (104 + 36 * y + 2) (-1)) (320 + 8 * z + 3) (-1)) := rg_by R1 T1 ho1 (by rw [e13]; omega)
  have G2 : Geo m (u1 (u1 m (104 + 36 * y + 2) (-1)) (320 + 8 * z + 3) (-1)) := geo_tr G1 (geo_uo (rgc_of R1 T1) ho.1 (by omega))
  have T2 : 0 ≤ u1 (u1 m (104 + 36 * y + 2) (-1)) (320 + 8 * z + 3) (-1) 2 := by rw [u1_ne (by have := ho.1; omega)]; exact T1
  have e24 : u1 (u1 m (104 + 36 * y + 2) (-1)) (320 + 8 * z + 3) (-1) 4 = m 4 := (u1_ne (by have := ho.1; omega)).trans e14
  have ho2 : isO (u1 (u1 m (104 + 36 * y + 2) (-1)) (320 + 8 * z + 3) (-1)) z := by unfold isO; rw [e24]; exact ho
  have hO2 := rgc_o (rgc_of R2 T2) ho2
  have R3 : Rg (u1 (u1 (u1 m (104 + 36 * y + 2) (-1)) (320 + 8 * z + 3) (-1)) (320 + 8 * z + 2) 0) := by
    refine rg_ou R2 T2 ho2 (by omega) (by omega) (by omega) ?_
    obtain ⟨p0, p1, p2, p4, p5, p6⟩ := hO2
    exact ⟨p0, p1, ⟨by rw [u1_eq]; omega, by rw [u1_eq, u1_ne (by omega)]; omega⟩, p4, fun t a b => by rw [u1_ne (by omega)]; exact p5 t a b, fun t a b => by rw [u1_ne (by omega)]; exact p6 t a b⟩
  have G3 : Geo m (u1 (u1 (u1 m (104 + 36 * y + 2) (-1)) (320 + 8 * z + 3) (-1)) (320 + 8 * z + 2) 0) := geo_tr G2 (geo_uo (rgc_of R2 T2) ho.1 (by omega))
  have T3 : 0 ≤ u1 (u1 (u1 m (104 + 36 * y + 2) (-1)) (320 + 8 * z + 3) (-1)) (320 + 8 * z + 2) 0 2 := by rw [u1_ne (by have := ho.1; omega)]; exact T2
  have e34 : u1 (u1 (u1 m (104 + 36 * y + 2) (-1)) (320 + 8 * z + 3) (-1)) (320 + 8 * z + 2) 0 4 = m 4 := (u1_ne (by have := ho.1; omega)).trans e24
  have erb (r j : Int) (a : r < 6) (b : 0 ≤ j ∧ j < 36) (c : r ≠ y ∨ j ≠ 2) : rb (u1 (u1 (u1 m (104 + 36 * y + 2) (-1)) (320 + 8 * z + 3) (-1)) (320 + 8 * z + 2) 0) r j = rb m r j := (rb_uo b a ho.1 (by omega)).trans ((rb_uo b a ho.1 (by omega)).trans (rbu_ne b (by omega) c))
  have erb2 : rb (u1 (u1 (u1 m (104 + 36 * y + 2) (-1)) (320 + 8 * z + 3) (-1)) (320 + 8 * z + 2) 0) y 2 = -1 := (rb_uo (by omega) y6 ho.1 (by omega)).trans ((rb_uo (by omega) y6 ho.1 (by omega)).trans rbu_eq)
  have eob (o j : Int) (a : 0 ≤ o) (b : 0 ≤ j ∧ j < 8) (c : o ≠ z ∨ (j ≠ 3 ∧ j ≠ 2)) : ob (u1 (u1 (u1 m (104 + 36 * y + 2) (-1)) (320 + 8 * z + 3) (-1)) (320 + 8 * z + 2) 0) o j = ob m o j := (obu_ne b (by omega) (by omega)).trans ((obu_ne b (by omega) (by omega)).trans (ob_ur b.1 y6 a (by omega)))
  have eob3 : ob (u1 (u1 (u1 m (104 + 36 * y + 2) (-1)) (320 + 8 * z + 3) (-1)) (320 + 8 * z + 2) 0) z 3 = -1 := (obu_ne (by omega) (by omega) (.inr (by omega))).trans obu_eq
  have eob2 : ob (u1 (u1 (u1 m (104 + 36 * y + 2) (-1)) (320 + 8 * z + 3) (-1)) (320 + 8 * z + 2) 0) z 2 = 0 := obu_eq
  have eR (r : Int) := geo_R (r := r) G3
  have eO (o : Int) : isO (u1 (u1 (u1 m (104 + 36 * y + 2) (-1)) (320 + 8 * z + 3) (-1)) (320 + 8 * z + 2) 0) o ↔ isO m o := by unfold isO; rw [e34]
  have hzy := hH.1 y hr (by rw [hz]; exact ho.1)
  rw [hz] at hzy
  have Scomm : u1 (u1 (u1 m (104 + 36 * y + 2) (-1)) (320 + 8 * z + 3) (-1)) (320 + 8 * z + 2) 0 = u1 (u1 (u1 m (104 + 36 * y + 2) (-1)) (320 + 8 * z + 2) 0) (320 + 8 * z + 3) (-1) := u1_comm (by omega)
  have RC : RgC (u1 (u1 m (104 + 36 * y + 2) (-1)) (320 + 8 * z + 2) 0) := by
    refine rgc_ou (rgc_of R1 T1) ho1 (by omega) ?_
    obtain ⟨p0, p1, p2, p4, p5, p6⟩ := rgc_o (rgc_of R1 T1) ho1
    exact ⟨p0, p1, ⟨by rw [u1_eq]; omega, by rw [u1_eq, u1_ne (by omega)]; omega⟩, p4, fun t a b => by rw [u1_ne (by omega)]; exact p5 t a b, fun t a b => by rw [u1_ne (by omega)]; exact p6 t a b⟩
  refine ⟨?_, ⟨R3, T3, ⟨fun r a b => ?_, fun o a b => ?_, fun o a b c => ?_⟩, geo_en G3 hR hT hE (fun r a t b => .inl ?_), geo_nd G3 hc hN⟩, cb_u (cb_u hC (by have := hr.1; omega)) (by have := ho.1; omega), ?_⟩
  · rw [Scomm]
    exact sm_by (sm_u (sm_u hS (by have := hr.1; omega) (fun r a e => by omega)) (by have := ho.1; omega) (fun r a e => rfl)) RC ho.1
  · have a := (eR r).mp a
    have a6 : r < 6 := by have := a.2; omega
    by_cases q : r = y
    · rw [q, erb2] at b; omega
    · rw [erb r 2 a6 (by omega) (.inl q)] at b ⊢
      obtain ⟨h4, h5⟩ := hH.1 r a b
      have hne : rb m r 2 ≠ z := fun e => by rw [e] at h4; rw [h4] at hzy; exact q hzy.1
      rw [eob _ 3 b (by omega) (.inl hne), eob _ 4 b (by omega) (.inl hne)]
      exact ⟨h4, h5⟩
  · have a := (eO o).mp a
    by_cases q : o = z
    · rw [q, eob3] at b; omega
    · rw [eob o 3 a.1 (by omega) (.inl q)] at b ⊢
      have h4 := hH.2.1 o a b
      have hb := (iv_by hI a).2
      have hne : ob m o 3 ≠ y := fun e => by rw [e, hz] at h4; exact q h4.symm
      rw [erb _ 2 (by omega) (by omega) (.inl hne)]
      exact h4
  · have a := (eO o).mp a
    by_cases q : o = z
    · rw [q, eob2]
    · rw [eob o 3 a.1 (by omega) (.inl q)] at b
      rw [eob o 4 a.1 (by omega) (.inl q)] at c
      rw [eob o 2 a.1 (by omega) (.inl q)]
      exact hH.2.2 o a b c
  · have hq := ahd_r hR a b
    have gc := hc.2.2.2.2.2.1
    rw [u1_ne (by have := ho.1; omega), u1_ne (by have := ho.1; omega), u1_ne (by have := hr.1; omega)]
  · exact tb_uo (tb_uo (tb_ur hB hr (by omega) (by omega) g3.2) ho.1 (by omega) (by omega) (by rw [e13]; exact g3.2)) ho.1 (by omega) (by omega) (by rw [G2.1.2.2]; exact g3.2)
theorem st_cl1 (h : StR T l m) (hc : isC m y) (hv : 0 ≤ v ∧ v ≤ 1) (hw : v = 0 ∨ ∀ r, isR m r → ∀ t, 0 ≤ t → ahd m r t ≠ y) : StR T (u1 l (56 + y) v) (u1 m (56 + y) v) := by
  obtain ⟨hS, hI, hC, hB⟩ := h
  obtain ⟨hR, hT, hH, hE, hN⟩ := id hI
  have hcc := rgc_of hR hT
  have gc := hcc.2.2.2.2.2.1
  have y48 : y < 48 := by have := hc.2; omega
  have y0 := hc.1
  have G : Geo m (u1 m (56 + y) v) := geo_u1 hcc (by omega) (by omega) (fun r j a b c d e => by omega)
  refine ⟨sm_u hS (by omega) (fun r a e => by have := a.1; omega), ⟨rg_u hR (by omega) (by omega) (rgc_cl hcc hc hv), by rw [u1_ne (by omega)]; exact hT, ord_hb (ord_u1 hcc (by omega) (fun r a b => by omega) (by omega)) hcc hR hH, geo_en G hR hT hE (fun r a t b => ?_), geo_nd G hcc hN⟩, cb_u hC (.inr (.inr hv)), tb_u1 hB (by omega) (fun r a b => by omega) (fun o a b => by omega)⟩
  by_cases q : ahd m r t = y
  · rcases hw with e | e
    · right
      rw [q, u1_eq]; exact e
    · exact absurd q (e r a t b)
  · left
    exact u1_ne (by omega)
theorem st_set (h : StR T l m) (hw : 0 ≤ w ∧ w ≤ 2) (hv : 1 ≤ v ∧ v ≤ mst w) : StR T (u1 l (5 + w) v) (u1 m (5 + w) v) := by
  obtain ⟨hS, hI, hC, hB⟩ := h
  obtain ⟨hR, hT, hH, hE, hN⟩ := id hI
  have hcc := rgc_of hR hT
  obtain ⟨g0, g1, g2, g3, g4, gc, g5, g6, g7, gk, gl, gr, go⟩ := id hcc
  have hm : mst w ≤ 30 := by unfold mst; repeat' split
                             all_goals omega
  have G : Geo m (u1 m (5 + w) v) := geo_u1 hcc (by omega) (by omega) (fun r j a b c d e => by omega)
  have ne (i : Int) (a : i < 5 ∨ 8 ≤ i) : u1 m (5 + w) v i = m i := u1_ne (by omega)
  have RC : RgC (u1 m (5 + w) v) := by
    unfold RgC
    rw [geo_cs G, ne 0 (by omega), ne 1 (by omega), ne 2 (by omega), ne 3 (by omega), ne 4 (by omega)]
    refine ⟨g0, g1, g2, g3, g4, gc, ?_, ?_, ?_, fun k a b => by rw [ne _ (by omega)]; exact gk k a b, fun k a b => by rw [ne _ (by omega)]; exact gl k a b, fun r a b => ?_, fun o a b => ?_⟩
    · by_cases q : w = 0
      · rw [q] at hv ⊢; rw [show (5 : Int) + 0 = 5 from rfl, u1_eq]; have : mst 0 = 20 := rfl; omega
      · rw [u1_ne (by omega)]; exact g5
    · by_cases q : w = 1
      · rw [q] at hv ⊢; rw [show (5 : Int) + 1 = 6 from rfl, u1_eq]; have : mst 1 = 3 := rfl; omega
      · rw [u1_ne (by omega)]; exact g6
    · by_cases q : w = 2
      · rw [q] at hv ⊢; rw [show (5 : Int) + 2 = 7 from rfl, u1_eq]; have : mst 2 = 30 := rfl; omega
      · rw [u1_ne (by omega)]; exact g7
    · have er (k : Int) (hk : 0 ≤ k) : rb (u1 m (5 + w) v) r k = rb m r k := ne _ (by omega)
      unfold Rf
      rw [er 0 (by omega), er 1 (by omega), er 2 (by omega), er 3 (by omega), er 4 (by omega), er 5 (by omega)]
      obtain ⟨q0, q1, q2, q3, q4, q5, q6⟩ := gr r a b
      exact ⟨q0, q1, q2, q3, q4, q5, fun t a b => by rw [er _ (by omega)]; exact q6 t a b⟩
    · have er (k : Int) (hk : 0 ≤ k) : ob (u1 m (5 + w) v) o k = ob m o k := ne _ (by omega)
      unfold Of
      rw [er 0 (by omega), er 1 (by omega), er 2 (by omega), er 4 (by omega)]
      obtain ⟨q0, q1, q2, q4, q5, q6⟩ := go o a b
      exact ⟨q0, q1, q2, q4, fun t a b => by rw [er _ (by omega)]; exact q5 t a b, fun t a b => by rw [er _ (by omega)]; exact q6 t a b⟩
  exact ⟨sm_u hS (by omega) (fun r a e => by have := a.1; omega), ⟨rg_u hR (by omega) (by omega) RC, by rw [u1_ne (by omega)]; exact hT, ord_hb (ord_u1 hcc (by omega) (fun r a b => by omega) (by omega)) hcc hR hH, geo_en G hR hT hE (fun r a t b => .inl (by have := ahd_r hR a b; exact u1_ne (by omega))), geo_nd G hcc hN⟩, cb_u hC (by omega), tb_u1 hB (by omega) (fun r a b => by omega) (fun o a b => by omega)⟩
theorem st_can (h : StR T l m) (hr : isR m y) (hw : ∀ r, isR m r → r ≠ y → ∀ t, 1 ≤ t → ahd m r t ≠ rb m y 0) : StR T (u1 l (104 + 36 * y + 3) 0) (u1 m (104 + 36 * y + 3) 0) := by
  obtain ⟨hS, hI, hC, hB⟩ := h
  obtain ⟨hR, hT, hH, hE, hN⟩ := id hI
  have hcc := rgc_of hR hT
  have g3 := hcc.2.2.2.1
  have gc := hcc.2.2.2.2.2.1
  have y0 := hr.1
  have y6 : y < 6 := by have := hr.2; omega
  have ne (i : Int) (a : i ≠ 104 + 36 * y + 3) : u1 m (104 + 36 * y + 3) 0 i = m i := u1_ne a
  have RC : RgC (u1 m (104 + 36 * y + 3) 0) := by
    refine rgc_ru hcc hr (by omega) ?_
    obtain ⟨q0, q1, q2, q3, q4, q5, q6⟩ := rgc_r hcc hr
    exact ⟨q0, q1, q2, ⟨by show (0 : Int) ≤ 0; omega, by show (0 : Int) ≤ 30; omega⟩, q4, q5, fun t a b => by
      have b : t < (0 : Int) := b
      omega⟩
  have ea (r t : Int) (a : isR m r) (b : r ≠ y) (c : 0 ≤ t) : ahd (u1 m (104 + 36 * y + 3) 0) r t = ahd m r t := by
    have e : rb (u1 m (104 + 36 * y + 3) 0) r 0 = rb m r 0 ∧ rb (u1 m (104 + 36 * y + 3) 0) r 3 = rb m r 3 := ⟨rbu_ne (by omega) (by omega) (.inl b), rbu_ne (by omega) (by omega) (.inl b)⟩
    have h3 := (rgc_r hcc a).2.2.2.1
    unfold ahd ahf
    rw [e.1, e.2]
    by_cases q : t = 0 ∨ rb m r 3 = 0
    · rw [if_pos q, if_pos q]
    · rw [if_neg q, if_neg q]
      exact rbu_ne (by split <;> omega) (by omega) (.inl b)
  have ey (t : Int) : ahd (u1 m (104 + 36 * y + 3) 0) y t = rb m y 0 := by
    unfold ahd ahf
    rw [if_pos (.inr rbu_eq)]
    exact rbu_ne (by omega) (by omega) (.inr (by omega))
  have e3 : u1 m (104 + 36 * y + 3) 0 3 = m 3 := ne 3 (by omega)
  have eR (r : Int) : isR (u1 m (104 + 36 * y + 3) 0) r ↔ isR m r := by unfold isR; rw [e3]
  have key (r t : Int) (a : isR m r) (b : r ≠ y) (c : 0 ≤ t) : ahd m r t ≠ rb m y 0 := by
    by_cases q : t = 0
    · have := hN r y a hr b 0 (Int.le_refl 0)
      rw [ahd_0 (r := y)] at this
      rw [q]; exact this
    · exact hw r a b t (by omega)
  have een (c : Int) (hc : isC m c) : ent (u1 m (104 + 36 * y + 3) 0) c ↔ ent m c := by
    have := hc.1; have := hc.2
    unfold ent
    rw [ne (8 + c) (by omega), ne (56 + c) (by omega)]
  refine ⟨sm_u hS (by omega) (fun r a e => rfl), ⟨rg_u hR (by omega) (by omega) RC, by rw [ne 2 (by omega)]; exact hT, ord_hb (ord_u1 hcc (by omega) (fun r a b => by omega) (by omega)) hcc hR hH, fun r a t b => ?_, fun r r' a a' b t c => ?_⟩, cb_u hC (by omega), tb_ur hB hr (by omega) (by omega) g3.2⟩
  · have a := (eR r).mp a
    by_cases q : r = y
    · rw [q, ey, een _ (rgc_r hcc hr).1]
      have := hE y hr 0 (Int.le_refl 0)
      rw [ahd_0] at this
      exact this
    · rw [ea r t a q b, een _ (ahd_r hR a b)]
      exact hE r a t b
  · have a := (eR r).mp a
    have a' := (eR r').mp a'
    by_cases q : r = y
    · rw [q, ey, ea r' t a' (fun e => b (q.trans e.symm)) c]
      exact (key r' t a' (fun e => b (q.trans e.symm)) c).symm
    · by_cases q' : r' = y
      · rw [q', ey, ea r t a q c]
        exact key r t a q c
      · rw [ea r t a q c, ea r' t a' q' c]
        exact hN r r' a a' b t c
end PG
