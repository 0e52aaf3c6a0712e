/-! both rows after a change, fifth: a plan -/
section PJ
variable {l m m' W x PP : Int → Int} {c w r o t a b i y z ro g fr to T ct k d e v : Int} {n : Nat}
theorem sm_gob (hS : Sm l m) (hR : RgC m) : ∀ (n : Nat) (c : Int), isC m c → (n : Int) ≤ T → (gob l ro g T n c ↔ gob m ro g T n c)
  | 0, _, _, _ => Iff.rfl
  | n + 1, c, hc, hn => by
    have key (w : Int) (h : 0 ≤ bes m c w) : isC m (bes m c w) := ⟨h, by have := besC_r (w := w) hR hc; omega⟩
    show (∃ w, (0 ≤ w ∧ w ≤ 4) ∧ 0 ≤ bes l c w ∧ mgo l ro c (bes l c w) (T - n - 1) ∧ gob l ro g T n (bes l c w)) ↔ (∃ w, (0 ≤ w ∧ w ≤ 4) ∧ 0 ≤ bes m c w ∧ mgo m ro c (bes m c w) (T - n - 1) ∧ gob m ro g T n (bes m c w))
    constructor
    · rintro ⟨w, h1, h2, h3, h4⟩
      rw [sm_bes hS] at h2 h3 h4
      exact ⟨w, h1, h2, (sm_mgo hS hR (key w h2) (by omega)).mp h3, (sm_gob hS hR n _ (key w h2) (by omega)).mp h4⟩
    · rintro ⟨w, h1, h2, h3, h4⟩
      refine ⟨w, h1, ?_, ?_, ?_⟩
      · rw [sm_bes hS]; exact h2
      · rw [sm_bes hS]; exact (sm_mgo hS hR (key w h2) (by omega)).mpr h3
      · rw [sm_bes hS]; exact (sm_gob hS hR n _ (key w h2) (by omega)).mpr h4
theorem rea_s (hR : RgC m) (hr : isR m ro) (h : rea m ro n c) (hw : 0 ≤ w ∧ w ≤ 4) (h0 : 0 ≤ bes m c w) (hm : mgo m ro c (bes m c w) n) : rea m ro (n + 1) (bes m c w) := by
  have hc := rea_c hR hr h
  have hb := besC_r (w := w) hR hc
  obtain ⟨u, hu, eu⟩ := bes_sym hR hc (w := w) hw rfl h0
  exact ⟨⟨h0, by omega⟩, u, hu, by rw [eu]; exact hc.1, by rw [eu]; exact h, by rw [eu]; exact hm⟩
theorem gos_gob : ∀ (n : Nat) (c : Int), gos m ro g T n c → gob m ro g T n c
  | 0, _, h => h
  | n + 1, c, h => by
    obtain ⟨_, ⟨w, h1, h2, h3, h4⟩, _⟩ := h
    exact ⟨w, h1, h2, h3, gos_gob n _ h4⟩
theorem gob_gos (hR : RgC m) (hr : isR m ro) (hno : ¬ rea m ro (T - 1).toNat g) : ∀ (n : Nat) (c t : Int), 0 ≤ t → T - t = n → rea m ro t.toNat c → gob m ro g T n c → gos m ro g T n c
  | 0, _, _, _, _, _, h => h
  | n + 1, c, t, ht, hn, hc, h => by
    obtain ⟨w, h1, h2, h3, h4⟩ := h
    rw [show T - (n : Int) - 1 = t by omega] at h3
    have hm : mgo m ro c (bes m c w) (t.toNat : Nat) := by rw [Int.toNat_of_nonneg ht]; exact h3
    have hs := rea_s hR hr hc h1 h2 hm
    rw [show t.toNat + 1 = (t + 1).toNat by omega] at hs
    refine ⟨rea_c hR hr hc, ⟨w, h1, h2, by rw [show T - (n : Int) - 1 = t by omega]; exact h3, gob_gos hR hr hno n _ (t + 1) (by omega) (by omega) hs h4⟩, fun z => ?_⟩
    rw [z.2, show t = T - 1 by omega] at hc
    exact hno hc
/-- the class's way is the reference's -/
theorem grd_x (hS : Sm l m) (hR : RgC m) (hr : isR m ro) (hT : 1 ≤ T ∧ T ≤ 30) (hno : ¬ rea m ro (T - 1).toNat g) (h : Grd l ro g T x) : ∀ n : Nat, (n : Int) ≤ T → x n = gpx m ro g T n ∧ rea m ro n (x n) ∧ (1 ≤ n → mgo m ro (x (n - 1)) (x n) (n - 1) ∧ gob m ro g T (T - n).toNat (x n)) := by
  intro n
  induction n with
  | zero =>
    intro _
    have e : x ((0 : Nat) : Int) = rb m ro 0 := h.1.trans (sm_rb hS hr (by omega) (by omega))
    exact ⟨e, e, fun z => absurd z (by decide)⟩
  | succ n ih =>
    intro hn
    obtain ⟨i1, i2, i3⟩ := ih (by omega)
    have hc := rea_c hR hr i2
    obtain ⟨w, h1, ⟨h2, h3⟩, ⟨h4, h5⟩, h6⟩ := h.2 n (by omega) (by omega)
    have e1 : x ((n + 1 : Nat) : Int) = x ((n : Int) + 1) := by congr 1
    rw [sm_bes hS] at h2
    have hb := besC_r (w := w) hR hc
    have hcn : isC m (x ((n : Int) + 1)) := ⟨h3, by rw [← h2] at h3 ⊢; omega⟩
    have h4 := (sm_mgo hS hR hcn (by omega)).mp h4
    have h5 := (sm_gob hS hR _ _ hcn (by omega)).mp h5
    have h7 : rea m ro (n + 1) (bes m (x n) w) := rea_s hR hr i2 h1 (by rw [h2]; exact h3) (by rw [h2]; exact h4)
    have h8 : gos m ro g T (T - n - 1).toNat (bes m (x n) w) := gob_gos hR hr hno _ _ ((n : Int) + 1) (by omega) (by omega) (by rw [show ((n : Int) + 1).toNat = n + 1 by omega]; exact h7) (by rw [h2]; exact h5)
    have hp : gosE m ro g T n (x n) w := ⟨by rw [h2]; exact h3, h8, by rw [h2]; exact h4⟩
    have hnx : gpx m ro g T ((n : Int) + 1).toNat = bes m (x n) w := by
      refine gpx_s (by omega) (by rw [Int.toNat_natCast]; exact i1.symm) h1 hp fun u a b q => ?_
      refine h6 u a b ?_
      have hbu := besC_r (w := u) hR hc
      have hcu : isC m (bes m (x n) u) := ⟨q.1, by have := q.1; omega⟩
      rw [sm_bes hS]
      exact ⟨q.1, (sm_mgo hS hR hcu (by omega)).mpr q.2.2, (sm_gob hS hR _ _ hcu (by omega)).mpr (gos_gob _ _ q.2.1)⟩
    rw [e1]
    refine ⟨?_, ?_, fun _ => ?_⟩
    · rw [← h2, ← hnx, show ((n : Int) + 1).toNat = n + 1 by omega]
    · rw [← h2]; exact h7
    · refine ⟨?_, ?_⟩
      · rw [show ((n + 1 : Nat) : Int) - 1 = n by omega]; exact h4
      · rw [show T - ((n + 1 : Nat) : Int) = T - n - 1 by omega]; exact h5
theorem mvc_cg {f f' : Int → Int} : ∀ (n : Nat) (i b a : Int), (∀ t, i ≤ t → t < i + n → f t = f' t) → mvc f n i b a = mvc f' n i b a
  | 0, _, _, _, _ => rfl
  | n + 1, i, b, a, h => by
    show mvc f n (i + 1) (f i) (if f i = b then a else a + 1) = mvc f' n (i + 1) (f' i) (if f' i = b then a else a + 1)
    rw [h i (by omega) (by omega)]
    exact mvc_cg n (i + 1) _ _ fun t c d => h t (by omega) (by omega)
theorem stp_wt (hS : Sm l m) (h : Iv m) (hr : isR m r) : stp l r = wtM m r := by
  rw [sm_stp hS (iv_c h) hr]
  unfold stp wtM
  by_cases q : ldd m r
  · rw [if_pos q, if_pos ((iv_ldd h hr).mpr q)]
  · rw [if_neg q, if_neg (fun z => q ((iv_ldd h hr).mp z))]
/-- what is known of the plan that both find -/
theorem pln_x (hS : Sm l m) (h : Iv m) (hr : isR m ro) (hg : isC m g) (hne : rb m ro 0 ≠ g) (hf : ¬ fT m ro g = -1) (hG : Grd l ro g (fT m ro g) (fun t => if t = 0 then rb l ro 0 else PP (t - 1))) : (∀ t, 0 ≤ t → t < fT m ro g → PP t = gpP m ro g (fT m ro g) t ∧ isC m (gpP m ro g (fT m ro g) t) ∧ mgo m ro (gpx m ro g (fT m ro g) t.toNat) (gpP m ro g (fT m ro g) t) t) ∧ gpP m ro g (fT m ro g) (fT m ro g - 1) = g := by
  have hR := iv_c h
  obtain ⟨h1, h2, h3⟩ := fT_p hR hf
  have hno := no_rest hR hr hne h1 h2 h3
  generalize fT m ro g = T at *
  have hx := grd_x hS hR hr h1 hno hG
  constructor
  · intro t a b
    obtain ⟨e1, e2, e3⟩ := hx (t + 1).toNat (by omega)
    obtain ⟨f1, _, _⟩ := hx t.toNat (by omega)
    have e3 := (e3 (by omega)).1
    have et : ((t + 1).toNat : Int) = t + 1 := Int.toNat_of_nonneg (by omega)
    have et2 : (t.toNat : Int) = t := Int.toNat_of_nonneg a
    rw [et] at e1 e2 e3
    rw [et2] at f1
    have ep : (if t + 1 = 0 then rb l ro 0 else PP (t + 1 - 1)) = PP t := by rw [if_neg (by omega), show t + 1 - 1 = t by omega]
    have e1 : (if t + 1 = 0 then rb l ro 0 else PP (t + 1 - 1)) = gpx m ro g T (t + 1).toNat := e1
    rw [ep] at e1
    have e2 : rea m ro (t + 1).toNat (if t + 1 = 0 then rb l ro 0 else PP (t + 1 - 1)) := e2
    rw [ep] at e2
    have e3 : mgo m ro (if t + 1 - 1 = 0 then rb l ro 0 else PP (t + 1 - 1 - 1)) (if t + 1 = 0 then rb l ro 0 else PP (t + 1 - 1)) (t + 1 - 1) := e3
    rw [ep, show t + 1 - 1 = t by omega] at e3
    have f1 : (if t = 0 then rb l ro 0 else PP (t - 1)) = gpx m ro g T t.toNat := f1
    rw [f1, e1] at e3
    rw [e1] at e2
    exact ⟨e1, rea_c hR hr e2, e3⟩
  · obtain ⟨e1, e2, e3⟩ := hx T.toNat (by omega)
    have e3 := (e3 (by omega)).2
    have et : (T.toNat : Int) = T := Int.toNat_of_nonneg (by omega)
    rw [et, show (T - T).toNat = 0 by omega] at e3
    rw [et] at e1
    have e3 : (if T = 0 then rb l ro 0 else PP (T - 1)) = g := e3
    have e1 : (if T = 0 then rb l ro 0 else PP (T - 1)) = gpx m ro g T T.toNat := e1
    unfold gpP
    rw [show (T - 1 + 1).toNat = T.toNat by omega, ← e1]
    exact e3
theorem rf_pln (hS : Sm l m) (h : Iv m) (hG : (rfGoa l y z).1 = 0 → ¬ fT l y z = -1 → Grd l y z (fT l y z) (fun t => if t = 0 then rb l y 0 else PP (t - 1))) : rfPln l y z PP = mPln m y z := by
  have hR := iv_c h
  by_cases hc : isR m y ∧ isC m z
  · have l1 : ¬ (¬ isR l y ∨ ¬ isC l z) := by
      rw [sm_R hS, sm_C hS]
      rintro (q | q)
      · exact q hc.1
      · exact q hc.2
    have e3 := sm_rb hS hc.1 (i := 3) (by omega) (by omega)
    have e0 := sm_rb hS hc.1 (i := 0) (by omega) (by omega)
    have e1 := sm_rb hS hc.1 (i := 1) (by omega) (by omega)
    by_cases h3 : 0 < rb m y 3
    · have g1 : rfGoa l y z = (6, rb m y 3) := by
        rw [← e3] at h3 ⊢
        exact Eq.trans (if_neg l1) (if_pos h3)
      have p1 : rfPln l y z PP = rfGoa l y z := if_pos (by rw [g1]; exact (by decide : ¬ (6 : Int) = 0))
      have m1 : mPln m y z = (6, rb m y 3) := Eq.trans (if_neg (fun q => q hc)) (if_pos h3)
      rw [p1, g1, m1]
    · by_cases h0 : rb m y 0 = z
      · have g1 : rfGoa l y z = (9, 0) := Eq.trans (if_neg l1) (Eq.trans (if_neg (by rw [e3]; exact h3)) (if_pos (by rw [e0]; exact h0)))
        have p1 : rfPln l y z PP = rfGoa l y z := if_pos (by rw [g1]; exact (by decide : ¬ (9 : Int) = 0))
        have m1 : mPln m y z = (9, 0) := Eq.trans (if_neg (fun q => q hc)) (Eq.trans (if_neg h3) (if_pos h0))
        rw [p1, g1, m1]
      · by_cases h4 : ent m z
        · have g1 : rfGoa l y z = (0, 0) := Eq.trans (if_neg l1) (Eq.trans (if_neg (by rw [e3]; exact h3)) (Eq.trans (if_neg (by rw [e0]; exact h0)) (if_neg (fun q => q ((sm_ent hS hc.2).mpr h4)))))
          have p1 : rfPln l y z PP = rfFnd l y (fT l y z) PP := if_neg (by rw [g1]; exact (by decide : ¬ ¬ (0 : Int) = 0))
          have hG := hG (by rw [g1])
          rw [sm_fT hS hR hc.1] at hG p1
          have hfw := fT_fw hR hc.1 hc.2 h0
          have hr := @fnd_r (cnL m y z) (m 7).toNat 1
          have hr : fwM m y z = -1 ∨ (1 ≤ fwM m y z ∧ fwM m y z < 1 + ((m 7).toNat : Int)) := hr
          by_cases h5 : fT m y z = -1
          · have m1 : mPln m y z = (10, 0) := Eq.trans (if_neg (fun q => q hc)) (Eq.trans (if_neg h3) (Eq.trans (if_neg h0) (Eq.trans (if_neg (fun q => q h4)) (if_pos (by omega)))))
            have p2 : rfFnd l y (fT m y z) PP = (10, 0) := if_pos h5
            rw [p1, p2, m1]
          · have hx := pln_x hS h hc.1 hc.2 h0 h5 (hG h5)
            have em : mvc PP (fT m y z).toNat 0 (rb l y 0) 0 = mvM m y z (fT m y z) := by
              rw [e0]
              exact mvc_cg _ _ _ _ fun t a b => (hx.1 t a (by omega)).1
            have m1 : mPln m y z = if rb m y 1 < wtM m y * mvM m y z (fwM m y z) then (11, wtM m y * mvM m y z (fwM m y z)) else (0, 0) := Eq.trans (if_neg (fun q => q hc)) (Eq.trans (if_neg h3) (Eq.trans (if_neg h0) (Eq.trans (if_neg (fun q => q h4)) (if_neg (by omega)))))
            have p2 : rfFnd l y (fT m y z) PP = if rb l y 1 < mvc PP (fT m y z).toNat 0 (rb l y 0) 0 * stp l y then (11, mvc PP (fT m y z).toNat 0 (rb l y 0) 0 * stp l y) else (0, 0) := if_neg h5
            rw [p1, p2, m1, em, stp_wt hS h hc.1, e1, ← hfw, Int.mul_comm]
        · have g1 : rfGoa l y z = (4, z) := Eq.trans (if_neg l1) (Eq.trans (if_neg (by rw [e3]; exact h3)) (Eq.trans (if_neg (by rw [e0]; exact h0)) (if_pos (fun q => h4 ((sm_ent hS hc.2).mp q)))))
          have p1 : rfPln l y z PP = rfGoa l y z := if_pos (by rw [g1]; exact (by decide : ¬ (4 : Int) = 0))
          have m1 : mPln m y z = (4, z) := Eq.trans (if_neg (fun q => q hc)) (Eq.trans (if_neg h3) (Eq.trans (if_neg h0) (if_pos h4)))
          rw [p1, g1, m1]
  · have l1 : ¬ isR l y ∨ ¬ isC l z := by
      rw [sm_R hS, sm_C hS]
      by_cases q : isR m y
      · exact .inr (fun z => hc ⟨q, z⟩)
      · exact .inl q
    have g1 : rfGoa l y z = (1, 0) := if_pos l1
    have p1 : rfPln l y z PP = rfGoa l y z := if_pos (by rw [g1]; exact (by decide : ¬ (1 : Int) = 0))
    have m1 : mPln m y z = (1, 0) := if_pos hc
    rw [p1, g1, m1]
theorem st_pln (h : StR T l m) (hy : isR m y) (hg : isC m g) (h3 : rb m y 3 = 0) (h0 : rb m y 0 ≠ g) (hf : ¬ fT m y g = -1) (hG : Grd l y g (fT m y g) (fun t => if t = 0 then rb l y 0 else PP (t - 1))) : StR T (rset l y (fol (rb l y) PP (fT l y g) (stp l y))) (rPln m y g) ∧ fT l y g = fwM m y g := by
  obtain ⟨hS, hI, hC, hB⟩ := h
  obtain ⟨hR, hT, hH, hE, hN⟩ := id hI
  have hcc := rgc_of hR hT
  obtain ⟨g0, g1, g2, g3, g4, gc, g5, g6, g7, gk, gl, gr, go⟩ := id hcc
  have hr := hR.1
  have gO := hR.2.2.2.2.2.2.2.2.2.2.2.2
  have hfw := fT_fw hcc hy hg h0
  have ef := sm_fT (g := g) hS hcc hy
  refine ⟨?_, ef.trans hfw⟩
  obtain ⟨hx1, hx2⟩ := pln_x hS hI hy hg h0 hf hG
  obtain ⟨p1, p2, p3⟩ := fT_p hcc hf
  have hst := stp_wt hS hI hy
  have hwt : 1 ≤ wtM m y ∧ wtM m y ≤ 3 := by
    unfold wtM
    split <;> omega
  have y0 := hy.1
  have y6 : y < 6 := by have := hy.2; omega
  rw [ef, hst]
  unfold rPln
  rw [← hfw]
  generalize hD : fT m y g = D at *
  generalize hm' : cpI (gpP m y g D) (u1 (u1 m (104 + 36 * y + 3) D) (104 + 36 * y + 4) (wtM m y)) 0 (104 + 36 * y + 6) D = M'
  have mo (i : Int) (a : i < 104 + 36 * y ∨ 140 + 36 * y ≤ i) : M' i = m i := by
    rw [← hm']
    unfold cpI
    rw [if_neg (by omega), u1_ne (by omega), u1_ne (by omega)]
  have my (j : Int) (a : 0 ≤ j) (b : j < 36) : rb M' y j = if j = 3 then D else if j = 4 then wtM m y else if 6 ≤ j ∧ j < 6 + D then gpP m y g D (j - 6) else rb m y j := by
    show M' (104 + 36 * y + j) = _
    rw [← hm']
    unfold cpI
    by_cases q : 6 ≤ j ∧ j < 6 + D
    · rw [if_pos (by omega), if_neg (by omega), if_neg (by omega), if_pos q]
      congr 1
      omega
    · rw [if_neg (by omega)]
      by_cases q4 : j = 4
      · rw [q4, u1_eq, if_neg (by omega), if_pos rfl]
      · rw [u1_ne (by omega)]
        by_cases q3 : j = 3
        · rw [q3, u1_eq, if_pos rfl]
        · rw [u1_ne (by omega), if_neg q3, if_neg q4, if_neg q]
          rfl
  have mr (r j : Int) (a : 0 ≤ r) (b : r < 6) (c : r ≠ y) (d : 0 ≤ j) (e : j < 36) : rb M' r j = rb m r j := mo (104 + 36 * r + j) (by omega)
  have mob (o k : Int) (a : 0 ≤ o) (b : 0 ≤ k) : ob M' o k = ob m o k := mo (320 + 8 * o + k) (by omega)
  have mcs : cs M' = cs m := by unfold cs; rw [mo 0 (by omega), mo 1 (by omega)]
  have m3 : M' 3 = m 3 := mo 3 (by omega)
  have m4 : M' 4 = m 4 := mo 4 (by omega)
  have eR (r : Int) : isR M' r ↔ isR m r := by unfold isR; rw [m3]
  have eO (o : Int) : isO M' o ↔ isO m o := by unfold isO; rw [m4]
  have een (c : Int) (hc : isC m c) : ent M' c ↔ ent m c := ent_cg (mo _ (by have := hc.1; have := hc.2; omega)) (mo _ (by have := hc.1; have := hc.2; omega))
  have ea (r t : Int) (a : isR m r) (b : r ≠ y) (c : 0 ≤ t) : ahd M' r t = ahd m r t := by
    have := a.2
    exact ahd_cg hcc a c fun j d e _ => mr r j a.1 (by omega) b d e
  have ey0 : ahd M' y 0 = rb m y 0 := by
    rw [ahd_0, my 0 (by omega) (by omega), if_neg (by omega), if_neg (by omega), if_neg (by omega)]
  have ey (t : Int) (a : 1 ≤ t) : ahd M' y t = gpP m y g D ((if t > D then D else t) - 1) := by
    unfold ahd ahf
    have e3 : rb M' y 3 = D := by rw [my 3 (by omega) (by omega), if_pos rfl]
    rw [e3, if_neg (by omega), my _ (by split <;> omega) (by split <;> omega), if_neg (by split <;> omega), if_neg (by split <;> omega), if_pos (by split <;> omega)]
    congr 1
    omega
  have RC : RgC M' := by
    unfold RgC
    rw [mcs, mo 0 (by omega), mo 1 (by omega), mo 2 (by omega), m3, m4, mo 5 (by omega), mo 6 (by omega), mo 7 (by omega)]
    refine ⟨g0, g1, g2, g3, g4, gc, g5, g6, g7, fun k a b => by rw [mo _ (by omega)]; exact gk k a b, fun k a b => by rw [mo _ (by omega)]; exact gl k a b, fun r a b => ?_, fun o a b => of_cg (go o a b) fun j c d _ => mob o j a c⟩
    by_cases q : r = y
    · rw [q]
      obtain ⟨q0, q1, q2, q3, q4, q5, q6⟩ := gr y y0 hy.2
      unfold Rf
      rw [my 0 (by omega) (by omega), my 1 (by omega) (by omega), my 2 (by omega) (by omega), my 3 (by omega) (by omega), my 4 (by omega) (by omega), my 5 (by omega) (by omega), if_neg (by omega), if_neg (by omega), if_neg (by omega), if_neg (by omega), if_neg (by omega), if_neg (by omega), if_neg (by omega), if_neg (by omega), if_neg (by omega), if_pos rfl, if_neg (by omega), if_pos rfl, if_neg (by omega), if_neg (by omega), if_neg (by omega)]
      refine ⟨q0, q1, q2, by omega, by omega, q5, fun t a b => ?_⟩
      rw [my (6 + t) (by omega) (by omega), if_neg (by omega), if_neg (by omega), if_pos (by omega), show 6 + t - 6 = t by omega]
      exact (hx1 t a b).2.1
    · exact rf_cg (gr r a b) fun j c d => mr r j a (by omega) q c d
  have RR : Rg M' := by
    refine rg_of (fun i => ?_) RC fun o a b => ?_
    · by_cases q : i < 104 + 36 * y ∨ 140 + 36 * y ≤ i
      · rw [mo i q]; exact hr i
      · have e := my (i - (104 + 36 * y)) (by omega) (by omega)
        have e2 : rb M' y (i - (104 + 36 * y)) = M' i := by
          show M' (104 + 36 * y + (i - (104 + 36 * y))) = _
          rw [show 104 + 36 * y + (i - (104 + 36 * y)) = i by omega]
        rw [← e2, e]
        have hj := hr (104 + 36 * y + (i - (104 + 36 * y)))
        by_cases u : 6 ≤ i - (104 + 36 * y) ∧ i - (104 + 36 * y) < 6 + D
        · have := (hx1 (i - (104 + 36 * y) - 6) (by omega) (by omega)).2.1
          rw [if_neg (by omega), if_neg (by omega), if_pos u]
          omega
        · have hj : -1000000 ≤ rb m y (i - (104 + 36 * y)) ∧ rb m y (i - (104 + 36 * y)) ≤ 1000000 := hj
          rw [if_neg u]
          split
          · omega
          · split <;> omega
    · rw [m4] at b
      rw [mob o 3 a (by omega), m3]
      exact (gO o a b).2
  have hgl : ∀ r, isR m r → r ≠ y → ∀ t', D ≤ t' → ahd m r t' ≠ g := (gtu_lt hcc p1).mp p2.2
  have key (r t : Int) (a : isR m r) (b : r ≠ y) (c : 1 ≤ t) : ahd m r t ≠ gpP m y g D ((if t > D then D else t) - 1) := by
    by_cases q : t > D
    · rw [if_pos q, hx2]
      exact hgl r a b t (by omega)
    · rw [if_neg q]
      rcases (hx1 (t - 1) (by omega) (by omega)).2.2.2 r a.1 a.2 with u | u
      · exact absurd u b
      · have := u.1
        rw [show t - 1 + 1 = t by omega] at this
        exact this
  have key0 (r t : Int) (a : isR m r) (b : r ≠ y) (c : 0 ≤ t) : ahd m r t ≠ ahd M' y t := by
    by_cases q : t = 0
    · rw [q, ey0]
      have := hN r y a hy b 0 (Int.le_refl 0)
      rw [ahd_0 (r := y)] at this
      exact this
    · rw [ey t (by omega)]
      exact key r t a b (by omega)
  refine ⟨⟨fun i a b => ?_, fun c hc => ?_, fun r hr => ?_, fun o ho k a b c => ?_⟩, ⟨RR, by rw [mo 2 (by omega)]; exact hT, ord_hb ⟨⟨m3, m4⟩, fun r hr => ?_, fun o ho => ⟨mob o 3 ho.1 (by omega), mob o 4 ho.1 (by omega), mob o 2 ho.1 (by omega)⟩⟩ hcc hR hH, fun r a t b => ?_, fun r r' a a' b t c => ?_⟩, fun k a b => ?_, ⟨by rw [mo 2 (by omega)]; exact hB.1, fun r a b => ?_, fun o a b => ?_⟩⟩
  · rw [rset_o (by omega), mo i (by omega)]; exact hS.1 i a b
  · have hc : isC m c := by unfold isC at hc ⊢; rw [mcs] at hc; exact hc
    have := hc.1; have := hc.2
    rw [rset_o (by omega), mo _ (by omega), rset_o (by omega), mo _ (by omega)]
    exact hS.2.1 c hc
  · have hr := (eR r).mp hr
    by_cases q : r = y
    · rw [q]
      refine ⟨fun j a b => ?_, fun t a b => ?_⟩
      · rw [rset_eq a (by omega), my j a (by omega)]
        unfold fol
        rw [if_neg (show ¬ (6 ≤ j ∧ j < 6 + D) by omega), if_neg (show ¬ (6 ≤ j ∧ j < 6 + D) by omega), (hS.2.2.1 y hy).1 j a b]
      · rw [my 3 (by omega) (by omega), if_pos rfl] at b
        rw [rset_eq (by omega) (by omega), my (6 + t) (by omega) (by omega), if_neg (by omega), if_neg (by omega), if_pos (by omega)]
        unfold fol
        rw [if_neg (by omega), if_neg (by omega), if_pos (by omega), show 6 + t - 6 = t by omega]
        exact (hx1 t a b).1
    · have r6 : r < 6 := by have := hr.2; omega
      refine ⟨fun j a b => ?_, fun t a b => ?_⟩
      · rw [rset_ne a (by omega) q, mr r j hr.1 r6 q a (by omega)]
        exact (hS.2.2.1 r hr).1 j a b
      · rw [mr r 3 hr.1 r6 q (by omega) (by omega)] at b
        have h3 := (rgc_r hcc hr).2.2.2.1
        rw [rset_ne (by omega) (by omega) q, mr r (6 + t) hr.1 r6 q (by omega) (by omega)]
        exact (hS.2.2.1 r hr).2 t a b
  · have ho := (eO o).mp ho
    have := ho.1
    rw [mob o k ho.1 a]
    have e : ob (rset l y (fol (rb l y) PP D (wtM m y))) o k = ob l o k := rset_o (k := 320 + 8 * o + k) (by omega)
    rw [e]
    exact hS.2.2.2 o ho k a b c
  · by_cases q : r = y
    · rw [q, my 2 (by omega) (by omega), if_neg (by omega), if_neg (by omega), if_neg (by omega)]
    · exact mr r 2 hr.1 (by have := hr.2; omega) q (by omega) (by omega)
  · have a := (eR r).mp a
    by_cases q : r = y
    · rw [q]
      by_cases u : t = 0
      · rw [u, ey0, een _ (rgc_r hcc hy).1]
        have := hE y hy 0 (Int.le_refl 0)
        rw [ahd_0] at this
        exact this
      · rw [ey t (by omega)]
        have := hx1 ((if t > D then D else t) - 1) (by split <;> omega) (by split <;> omega)
        rw [een _ this.2.1]
        exact this.2.2.1
    · rw [ea r t a q b, een _ (ahd_r hR a b)]
      exact hE r a t b
  · have a := (eR r).mp a
    have a' := (eR r').mp a'
    by_cases q : r = y
    · rw [q, ea r' t a' (fun e => b (q.trans e.symm)) c]
      exact (key0 r' t a' (fun e => b (q.trans e.symm)) c).symm
    · by_cases q' : r' = y
      · rw [q', ea r t a q c]
        exact key0 r t a q c
      · rw [ea r t a q c, ea r' t a' q' c]
        exact hN r r' a a' b t c
  · rw [rset_o (by omega)]
    exact hC k a b
  · rw [m3] at b
    by_cases q : r = y
    · rw [q, my 1 (by omega) (by omega), my 5 (by omega) (by omega), if_neg (by omega), if_neg (by omega), if_neg (by omega), if_neg (by omega), if_neg (by omega), if_neg (by omega)]
      exact hB.2.1 y y0 hy.2
    · rw [mr r 1 a (by omega) q (by omega) (by omega), mr r 5 a (by omega) q (by omega) (by omega)]
      exact hB.2.1 r a b
  · rw [m4] at b
    rw [mob o 4 a (by omega)]
    exact hB.2.2 o a b
end PJ
