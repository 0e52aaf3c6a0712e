/-! both objects: what of them agrees -/
def rix (nx j : Int) : Int := if nx - 1 - j < 0 then nx + 7 - j else nx - 1 - j
def Kp (T : Int) (l f : Int → Int) : Prop := ∃ m, StR T l m ∧ ∀ i, 0 ≤ i → i < 400 → f i = m i
def OH (T nx ct : Int) (kl : Int → Int → Int) (M : q_Im) : Prop := (0 ≤ nx ∧ nx < 8) ∧ ct = M 0 4 ∧ (0 ≤ ct ∧ ct ≤ 8) ∧ ∀ j, 0 ≤ j → j < ct → Kp T (kl (rix nx j)) (fun i => M 3 (400 * (ct - 1 - j) + i))
def OV (T : Int) (ls : Int → Int) (hs : Int) (M : q_Im) : Prop := hs = M 0 2 ∧ (0 ≤ hs ∧ hs ≤ 1) ∧ (hs = 1 → Kp T ls (M 2))
def OI (n : Int) (c : Int → Int) (M : q_Im) : Prop := n = M 0 16 ∧ (0 ≤ n ∧ n ≤ 60) ∧ (∀ k, 0 ≤ k → k < n → c k = M 11 k) ∧ ∀ k, 0 ≤ k → k < 60 → 0 ≤ M 11 k ∧ M 11 k < 65536
def OK_ (kr kd_ : Int) (M : q_Im) : Prop := (kr = -1 ↔ M 0 6 = 0) ∧ (¬ M 0 6 = 0 → kr = M 0 6 ∧ kd_ = M 0 7) ∧ -1 ≤ kr ∧ kr ≤ 20
def OBx (T : Int) (l ls : Int → Int) (nx ct : Int) (kl : Int → Int → Int) (n : Int) (c : Int → Int) (hs fa kr kd_ : Int) (M : q_Im) : Prop :=
  StR T l (M 1) ∧ OH T nx ct kl M ∧ OV T ls hs M ∧ OI n c M ∧ fa = M 0 17 ∧ OK_ kr kd_ M
section PO_
variable {l l' m m' ls ls' f c rl : Int → Int} {T T' nx ct nx' ct' n hs fa kr kd_ k d y t : Int} {kl kl' : Int → Int → Int} {M M' : q_Im}
theorem st_cg (h : StR T l m) (e : ∀ i, 0 ≤ i → i < 400 → m' i = m i) (hb : ∀ k, -1000000 ≤ m' k ∧ m' k ≤ 1000000) : StR T l m' := by
  obtain ⟨hS, hI, hC, hB⟩ := h
  obtain ⟨hR, hT, hH, hE, hN⟩ := id hI
  have hc := rgc_of hR hT
  obtain ⟨g0, g1, g2, g3, g4, gc, g5, g6, g7, gk, gl, gr, go⟩ := id hc
  have G : Geo m m' := by
    refine ⟨⟨e 0 (by omega) (by omega), e 1 (by omega) (by omega), e 3 (by omega) (by omega)⟩, fun c hc_ => e _ ?_ ?_, fun r hr j a b _ => e _ ?_ ?_⟩
    · have := hc_.1; omega
    · have := hc_.2; omega
    · have := hr.1; omega
    · have := hr.2; omega
  have O : Ord m m' := by
    refine ⟨⟨e 3 (by omega) (by omega), e 4 (by omega) (by omega)⟩, fun r hr => e _ ?_ ?_, fun o ho => ⟨e _ ?_ ?_, e _ ?_ ?_, e _ ?_ ?_⟩⟩
    · have := hr.1; omega
    · have := hr.2; omega
    all_goals (have := ho.1; have := ho.2; omega)
  have ecs := geo_cs G
  have e3 := e 3 (by omega) (by omega)
  have e4 := e 4 (by omega) (by omega)
  have er (r j : Int) (a : isR m r) (b : 0 ≤ j) (c : j < 36) : rb m' r j = rb m r j := e _ (by have := a.1; omega) (by have := a.2; omega)
  have eo (o j : Int) (a : isO m o) (b : 0 ≤ j) (c : j < 8) : ob m' o j = ob m o j := e _ (by have := a.1; omega) (by have := a.2; omega)
  have RC : RgC m' := by
    unfold RgC
    rw [ecs, e 0 (by omega) (by omega), e 1 (by omega) (by omega), e 2 (by omega) (by omega), e3, e4, e 5 (by omega) (by omega), e 6 (by omega) (by omega), e 7 (by omega) (by omega)]
    exact ⟨g0, g1, g2, g3, g4, gc, g5, g6, g7, fun k a b => by rw [e (8 + k) (by omega) (by omega)]; exact gk k a b, fun k a b => by rw [e (56 + k) (by omega) (by omega)]; exact gl k a b, fun r a b => rf_cg (gr r a b) (fun j p q => er r j ⟨a, b⟩ p q), fun o a b => of_cg (go o a b) (fun j p q _ => eo o j ⟨a, b⟩ p q)⟩
  have R' : Rg m' := rg_of hb RC fun o a b => by
    rw [e4] at b
    rw [eo o 3 ⟨a, b⟩ (by omega) (by omega), e3]
    exact (hR.2.2.2.2.2.2.2.2.2.2.2.2 o a b).2
  refine ⟨⟨fun i a b => (hS.1 i a b).trans (e i a (by omega)).symm, fun c hc_ => ?_, fun r hr => ?_, fun o ho k a b q => ?_⟩, ⟨R', by rw [e 2 (by omega) (by omega)]; exact hT, ord_hb O hc hR hH, geo_en G hR hT hE (fun r hr t ht => .inl (e _ ?_ ?_)), geo_nd G hc hN⟩, hC, ⟨by rw [e 2 (by omega) (by omega)]; exact hB.1, fun r a b => ?_, fun o a b => ?_⟩⟩
  · have hc_ : 0 ≤ c ∧ c < cs m := by unfold isC at hc_; rw [ecs] at hc_; exact hc_
    obtain ⟨p1, p2⟩ := hS.2.1 c hc_
    exact ⟨p1.trans (e _ (by omega) (by omega)).symm, p2.trans (e _ (by omega) (by omega)).symm⟩
  · have hr : isR m r := (geo_R G).mp hr
    obtain ⟨p1, p2⟩ := hS.2.2.1 r hr
    refine ⟨fun j a b => (p1 j a b).trans (er r j hr a (by omega)).symm, fun t a b => ?_⟩
    rw [er r 3 hr (by omega) (by omega)] at b
    have h3 := (rgc_r hc hr).2.2.2.1
    exact (p2 t a b).trans (er r (6 + t) hr (by omega) (by omega)).symm
  · have ho : isO m o := by unfold isO at ho ⊢; rw [e4] at ho; exact ho
    exact (hS.2.2.2 o ho k a b q).trans (eo o k ho a b).symm
  · have := (ahd_r hR hr ht).1; omega
  · have := (ahd_r hR hr ht).2; omega
  · rw [e3] at b
    rw [er r 1 ⟨a, b⟩ (by omega) (by omega), er r 5 ⟨a, b⟩ (by omega) (by omega)]
    exact hB.2.1 r a b
  · rw [e4] at b
    rw [eo o 4 ⟨a, b⟩ (by omega) (by omega)]
    exact hB.2.2 o a b
theorem st_lc (h : StR T l m) (e : Lc l' l) : StR T l' m := by
  obtain ⟨hS, hI, hC, hB⟩ := h
  have hc := rgc_of hI.1 hI.2.1
  obtain ⟨g0, g1, g2, g3, g4, gc, _⟩ := id hc
  obtain ⟨e0, e1, e2⟩ := e
  have l3 := sm_3 hS
  have l4 := sm_4 hS
  refine ⟨⟨fun i a b => (e0 i a (by omega)).trans (hS.1 i a b), fun c hc_ => ?_, fun r hr => ?_, fun o ho k a b q => ?_⟩, hI, fun k a b => ?_, hB⟩
  · obtain ⟨p1, p2⟩ := hS.2.1 c hc_
    have q1 := hc_.1
    have q2 := hc_.2
    exact ⟨(e0 _ (by omega) (by omega)).trans p1, (e0 _ (by omega) (by omega)).trans p2⟩
  · obtain ⟨p1, p2⟩ := hS.2.2.1 r hr
    have h3 := (rgc_r hc hr).2.2.2.1
    have hr' : r < l 3 := by rw [l3]; exact hr.2
    exact ⟨fun j a b => (e1 r hr.1 hr' j a (by omega)).trans (p1 j a b), fun t a b => (e1 r hr.1 hr' (6 + t) (by omega) (by omega)).trans (p2 t a b)⟩
  · exact (e2 o ho.1 (by rw [l4]; exact ho.2) k a b).trans (hS.2.2.2 o ho k a b q)
  · rw [e0 _ (by omega) (by omega)]
    exact hC k a b
theorem kp_lc (h : Kp T l f) (e : Lc l' l) : Kp T l' f := by
  obtain ⟨m, a, b⟩ := h
  exact ⟨m, st_lc a e, b⟩
theorem kp_mono (h : Kp T l f) (hT : T ≤ T') (h0 : 0 ≤ T) : Kp T' l f := by
  obtain ⟨m, a, b⟩ := h
  exact ⟨m, st_mono a hT h0, b⟩
theorem kp_cg {g : Int → Int} (h : Kp T l f) (e : ∀ i, 0 ≤ i → i < 400 → g i = f i) : Kp T l g := by
  obtain ⟨m, a, b⟩ := h
  exact ⟨m, a, fun i p q => (e i p q).trans (b i p q)⟩
theorem kp_rg (h : Kp T l f) : RgC l := by
  obtain ⟨m, a, _⟩ := h
  exact sm_rg a.1 a.2.2.1 (rgc_of a.2.1.1 a.2.1.2.1)
theorem st_rg (h : StR T l m) : RgC l := sm_rg h.1 h.2.2.1 (rgc_of h.2.1.1 h.2.1.2.1)
theorem kp_st (h : Kp T l f) (hR : Rg m) : StR T l (cpI f m 0 0 400) ∧ f 3 = l 3 := by
  obtain ⟨m2, a, b⟩ := h
  refine ⟨st_cg a (fun i p q => ?_) (fun k => ?_), (b 3 (by omega) (by omega)).trans (sm_3 a.1).symm⟩
  · unfold cpI
    rw [if_pos (by omega), show (0 : Int) + (i - 0) = i by omega]
    exact b i p q
  · unfold cpI
    by_cases q : (0 : Int) ≤ k ∧ k < 0 + 400
    · rw [if_pos q, show (0 : Int) + (k - 0) = k by omega, b k (by omega) (by omega)]
      exact a.2.1.1.1 k
    · rw [if_neg q]
      exact hR.1 k
theorem oh_cg (h : OH T nx ct kl M) (e4 : M' 0 4 = M 0 4) (e3 : M' 3 = M 3) : OH T nx ct kl M' := by
  unfold OH
  rw [e4, e3]
  exact h
theorem oh_mono (h : OH T nx ct kl M) (hT : T ≤ T') (h0 : 0 ≤ T) : OH T' nx ct kl M := ⟨h.1, h.2.1, h.2.2.1, fun j a b => kp_mono (h.2.2.2 j a b) hT h0⟩
theorem mch_8 (q : M 0 4 = 8) : mch M 0 4 = 8 ∧ mch M 3 = cpI (M 1) (cpI (M 3) (M 3) 400 0 2800) 0 2800 400 := by
  unfold mch
  rw [if_pos q]
  refine ⟨?_, ?_⟩
  · rfl
  · rfl
theorem mch_7 (q : ¬ M 0 4 = 8) : mch M 0 4 = M 0 4 + 1 ∧ mch M 3 = cpI (M 1) (M 3) 0 (400 * M 0 4) 400 := by
  unfold mch
  rw [if_neg q]
  refine ⟨?_, ?_⟩
  · rfl
  · rfl
theorem oh_mch (h : OH T nx ct kl M) (hS : StR T l (M 1)) (hP : HP l nx ct kl nx' ct' kl') : OH T nx' ct' kl' (mch M) := by
  obtain ⟨h1, h2, h3, h4⟩ := h
  obtain ⟨p1, p2, l', p3, p4⟩ := hP
  have n1 : 0 ≤ nx' ∧ nx' < 8 := by rw [p1]; split <;> omega
  have r0 : rix nx' 0 = nx := by unfold rix; rw [p1]; split <;> split <;> omega
  have rj (j : Int) (a : 1 ≤ j) (b : j < 8) : rix nx' j = rix nx (j - 1) ∧ rix nx (j - 1) ≠ nx := by
    unfold rix
    rw [p1]
    split <;> split <;> split <;> omega
  have k0 : kl' nx = l' := by rw [p4]; exact if_pos rfl
  have kj (i : Int) (a : i ≠ nx) : kl' i = kl i := by rw [p4]; exact if_neg a
  have c1 : ct' = if M 0 4 = 8 then 8 else M 0 4 + 1 := by rw [p2]; split <;> omega
  by_cases q : M 0 4 = 8
  · obtain ⟨m4, m3⟩ := mch_8 q
    rw [if_pos q] at c1
    refine ⟨n1, by omega, by omega, fun j a b => ?_⟩
    rw [m3]
    by_cases z : j = 0
    · rw [z, r0, k0]
      refine ⟨M 1, st_lc hS p3, fun i a b => ?_⟩
      show cpI (M 1) (cpI (M 3) (M 3) 400 0 2800) 0 2800 400 (400 * (ct' - 1 - 0) + i) = M 1 i
      unfold cpI
      rw [if_pos (by omega), show (0 : Int) + (400 * (ct' - 1 - 0) + i - 2800) = i by omega]
    · obtain ⟨z1, z2⟩ := rj j (by omega) (by omega)
      rw [z1, kj _ z2]
      refine kp_cg (h4 (j - 1) (by omega) (by omega)) fun i a b => ?_
      show cpI (M 1) (cpI (M 3) (M 3) 400 0 2800) 0 2800 400 (400 * (ct' - 1 - j) + i) = M 3 (400 * (ct - 1 - (j - 1)) + i)
      unfold cpI
      rw [if_neg (by omega), if_pos (by omega), show (400 : Int) + (400 * (ct' - 1 - j) + i - 0) = 400 * (ct - 1 - (j - 1)) + i by omega]
  · obtain ⟨m4, m3⟩ := mch_7 q
    rw [if_neg q] at c1
    refine ⟨n1, by omega, by omega, fun j a b => ?_⟩
    rw [m3]
    by_cases z : j = 0
    · rw [z, r0, k0]
      refine ⟨M 1, st_lc hS p3, fun i a b => ?_⟩
      show cpI (M 1) (M 3) 0 (400 * M 0 4) 400 (400 * (ct' - 1 - 0) + i) = M 1 i
      unfold cpI
      rw [if_pos (by omega), show (0 : Int) + (400 * (ct' - 1 - 0) + i - 400 * M 0 4) = i by omega]
    · obtain ⟨z1, z2⟩ := rj j (by omega) (by omega)
      rw [z1, kj _ z2]
      refine kp_cg (h4 (j - 1) (by omega) (by omega)) fun i a b => ?_
      show cpI (M 1) (M 3) 0 (400 * M 0 4) 400 (400 * (ct' - 1 - j) + i) = M 3 (400 * (ct - 1 - (j - 1)) + i)
      unfold cpI
      rw [if_neg (by omega), show 400 * (ct' - 1 - j) + i = 400 * (ct - 1 - (j - 1)) + i by omega]
theorem obx_cg (h : OBx T l ls nx ct kl n c hs fa kr kd_ M) (e0 : ∀ k, k ≠ 5 → M' 0 k = M 0 k) (e1 : M' 1 = M 1) (e2 : M' 2 = M 2) (e3 : M' 3 = M 3) (e11 : M' 11 = M 11) : OBx T l ls nx ct kl n c hs fa kr kd_ M' := by
  unfold OBx OH OV OI OK_
  rw [e1, e2, e3, e11, e0 4 (by decide), e0 2 (by decide), e0 16 (by decide), e0 17 (by decide), e0 6 (by decide), e0 7 (by decide)]
  exact h
theorem ob_5 (h : OBx T l ls nx ct kl n c hs fa kr kd_ M) : OBx T l ls nx ct kl n c hs fa kr kd_ (uM M 0 5 t) :=
  obx_cg h (fun k q => (congrFun uA_eq k).trans (u1_ne q)) (uA_ne (by decide)) (uA_ne (by decide)) (uA_ne (by decide)) (uA_ne (by decide))
theorem ob_ms (h : OBx T l ls nx ct kl n c hs fa kr kd_ M) (e : MS M M' t) : OBx T l ls nx ct kl n c hs fa kr kd_ M' :=
  obx_cg h (fun k q => by rw [e.1]; exact u1_ne q) e.2.1 e.2.2.1 e.2.2.2.1 e.2.2.2.2
theorem ob_mx (h : OBx T l ls nx ct kl n c hs fa kr kd_ M) (e : MX M M') : OBx T l ls nx ct kl n c hs fa kr kd_ M' :=
  obx_cg h (fun k _ => by rw [e.1]) e.2.1 e.2.2.1 e.2.2.2.1 e.2.2.2.2
theorem ob_ln {a b e : Int} (h : OBx T l ls nx ct kl n c hs fa kr kd_ M) : OBx T l ls nx ct kl n c hs fa kr kd_ (lnO M a b e) := by
  have h5 := ob_5 (t := 0) h
  exact obx_cg h5 (fun k _ => rfl) rfl rfl rfl rfl
theorem ob_done (h : OBx T l ls nx ct kl n c hs fa kr kd_ M) (hP : HP l nx ct kl nx' ct' kl') (hS : StR T' l' rl) (hT : T ≤ T') (h0 : 0 ≤ T) : OBx T' l' ls nx' ct' kl' n c hs fa kr kd_ (uA (mch M) 1 rl) := by
  obtain ⟨h1, h2, h3, h4, h5, h6⟩ := h
  have e0 (k : Int) (q : k ≠ 4) : uA (mch M) 1 rl 0 k = M 0 k := (congrFun (uA_ne (by decide)) k).trans (mch_0 q)
  have e2 : uA (mch M) 1 rl 2 = M 2 := (uA_ne (by decide)).trans (mch_s (by decide) (by decide))
  have e11 : uA (mch M) 1 rl 11 = M 11 := (uA_ne (by decide)).trans (mch_s (by decide) (by decide))
  refine ⟨?_, oh_mono (oh_cg (oh_mch h2 h1 hP) (congrFun (uA_ne (by decide)) 4) (uA_ne (by decide))) hT h0, ?_, ?_, ?_, ?_⟩
  · rw [uA_eq]; exact hS
  · unfold OV
    rw [e0 2 (by decide), e2]
    exact ⟨h3.1, h3.2.1, fun z => kp_mono (h3.2.2 z) hT h0⟩
  · unfold OI
    rw [e0 16 (by decide), e11]
    exact h4
  · rw [e0 17 (by decide)]
    exact h5
  · unfold OK_
    rw [e0 6 (by decide), e0 7 (by decide)]
    exact h6
theorem ob_ref (h : OBx T l ls nx ct kl n c hs fa kr kd_ M) (hk : 1 ≤ k ∧ k ≤ 20) : OBx T l ls nx ct kl n c hs fa k d (mrf M k d) := by
  obtain ⟨h1, h2, h3, h4, h5, h6⟩ := h
  refine ⟨h1, h2, h3, h4, h5, ?_⟩
  have e6 : mrf M k d 0 6 = k := rfl
  have e7 : mrf M k d 0 7 = d := rfl
  unfold OK_
  rw [e6, e7]
  exact ⟨by omega, fun _ => ⟨rfl, rfl⟩, by omega, by omega⟩
end PO_
