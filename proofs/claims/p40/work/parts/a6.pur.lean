/-! both objects: save, restore, undo, append, layout; what is refused -/
section PP_
variable {l l' m m' ls ls' f c rl : Int → Int} {T T' nx ct nx' ct' n hs fa kr kd_ k d y z t g o a b e w v : Int} {kl kl' : Int → Int → Int} {M M' : q_Im}
theorem ob_sav (h : OBx T l ls nx ct kl n c hs fa kr kd_ M) (e : Lc ls' l) : OBx T l ls' nx ct kl n c 1 fa kr kd_ (mSav M) := by
  obtain ⟨h1, h2, h3, h4, h5, h6⟩ := h
  refine ⟨h1, h2, ⟨rfl, by omega, fun _ => ⟨M 1, st_lc h1 e, fun i a b => ?_⟩⟩, h4, h5, h6⟩
  show cpI (M 1) (M 2) 0 0 400 i = M 1 i
  unfold cpI
  rw [if_pos (by omega), show (0 : Int) + (i - 0) = i by omega]
theorem ob_res (h : OBx T l ls nx ct kl n c hs fa kr kd_ M) (hs1 : ¬ hs = 0) (e : Lc l' ls) : OBx T l' ls nx 0 kl n c hs fa kr kd_ (mRes M) ∧ cpI (M 2) (M 1) 0 0 400 3 = ls 3 ∧ mRes M 0 5 = 0 := by
  obtain ⟨h1, h2, h3, h4, h5, h6⟩ := h
  have em : mRes M = uM (uA (uM M 0 5 0) 1 (cpI (M 2) (M 1) 0 0 400)) 0 4 0 := if_neg (by rw [← h3.1]; exact hs1)
  obtain ⟨k1, k2⟩ := kp_st (h3.2.2 (by have := h3.2.1; omega)) h1.2.1.1
  rw [em]
  refine ⟨⟨st_lc k1 e, ⟨h2.1, rfl, by omega, fun j a b => by omega⟩, h3, h4, h5, h6⟩, ?_, rfl⟩
  show (if (0 : Int) ≤ 3 ∧ (3 : Int) < 0 + 400 then M 2 (0 + (3 - 0)) else M 1 3) = ls 3
  exact (if_pos (by omega)).trans k2
theorem ob_re0 (h : OBx T l ls nx ct kl n c hs fa kr kd_ M) (hs1 : hs = 0) : OBx T l ls nx ct kl n c hs fa kr kd_ (mRes M) ∧ mRes M 0 5 = 1 := by
  have em : mRes M = uM M 0 5 1 := if_pos (by rw [← h.2.2.1.1]; exact hs1)
  rw [em]
  exact ⟨ob_5 h, rfl⟩
theorem ob_und (h : OBx T l ls nx ct kl n c hs fa kr kd_ M) (h0 : 0 < ct) (e : Lc l' (kl (pvx nx))) : OBx T l' ls (pvx nx) (ct - 1) kl n c hs fa kr kd_ (mUnd M) ∧ mUnd M 0 5 = 0 := by
  obtain ⟨h1, ⟨g1, g2, g3, g4⟩, h3, h4, h5, h6⟩ := h
  have em : mUnd M = uA (uM (uM M 0 5 0) 0 4 (M 0 4 - 1)) 1 (cpI (M 3) (M 1) (400 * (M 0 4 - 1)) 0 400) := if_neg (by omega)
  have r0 : rix nx 0 = pvx nx := by unfold rix pvx; split <;> split <;> omega
  have rj (j : Int) (a : 0 ≤ j) (b : j + 1 < 8) : rix (pvx nx) j = rix nx (j + 1) := by unfold rix pvx; split <;> split <;> split <;> omega
  have k0 := g4 0 (by omega) h0
  rw [r0] at k0
  obtain ⟨k1, k2⟩ := kp_st k0 h1.2.1.1
  have ec : cpI (M 3) (M 1) (400 * (M 0 4 - 1)) 0 400 = cpI (fun i => M 3 (400 * (ct - 1 - 0) + i)) (M 1) 0 0 400 := by
    funext i
    unfold cpI
    by_cases q : (0 : Int) ≤ i ∧ i < 0 + 400
    · rw [if_pos q, if_pos q, show 400 * (M 0 4 - 1) + (i - 0) = 400 * (ct - 1 - 0) + (0 + (i - 0)) by omega]
    · rw [if_neg q, if_neg q]
  rw [em, ec]
  refine ⟨⟨st_lc k1 e, ⟨by unfold pvx; split <;> omega, by show ct - 1 = M 0 4 - 1; omega, by omega, fun j a b => ?_⟩, h3, h4, h5, h6⟩, rfl⟩
  rw [rj j a (by omega)]
  refine kp_cg (g4 (j + 1) (by omega) (by omega)) fun i p q => ?_
  show M 3 (400 * (ct - 1 - 1 - j) + i) = M 3 (400 * (ct - 1 - (j + 1)) + i)
  rw [show 400 * (ct - 1 - 1 - j) + i = 400 * (ct - 1 - (j + 1)) + i by omega]
theorem ob_un0 (h : OBx T l ls nx ct kl n c hs fa kr kd_ M) (h0 : ct = 0) : OBx T l ls nx ct kl n c hs fa kr kd_ (mUnd M) ∧ mUnd M 0 5 = 1 := by
  have em : mUnd M = uM M 0 5 1 := if_pos (by rw [← h.2.1.2.1]; exact h0)
  rw [em]
  exact ⟨ob_5 h, rfl⟩
theorem ob_app (h : OBx T l ls nx ct kl n c hs fa kr kd_ M) (hn : n < 60) (hy : 0 ≤ y ∧ y < 65536) : OBx T l ls nx ct kl (n + 1) (u1 c n y) hs fa kr kd_ (mApp M y) ∧ mApp M y 0 5 = 0 := by
  obtain ⟨h1, h2, h3, ⟨g1, g2, g3, g4⟩, h5, h6⟩ := h
  have em : mApp M y = uM (uM (uM M 0 5 0) 11 (M 0 16) y) 0 16 (M 0 16 + 1) := if_neg (by omega)
  rw [em]
  refine ⟨⟨h1, h2, h3, ⟨by show n + 1 = M 0 16 + 1; omega, by omega, fun k a b => ?_, fun k a b => ?_⟩, h5, h6⟩, rfl⟩
  · show u1 c n y k = u1 (M 11) (M 0 16) y k
    rw [← g1]
    by_cases q : k = n
    · rw [q, u1_eq, u1_eq]
    · rw [u1_ne q, u1_ne q]
      exact g3 k a (by omega)
  · show 0 ≤ u1 (M 11) (M 0 16) y k ∧ u1 (M 11) (M 0 16) y k < 65536
    by_cases q : k = M 0 16
    · rw [q, u1_eq]; exact hy
    · rw [u1_ne q]
      exact g4 k a b
theorem ob_ap0 (h : OBx T l ls nx ct kl n c hs fa kr kd_ M) (hn : 60 ≤ n) : OBx T l ls nx ct kl n c hs fa kr kd_ (mApp M y) ∧ mApp M y 0 5 = 1 := by
  have em : mApp M y = uM M 0 5 1 := if_pos (by have := h.2.2.2.1.1; have := h.2.2.2.1.2.1; omega)
  rw [em]
  exact ⟨ob_5 h, rfl⟩
theorem ob_lay1 (h : OBx T l ls nx ct kl n c hs fa kr kd_ M) (hf : ¬ (fpl c n n.toNat 0 0 0 0).1 = -1) : OBx T l ls nx ct kl 0 c hs (fpl c n n.toNat 0 0 0 0).1 kr kd_ (layM M).2 ∧ (layM M).2 0 5 = 1 := by
  obtain ⟨h1, h2, h3, ⟨g1, g2, g3, g4⟩, h5, h6⟩ := h
  obtain ⟨s1, _⟩ := st_lay h1 g2 g3
  have hr := wpW_r (q := M 11) g2
  have em : layM M = (0, layO M 1) := if_pos (by rw [← g1]; omega)
  rw [em]
  refine ⟨⟨h1, h2, h3, ⟨rfl, by omega, fun k a b => by omega, g4⟩, ?_, h6⟩, rfl⟩
  show (fpl c n n.toNat 0 0 0 0).1 = (wpW (M 11) (M 0 16)).1
  rw [← g1]
  exact s1
theorem ob_lay0 (h : OBx T l ls nx ct kl n c hs fa kr kd_ M) (hf : (fpl c n n.toNat 0 0 0 0).1 = -1) (h0 : 0 ≤ T) (hP : HP l nx ct kl nx' ct' kl') : OBx T (lay c n (fpl c n n.toNat 0 0 0 0).2.1 (fpl c n n.toNat 0 0 0 0).2.2 l) ls nx' ct' kl' 0 c hs (-1) kr kd_ (layM M).2 ∧ (layM M).2 0 5 = 0 ∧ (layM M).1 = (fpl c n n.toNat 0 0 0 0).2.1 * (fpl c n n.toNat 0 0 0 0).2.2 := by
  obtain ⟨h1, h2, h3, ⟨g1, g2, g3, g4⟩, h5, h6⟩ := id h
  obtain ⟨s1, s2⟩ := st_lay h1 g2 g3
  obtain ⟨s3, s4⟩ := s2 hf
  have em : layM M = (ryN (M 11) (M 0 16).toNat 0 0, uA (mch (layO M 0)) 1 (rLay (M 1) (M 11) (M 0 16) (wpW (M 11) (M 0 16)).2.1 (wpW (M 11) (M 0 16)).2.2)) := if_neg (by rw [← g1]; omega)
  have hL : OBx T l ls nx ct kl 0 c hs (-1) kr kd_ (layO M 0) := by
    refine ⟨h1, h2, h3, ⟨rfl, by omega, fun k a b => by omega, g4⟩, ?_, h6⟩
    show -1 = (wpW (M 11) (M 0 16)).1
    rw [← g1]
    omega
  rw [em]
  refine ⟨ob_done hL hP ?_ (Int.le_refl T) h0, ?_, ?_⟩
  · rw [← g1]
    exact s3
  · show mch (layO M 0) 0 5 = 0
    exact mch_0 (by decide)
  · show ryN (M 11) (M 0 16).toNat 0 0 = _
    rw [← g1]
    exact s4.symm
/-- a refusal's number -/
def K20 (p : Int × Int) : Prop := 0 ≤ p.1 ∧ p.1 ≤ 20
theorem k20_if {q : Prop} {i : Decidable q} {x y : Int × Int} (a : K20 x) (b : K20 y) : K20 (@ite _ q i x y) := by
  by_cases z : q
  · rw [if_pos z]; exact a
  · rw [if_neg z]; exact b
theorem k20_l (a : 0 ≤ k ∧ k ≤ 20) : K20 (k, d) := a
theorem k20_add : K20 (rfAdd l y z) := by unfold rfAdd rfRC; repeat' (first | exact k20_l (by decide) | apply k20_if)
theorem k20_tak : K20 (rfTak l y) := by unfold rfTak; repeat' (first | exact k20_l (by decide) | apply k20_if)
theorem k20_lin : K20 (rfLin l y) := by unfold rfLin; repeat' (first | exact k20_l (by decide) | apply k20_if)
theorem k20_ord : K20 (rfOrd l d a b e) := by unfold rfOrd; repeat' (first | exact k20_l (by decide) | exact k20_lin | apply k20_if)
theorem k20_asg : K20 (rfAsg l y z) := by unfold rfAsg; repeat' (first | exact k20_l (by decide) | apply k20_if)
theorem k20_rel : K20 (rfRel l y) := by unfold rfRel; repeat' (first | exact k20_l (by decide) | apply k20_if)
theorem k20_clo : K20 (rfClo l y) := by unfold rfClo rfRC; repeat' (first | exact k20_l (by decide) | apply k20_if)
theorem k20_opn : K20 (rfOpn l y) := by unfold rfOpn; repeat' (first | exact k20_l (by decide) | apply k20_if)
theorem k20_set : K20 (rfSet w v) := by unfold rfSet; repeat' (first | exact k20_l (by decide) | apply k20_if)
theorem k20_can : K20 (rfCan l y) := by unfold rfCan rfRC; repeat' (first | exact k20_l (by decide) | apply k20_if)
theorem k20_pas : K20 (rfPas y) := by unfold rfPas; repeat' (first | exact k20_l (by decide) | apply k20_if)
theorem k20_pln {P : Int → Int} : K20 (rfPln l y z P) := by unfold rfPln rfGoa rfFnd; repeat' (first | exact k20_l (by decide) | apply k20_if)
end PP_
