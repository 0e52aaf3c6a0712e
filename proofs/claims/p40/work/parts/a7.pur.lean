/-! a change that isn't refused: both rows, both values -/
section PQ_
variable {l l' m m' f c rl W PP : Int → Int} {T T' k d y z t g o a b e w v : Int}
theorem lev_hw (hS : Sm l m) (h : Iv m) (e : lev l y (-1) = -1) : ∀ r, isR m r → ∀ t, 0 ≤ t → ahd m r t ≠ y := by
  have hR := iv_c h
  rw [sm_lev hS hR, lev_wbe hR] at e
  intro r hr t ht
  exact wbe_no (t := 0) (ro := -1) hR (by omega) (by omega) r hr (by have := hr.1; omega) t ht
theorem d_add (h : StR T l m) (hz : (rfAdd l y z).1 = 0) : StR T (u1 (rset l (l 3) (bgn (rb l (l 3)) y z)) 3 (l 3 + 1)) (rAdd m y z) ∧ l 3 = m 3 := by
  obtain ⟨⟨q1, q2⟩, q3, q4, q5⟩ := rfAdd_0 hz
  have hc := (sm_C h.1).mp q1
  have l3 := sm_3 h.1
  exact ⟨st_add h hc ((sm_ent h.1 hc).mp q2) q3 (by omega) (lev_hw h.1 h.2.1 q5), l3⟩
theorem d_tak (h : StR T l m) (hz : (rfTak l y).1 = 0) : StR T (dro l y) (bys (rT0 m y) y (m 4)) ∧ l 3 - 1 = m 3 - 1 := by
  obtain ⟨q1, q2⟩ := rfTak_0 hz
  have hr := (sm_R h.1).mp q1
  rw [sm_rb h.1 hr (i := 2) (by omega) (by omega)] at q2
  exact ⟨st_tak h hr (by omega), by rw [sm_3 h.1]⟩
theorem d_ord (h : StR T l m) (hz : (rfOrd l d a b e).1 = 0) (w0 : W 0 = a) (w1 : W 1 = b) (w2 : W 2 = e) : StR T (u1 (oset l (l 4) (obg (ob l (l 4)) d a b e)) 4 (l 4 + 1)) (rOrd m d (cntO b e) W) ∧ l 4 = m 4 := by
  obtain ⟨⟨q1, q2, q3⟩, ⟨q4, q5, q6⟩, q7, _⟩ := rfOrd_0 hz
  have l4 := sm_4 h.1
  refine ⟨st_ord h ((sm_C h.1).mp q1) ?_ ?_ ⟨q4, q5⟩ q6 (by omega) w0 w1 w2, l4⟩
  · rcases q2 with q | q
    · exact .inr q
    · exact .inl ((sm_C h.1).mp q)
  · rcases q3 with q | q
    · exact .inr q
    · exact .inl ((sm_C h.1).mp q)
theorem d_asg (h : StR T l m) (hz : (rfAsg l y z).1 = 0) : StR T (u1 l (104 + 36 * y + 2) z) (rAsg m y z) ∧ ob l z 1 - ob l z 2 = ob (rAsg m y z) z 1 := by
  obtain ⟨⟨q1, q2⟩, q3, q4⟩ := rfAsg_0 hz
  have hr := (sm_R h.1).mp q1
  have ho := (sm_O h.1).mp q2
  rw [sm_rb h.1 hr (i := 2) (by omega) (by omega)] at q3
  rw [sm_stc h.1, iv_stc h.2.1 ho] at q4
  exact st_asg h hr ho (by omega) q4
theorem d_rel (h : StR T l m) (hz : (rfRel l y).1 = 0) : StR T (frl l y) (rRel m y) ∧ rb l y 2 = rb m y 2 := by
  obtain ⟨q1, q2⟩ := rfRel_0 hz
  have hr := (sm_R h.1).mp q1
  rw [sm_rb h.1 hr (i := 2) (by omega) (by omega)] at q2
  have q3 := (rgc_r (iv_c h.2.1) hr).2.2.1
  exact st_rel h hr (by omega)
theorem d_clo (h : StR T l m) (hz : (rfClo l y).1 = 0) : StR T (u1 l (56 + y) 1) (rClo m y) ∧ ccl (u1 l (56 + y) 1) = ccl (u1 m (56 + y) 1) := by
  obtain ⟨q1, q2, q3, q4⟩ := rfClo_0 hz
  have k := st_cl1 (v := 1) h ((sm_C h.1).mp q1) (by omega) (.inr (lev_hw h.1 h.2.1 q4))
  exact ⟨k, sm_ccl k.1⟩
theorem d_opn (h : StR T l m) (hz : (rfOpn l y).1 = 0) : StR T (u1 l (56 + y) 0) (rOpn m y) ∧ ccl (u1 l (56 + y) 0) = ccl (u1 m (56 + y) 0) := by
  obtain ⟨q1, q2⟩ := rfOpn_0 hz
  have k := st_cl1 (v := 0) h ((sm_C h.1).mp q1) (by omega) (.inl rfl)
  exact ⟨k, sm_ccl k.1⟩
theorem d_can (h : StR T l m) (hz : (rfCan l y).1 = 0) : StR T (u1 l (104 + 36 * y + 3) 0) (rCan m y) ∧ rb l y 3 = rb m y 3 := by
  obtain ⟨q1, q2, q3⟩ := rfCan_0 hz
  have hr := (sm_R h.1).mp q1
  have hR := iv_c h.2.1
  rw [sm_rb h.1 hr (i := 0) (by omega) (by omega), sm_lev h.1 hR, lev_wb1 h.2.1 hr] at q3
  exact ⟨st_can h hr fun r hr2 hne t ht => wbe_no hR (by omega) (by omega) r hr2 hne t ht, sm_rb h.1 hr (by omega) (by omega)⟩
theorem mst_2 : mst2 w = mst w ∨ ¬ (0 ≤ w ∧ w < 3) := by
  by_cases q : 0 ≤ w ∧ w < 3
  · left
    rcases (by omega : w = 0 ∨ w = 1 ∨ w = 2) with e | e | e <;> subst e <;> rfl
  · exact .inr q
theorem d_set (h : StR T l m) (hz : (rfSet w v).1 = 0) : StR T (u1 l (5 + w) v) (rSet m w v) ∧ l (5 + w) = m (5 + w) := by
  obtain ⟨q1, q2, q3⟩ := rfSet_0 hz
  rcases @mst_2 w with e | e
  · rw [e] at q3
    exact ⟨st_set h (by omega) ⟨q2, q3⟩, h.1.1 _ (by omega) (by omega)⟩
  · exact absurd q1 e
theorem d_pas (h : StR T l m) (h0 : 0 ≤ T) (h1 : T ≤ 90000) (hz : (rfPas y).1 = 0) : StR (T + 99) (psL y.toNat l) (pmL y.toNat m) ∧ psV y.toNat l 0 = pmV y.toNat m 0 := by
  obtain ⟨q1, q2⟩ := rfPas_0 hz
  obtain ⟨k1, k2⟩ := st_pasn y.toNat T l m 0 h h0 (by omega)
  exact ⟨st_mono k1 (by omega) (by omega), k2⟩
theorem d_pln (h : StR T l m) (hG : (rfGoa l y z).1 = 0 → ¬ fT l y z = -1 → Grd l y z (fT l y z) (fun t => if t = 0 then rb l y 0 else PP (t - 1))) (hz : (rfPln l y z PP).1 = 0) : StR T (rset l y (fol (rb l y) PP (fT l y z) (stp l y))) (rPln m y z) ∧ fT l y z = fwM m y z := by
  have hg : (rfGoa l y z).1 = 0 := by
    rcases Classical.em ((rfGoa l y z).1 = 0) with q | q
    · exact q
    · rw [show rfPln l y z PP = rfGoa l y z from if_pos q] at hz
      exact hz
  have hf : ¬ fT l y z = -1 := by
    intro q
    rw [show rfPln l y z PP = rfFnd l y (fT l y z) PP from if_neg (fun x => x hg), show rfFnd l y (fT l y z) PP = (10, 0) from if_pos q] at hz
    exact absurd hz (by decide)
  have hG := hG hg hf
  obtain ⟨⟨q1, q2⟩, q3, q4, q5⟩ := rfGoa_0 hg
  have hr := (sm_R h.1).mp q1
  have h3 := (rgc_r (iv_c h.2.1) hr).2.2.2.1
  rw [sm_rb h.1 hr (i := 3) (by omega) (by omega)] at q3
  rw [sm_rb h.1 hr (i := 0) (by omega) (by omega)] at q4
  rw [sm_fT h.1 (iv_c h.2.1) hr] at hf hG
  exact st_pln h hr ((sm_C h.1).mp q2) (by omega) q4 hf hG
end PQ_
