/-! the object over other heaps; how much was made -/
section E8
variable {E : q_E} {h h' hb h0 h1 : q_H} {x N a b m t q : Nat} {l lo ls c f : Int → Int} {kl : Int → Int → Int} {nx ct n hs fa kr kd_ k k' v y z r C W C' W' : Int} {F8 : Int → Int64}
theorem ca_at (H : CA h x l ls nx ct kl n c hs fa kr kd_) (F : Fr a m h h') (k : a + m ≤ x ∨ x + 444 ≤ a) : CA h' x l ls nx ct kl n c hs fa kr kd_ := by
  obtain ⟨k0, ⟨p, k1⟩, k2, k3, k4, k5, k6⟩ := H
  exact ⟨(F.2 _ (by omega)).trans k0, ⟨p, wh_fr k1 F (by omega)⟩, sn_fr k2 F (by omega), hi_fr k3 F (by omega), tx_fr k4 F (by omega), ds_fr k5 F (by omega), plx_fr k6 F (by omega)⟩
/-- the object over a heap in which something else was written: seen from there -/
theorem px_at (P : PX x l ls nx ct kl n c hs fa kr kd_ h0 k h) (F : Fr a m h (h'.1, h.2)) (s : x + 444 ≤ a) : PX x l ls nx ct kl n c hs fa kr kd_ h' 0 h' := by
  have C : CA (h'.1, h.2) x l ls nx ct kl n c hs fa kr kd_ := ca_at P.1.1 F (Or.inr s)
  exact ⟨⟨C, fy_rf (Int.le_refl 0)⟩, P.2.1, P.2.2.1, fun q hq => (F.2 q (by omega)).trans (px_lo P q hq)⟩
theorem px_fr (P : PX x l ls nx ct kl n c hs fa kr kd_ h0 k h) (F : Fr a m h h') (s : x + 444 ≤ a) : PX x l ls nx ct kl n c hs fa kr kd_ h' 0 h' := by
  refine px_at P (a := a) (m := m) ?_ s
  exact ⟨rfl, F.2⟩
theorem px_here (P : PX x l ls nx ct kl n c hs fa kr kd_ h0 k h) : PX x l ls nx ct kl n c hs fa kr kd_ h 0 h := ⟨⟨P.1.1, fy_rf (Int.le_refl 0)⟩, P.2.1, P.2.2.1, px_lo P⟩
theorem ai_fy (H : AI hb a t m f) (F : Fy x hb k h) (s : x + 444 ≤ a) : AI h a t m f := by
  obtain ⟨g, e1, e2⟩ := H
  exact ⟨g, (F.1 a (Or.inr s)).trans e1, e2⟩
theorem al_fy (H : AL hb a m F8) (F : Fy x hb k h) (s : x + 444 ≤ a) : AL h a m F8 := by
  obtain ⟨g, e1, e2⟩ := H
  exact ⟨g, (F.1 a (Or.inr s)).trans e1, e2⟩
/-- how much was made at most; what is made next lies behind the object -/
def BZ (x : Nat) (h : q_H) (C W : Int) : Prop := ∃ s c w : Nat, h.2 = (some s, c, w) ∧ x + 444 ≤ s ∧ (c : Int) ≤ C ∧ (w : Int) ≤ W
theorem bz_fy (B : BZ x hb C W) (F : Fy x hb k h) (h1 : C + k ≤ C') (h2 : W + 6 * k ≤ W') : BZ x h C' W' := by
  obtain ⟨s, c, w, e, e1, e2, e3⟩ := B
  obtain ⟨_, j, j0, j1, j2, j3⟩ := F
  rw [e] at j1 j2 j3
  refine ⟨s + j, c + j, w + 6 * j, ?_, by omega, by omega, by omega⟩
  show h.2 = (some (s + j), c + j, w + 6 * j)
  exact Prod.ext j1 (Prod.ext j2 j3)
theorem bz_fr (B : BZ x h C W) (F : Fr a m h h') : BZ x h' C W := by
  obtain ⟨s, c, w, e, e1⟩ := B
  exact ⟨s, c, w, F.1.trans e, e1⟩
theorem bz_mo (B : BZ x h C W) (h1 : C ≤ C') (h2 : W ≤ W') : BZ x h C' W' := by
  obtain ⟨s, c, w, e, e1, e2, e3⟩ := B
  exact ⟨s, c, w, e, e1, by omega, by omega⟩
theorem lc_trn {l1 l2 l3 : Int → Int} (A : Lc l1 l2) (B : Lc l2 l3) : Lc l1 l3 := by
  obtain ⟨a1, a2, a3⟩ := A
  obtain ⟨b1, b2, b3⟩ := B
  have e3 := b1 3 (by omega) (by omega)
  have e4 := b1 4 (by omega) (by omega)
  exact ⟨fun i p q => (a1 i p q).trans (b1 i p q), fun r p q j p2 q2 => (a2 r p (by omega) j p2 q2).trans (b2 r p q j p2 q2), fun o p q j p2 q2 => (a3 o p (by omega) j p2 q2).trans (b3 o p q j p2 q2)⟩
/-- what undoing gives back -/
theorem hp_u {nx' ct' : Int} {kl' : Int → Int → Int} (H : HP l nx ct kl nx' ct' kl') (h1 : 0 ≤ nx ∧ nx < 8) (h2 : 0 ≤ ct) : Lc (kl' (pvx nx')) l ∧ 0 < ct' ∧ pvx nx' = nx := by
  obtain ⟨e1, e2, l', e3, e4⟩ := H
  have e : pvx nx' = nx := by
    rw [e1]
    unfold pvx
    split <;> split <;> omega
  refine ⟨?_, by omega, e⟩
  rw [e, e4]
  simp only [if_pos]
  exact e3
end E8
