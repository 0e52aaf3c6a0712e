/-! the reference: the fewest ticks of a plan (printed by program) -/
section RA4
variable {E : q_E} {h : q_H} {am : Nat} {M M2 : q_Im} {l C : Int → Int} {r g t k w : Int}
def cnL (l : Int → Int) (r g t : Int) : Prop := (∃ w, (0 ≤ w ∧ w < 4) ∧ 0 ≤ bes l g w ∧ rea l r (t - 1).toNat (bes l g w) ∧ mgo l r (bes l g w) g (t - 1)) ∧ wbe l g (t + 1) r < 0
noncomputable def fwM (l : Int → Int) (r g : Int) : Int := fnd (cnL l r g) (l 7).toNat 1
theorem cn_cm (hR : RgC (M 1)) (hI : CmI (M 1) r C (M 1 7) 0 0) (hg : isC (M 1) g) (h1 : 1 ≤ t) (h2 : t ≤ M 1 7) : cnE (uA M 5 C) r g t ↔ cnL (M 1) r g t := by
  have gc := hR.2.2.2.2.2.1
  have key (w : Int) : cmE (uA M 5 C) r g t w ↔ 0 ≤ bes (M 1) g w ∧ rea (M 1) r (t - 1).toNat (bes (M 1) g w) ∧ mgo (M 1) r (bes (M 1) g w) g (t - 1) := by
    have hb := besC_r (w := w) hR hg
    show (0 ≤ bes (M 1) g w ∧ ¬ C (48 * (t - 1) + bes (M 1) g w) = 0 ∧ mgo (M 1) r (bes (M 1) g w) g (t - 1)) ↔ _
    refine and_congr_right fun h0 => and_congr_left fun _ => ?_
    have q := hI.2.1 (t - 1) (by omega) (by omega) (bes (M 1) g w) h0 (by omega)
    have g7 := hR.2.2.2.2.2.2.2.2.1
    have q2 := hI.1 (48 * (t - 1) + bes (M 1) g w) (by omega) (by omega)
    rw [← q]
    omega
  unfold cnE cnL
  refine and_congr ⟨?_, ?_⟩ Iff.rfl
  · rintro ⟨w, a, b⟩
    exact ⟨w, a, (key w).mp b⟩
  · rintro ⟨w, a, b⟩
    exact ⟨w, a, (key w).mpr b⟩
end RA4
