/-! the reference: what can be come to, tick by tick (printed by program) -/
section RA3
variable {E : q_E} {h : q_H} {am : Nat} {M M2 : q_Im} {l C : Int → Int} {r t k w : Int}
def cmP (l : Int → Int) (r : Int) (n : Nat) (k w c : Int) : Prop := ∃ a u, (0 ≤ a ∧ 0 ≤ u ∧ u ≤ 4) ∧ (a < k ∨ (a = k ∧ u < w)) ∧ rea l r n a ∧ bes l a u = c ∧ 0 ≤ c ∧ mgo l r a c n
def CmI (l : Int → Int) (r : Int) (C : Int → Int) (t k w : Int) : Prop := (∀ i, 0 ≤ i → i < 1488 → 0 ≤ C i ∧ C i ≤ 1) ∧ (∀ t', 0 ≤ t' → t' ≤ t → ∀ c, 0 ≤ c → c < 48 → (C (48 * t' + c) = 1 ↔ rea l r t'.toNat c)) ∧ (∀ c, 0 ≤ c → c < 48 → t < 30 → (C (48 * (t + 1) + c) = 1 ↔ cmP l r t.toNat k w c)) ∧ ∀ i, 48 * (t + 2) ≤ i → i < 1488 → C i = 0
theorem cm_k (h : CmI l r C t k w) (hw : w = 5 ∨ ¬ rea l r t.toNat k) : CmI l r C t (k + 1) 0 := by
  obtain ⟨a1, a2, a3, a4⟩ := h
  refine ⟨a1, a2, fun c b1 b2 b3 => (a3 c b1 b2 b3).trans ⟨?_, ?_⟩, a4⟩
  · rintro ⟨a, u, h1, h2, h3⟩
    exact ⟨a, u, h1, by omega, h3⟩
  · rintro ⟨a, u, h1, h2, h3⟩
    refine ⟨a, u, h1, ?_, h3⟩
    rcases hw with hw | hw
    · omega
    · by_cases z : a = k
      · exact absurd (z ▸ h3.1) hw
      · omega
theorem cm_w (h : CmI l r C t k w) (hw : ¬ (0 ≤ bes l k w ∧ mgo l r k (bes l k w) t)) (ht : 0 ≤ t) : CmI l r C t k (w + 1) := by
  obtain ⟨a1, a2, a3, a4⟩ := h
  refine ⟨a1, a2, fun c b1 b2 b3 => (a3 c b1 b2 b3).trans ⟨?_, ?_⟩, a4⟩
  · rintro ⟨a, u, h1, h2, h3⟩
    exact ⟨a, u, h1, by omega, h3⟩
  · rintro ⟨a, u, h1, h2, h3⟩
    refine ⟨a, u, h1, ?_, h3⟩
    by_cases z : a = k ∧ u = w
    · obtain ⟨z1, z2⟩ := z
      subst z1; subst z2
      obtain ⟨e1, e2, e3, e4⟩ := h3
      rw [Int.toNat_of_nonneg ht] at e4
      exact absurd ⟨by rw [e2]; exact e3, by rw [e2]; exact e4⟩ hw
    · omega
theorem cm_s (h : CmI l r C t k w) (hw : 0 ≤ bes l k w ∧ mgo l r k (bes l k w) t) (hb : bes l k w < 48) (hk : 0 ≤ k) (h0 : 0 ≤ w ∧ w ≤ 4) (he : rea l r t.toNat k) (ht : 0 ≤ t) : CmI l r (u1 C (48 * (t + 1) + bes l k w) 1) t k (w + 1) := by
  obtain ⟨a1, a2, a3, a4⟩ := h
  refine ⟨fun i b1 b2 => ?_, fun t' b1 b2 c b3 b4 => ?_, fun c b1 b2 b3 => ?_, fun i b1 b2 => ?_⟩
  · by_cases z : i = 48 * (t + 1) + bes l k w
    · rw [z, u1_eq]; omega
    · rw [u1_ne z]; exact a1 i b1 b2
  · rw [u1_ne (by omega)]
    exact a2 t' b1 b2 c b3 b4
  · by_cases z : c = bes l k w
    · rw [z, u1_eq]
      refine ⟨fun _ => ⟨k, w, ⟨hk, h0⟩, .inr ⟨rfl, by omega⟩, he, rfl, hw.1, ?_⟩, fun _ => rfl⟩
      rw [Int.toNat_of_nonneg ht]
      exact hw.2
    · rw [u1_ne (by omega)]
      refine (a3 c b1 b2 b3).trans ⟨?_, ?_⟩
      · rintro ⟨a, u, h1, h2, h3⟩
        exact ⟨a, u, h1, by omega, h3⟩
      · rintro ⟨a, u, h1, h2, h3⟩
        refine ⟨a, u, h1, ?_, h3⟩
        by_cases y : a = k ∧ u = w
        · obtain ⟨z1, z2⟩ := y
          subst z1; subst z2
          exact absurd h3.2.1.symm z
        · omega
  · rw [u1_ne (by omega)]
    exact a4 i b1 b2
theorem cm_t (hR : RgC l) (hr : isR l r) (h : CmI l r C t (cs l) 0) (ht : 0 ≤ t) (h30 : t < 30) : CmI l r C (t + 1) 0 0 := by
  have gc := hR.2.2.2.2.2.1
  obtain ⟨a1, a2, a3, a4⟩ := h
  refine ⟨a1, fun t' b1 b2 c b3 b4 => ?_, fun c b1 b2 b3 => ?_, fun i b1 b2 => a4 i (by omega) b2⟩
  · by_cases z : t' = t + 1
    · subst z
      rw [a3 c b3 b4 h30, show (t + 1).toNat = t.toNat + 1 by omega]
      constructor
      · rintro ⟨a, u, h1, h2, h3, h4, h5, h6⟩
        have ha := rea_c hR hr h3
        obtain ⟨v, hv, ev⟩ := bes_sym hR ha (w := u) h1.2 h4 h5
        have hb := besC_r (w := u) hR ha
        rw [h4] at hb
        exact ⟨by omega, v, hv, by rw [ev]; exact h1.1, by rw [ev]; exact h3, by rw [ev]; exact h6⟩
      · rintro ⟨h1, u, h2, h3, h4, h5⟩
        have ha := rea_c hR hr h4
        obtain ⟨v, hv, ev⟩ := bes_sym hR h1 (w := u) h2 rfl h3
        exact ⟨bes l c u, v, ⟨h3, hv⟩, .inl ha.2, h4, ev, h1.1, h5⟩
    · exact a2 t' b1 (by omega) c b3 b4
  · rw [a4 _ (by omega) (by omega)]
    refine ⟨fun e => absurd e (by decide), ?_⟩
    rintro ⟨a, u, h1, h2, h3⟩
    omega
theorem cm_0 (hR : RgC l) (hr : isR l r) {f : Int → Int} : CmI l r (u1 (zro f 0 1488) (rb l r 0) 1) 0 0 0 := by
  have gc := hR.2.2.2.2.2.1
  have hc := (rgc_r hR hr).1
  have hz (i : Int) (h1 : 0 ≤ i) (h2 : i < 1488) : zro f 0 1488 i = 0 := if_pos (by omega)
  refine ⟨fun i b1 b2 => ?_, fun t' b1 b2 c b3 b4 => ?_, fun c b1 b2 b3 => ?_, fun i b1 b2 => ?_⟩
  · by_cases z : i = rb l r 0
    · rw [z, u1_eq]; omega
    · rw [u1_ne z, hz i b1 b2]; omega
  · rw [show t' = 0 by omega]
    by_cases z : c = rb l r 0
    · rw [z, show 48 * 0 + rb l r 0 = rb l r 0 by omega, u1_eq]
      exact ⟨fun _ => (rfl : rb l r 0 = rb l r 0), fun _ => rfl⟩
    · rw [u1_ne (by omega), hz _ (by omega) (by omega)]
      exact ⟨fun e => absurd e (by decide), fun e => absurd (show c = rb l r 0 from e) z⟩
  · rw [u1_ne (by omega), hz _ (by omega) (by omega)]
    refine ⟨fun e => absurd e (by decide), ?_⟩
    rintro ⟨a, u, h1, h2, h3⟩
    omega
  · rw [u1_ne (by omega), hz _ (by omega) (by omega)]
end RA3
