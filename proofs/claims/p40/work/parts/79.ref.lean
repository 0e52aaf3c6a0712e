/-! the reference: from where a plan can still be ended (printed by program) -/
section RA5
variable {E : q_E} {h : q_H} {am : Nat} {M M2 : q_Im} {l G : Int → Int} {r g T t k w v : Int}
/-- n ticks before T: the goal can still be come to, at T and not at T - 1 -/
def gos (l : Int → Int) (r g T : Int) : Nat → Int → Prop
  | 0, c => c = g
  | n + 1, c => isC l c ∧ (∃ w, (0 ≤ w ∧ w ≤ 4) ∧ 0 ≤ bes l c w ∧ mgo l r c (bes l c w) (T - n - 1) ∧ gos l r g T n (bes l c w)) ∧ ¬ (n = 0 ∧ c = g)
theorem gos_c {n : Nat} {c : Int} (hg : isC l g) (h : gos l r g T n c) : isC l c := by
  cases n with
  | zero => rw [show c = g from h]; exact hg
  | succ n => exact h.1
abbrev gosE (l : Int → Int) (r g T t c u : Int) : Prop := 0 ≤ bes l c u ∧ gos l r g T (T - t - 1).toNat (bes l c u) ∧ mgo l r c (bes l c u) t
theorem gos_s (h1 : 0 ≤ t) (h2 : t < T) {c : Int} : gos l r g T (T - t).toNat c ↔ isC l c ∧ (∃ w, (0 ≤ w ∧ w ≤ 4) ∧ gosE l r g T t c w) ∧ ¬ (t = T - 1 ∧ c = g) := by
  rw [show (T - t).toNat = (T - t - 1).toNat + 1 by omega]
  show (isC l c ∧ (∃ w, (0 ≤ w ∧ w ≤ 4) ∧ 0 ≤ bes l c w ∧ mgo l r c (bes l c w) (T - ((T - t - 1).toNat : Int) - 1) ∧ gos l r g T (T - t - 1).toNat (bes l c w)) ∧ ¬ ((T - t - 1).toNat = 0 ∧ c = g)) ↔ _
  rw [show T - ((T - t - 1).toNat : Int) - 1 = t by omega]
  refine and_congr_right fun _ => and_congr ⟨?_, ?_⟩ ⟨fun a b => a ⟨by omega, b.2⟩, fun a b => a ⟨by omega, b.2⟩⟩
  · rintro ⟨w, a, b, c, d⟩
    exact ⟨w, a, b, d, c⟩
  · rintro ⟨w, a, b, c, d⟩
    exact ⟨w, a, b, d, c⟩
def GoI (l : Int → Int) (r g T : Int) (G : Int → Int) (t k : Int) : Prop := (∀ i, 0 ≤ i → i < 1488 → 0 ≤ G i ∧ G i ≤ 1) ∧ (∀ t', t < t' → 0 ≤ t' → t' ≤ T → ∀ c, 0 ≤ c → c < 48 → (G (48 * t' + c) = 1 ↔ gos l r g T (T - t').toNat c)) ∧ (0 ≤ t → ∀ c, 0 ≤ c → c < 48 → (G (48 * t + c) = 1 ↔ c < k ∧ gos l r g T (T - t).toNat c)) ∧ ∀ i, 0 ≤ i → i < 48 * t → G i = 0
theorem go_k (h : GoI l r g T G t k) (ht : 0 ≤ t) (hk : 0 ≤ k) (k48 : k < 48) (v0 : 0 ≤ v ∧ v ≤ 1) (hv : v = 1 ↔ gos l r g T (T - t).toNat k) : GoI l r g T (u1 G (48 * t + k) v) t (k + 1) := by
  obtain ⟨a1, a2, a3, a4⟩ := h
  refine ⟨fun i b1 b2 => ?_, fun t' b0 b1 b2 c b3 b4 => ?_, fun b0 c b1 b2 => ?_, fun i b1 b2 => ?_⟩
  · by_cases z : i = 48 * t + k
    · rw [z, u1_eq]; exact v0
    · rw [u1_ne z]; exact a1 i b1 b2
  · rw [u1_ne (by omega)]
    exact a2 t' b0 b1 b2 c b3 b4
  · by_cases z : c = k
    · rw [z, u1_eq, hv]
      exact ⟨fun e => ⟨by omega, e⟩, fun e => e.2⟩
    · rw [u1_ne (by omega), a3 b0 c b1 b2]
      exact ⟨fun e => ⟨by omega, e.2⟩, fun e => ⟨by omega, e.2⟩⟩
  · rw [u1_ne (by omega)]
    exact a4 i b1 b2
theorem go_t (hg : isC l g) (h : GoI l r g T G t (cs l)) (ht : 0 ≤ t) : GoI l r g T G (t - 1) 0 := by
  obtain ⟨a1, a2, a3, a4⟩ := h
  refine ⟨a1, fun t' b0 b1 b2 c b3 b4 => ?_, fun b0 c b1 b2 => ?_, fun i b1 b2 => a4 i b1 (by omega)⟩
  · by_cases z : t' = t
    · subst z
      rw [a3 ht c b3 b4]
      exact ⟨fun e => e.2, fun e => ⟨(gos_c hg e).2, e⟩⟩
    · exact a2 t' (by omega) b1 b2 c b3 b4
  · rw [a4 _ (by omega) (by omega)]
    exact ⟨fun e => absurd e (by decide), fun e => by omega⟩
theorem go_0 (gc : 2 ≤ cs l ∧ cs l ≤ 48) (hg : isC l g) (hT : 1 ≤ T ∧ T ≤ 30) {f : Int → Int} : GoI l r g T (u1 (zro f 0 1488) (48 * T + g) 1) (T - 1) 0 := by
  have hz (i : Int) (h1 : 0 ≤ i) (h2 : i < 1488) : zro f 0 1488 i = 0 := if_pos (by omega)
  refine ⟨fun i b1 b2 => ?_, fun t' b0 b1 b2 c b3 b4 => ?_, fun b0 c b1 b2 => ?_, fun i b1 b2 => ?_⟩
  · by_cases z : i = 48 * T + g
    · rw [z, u1_eq]; omega
    · rw [u1_ne z, hz i b1 b2]; omega
  · rw [show t' = T by omega, show (T - T).toNat = 0 by omega]
    by_cases z : c = g
    · rw [z, u1_eq]
      exact ⟨fun _ => (rfl : g = g), fun _ => rfl⟩
    · rw [u1_ne (by omega), hz _ (by omega) (by omega)]
      exact ⟨fun e => absurd e (by decide), fun e => absurd (show c = g from e) z⟩
  · rw [u1_ne (by omega), hz _ (by omega) (by omega)]
    exact ⟨fun e => absurd e (by decide), fun e => by omega⟩
  · rw [u1_ne (by omega), hz _ (by omega) (by omega)]
end RA5
