/-! the reference: plan (printed by program) -/
section RA7
variable {E : q_E} {h : q_H} {am : Nat} {M M2 : q_Im} {l C G P : Int → Int} {r g T t k w v c : Int}
theorem bes_ne (hR : RgC l) (hw : 0 ≤ w ∧ w < 4) : bes l c w ≠ c ∨ bes l c w = -1 := by
  have g1 := hR.2.1
  unfold bes
  repeat' split
  all_goals omega
theorem rea_gos (hR : RgC l) (hr : isR l r) (hT : T ≤ 30) : ∀ (n : Nat) (c : Int), rea l r n c → (n : Int) < T → gos l r g T (T - n).toNat c → gos l r g T T.toNat (rb l r 0) := by
  intro n
  induction n with
  | zero =>
    intro c h1 h2 h3
    rw [show c = rb l r 0 from h1, show T - ((0 : Nat) : Int) = T by omega] at h3
    exact h3
  | succ n ih =>
    rintro c ⟨h1, w, hw, h0, h2, hm⟩ h3 h4
    refine ih (bes l c w) h2 (by omega) ?_
    have hd := rea_c hR hr h2
    obtain ⟨u, hu, eu⟩ := bes_sym hR h1 (w := w) hw rfl h0
    rw [gos_s (by omega) (by omega)]
    refine ⟨hd, ⟨u, hu, by rw [eu]; exact h1.1, ?_, by rw [eu]; exact hm⟩, by omega⟩
    rw [eu, show T - (n : Int) - 1 = T - ((n + 1 : Nat) : Int) by omega]
    exact h4
theorem fw_gos (hR : RgC l) (hr : isR l r) (hg : isC l g) (h : ¬ fwM l r g < 0) : (1 ≤ fwM l r g ∧ fwM l r g ≤ l 7) ∧ gos l r g (fwM l r g) (fwM l r g).toNat (rb l r 0) := by
  have g7 := hR.2.2.2.2.2.2.2.2.1
  have gc := hR.2.2.2.2.2.1
  obtain ⟨h1, h2, h3⟩ := fnd_p (P := cnL l r g) (n := (l 7).toNat) (k := 1) (show fwM l r g ≠ -1 by omega)
  have h1 : 1 ≤ fwM l r g ∧ fwM l r g < 1 + (l 7).toNat := h1
  have h2 : cnL l r g (fwM l r g) := h2
  generalize hT : fwM l r g = T at *
  refine ⟨by omega, ?_⟩
  obtain ⟨⟨w, hw, h0, hr1, hm⟩, _⟩ := h2
  refine rea_gos hR hr (by omega) (T - 1).toNat _ hr1 (by omega) ?_
  obtain ⟨u, hu, eu⟩ := bes_sym hR hg (w := w) ⟨hw.1, by omega⟩ rfl h0
  rw [Int.toNat_of_nonneg (by omega), gos_s (by omega) (by omega)]
  refine ⟨rea_c hR hr hr1, ⟨u, hu, by rw [eu]; exact hg.1, ?_, by rw [eu]; exact hm⟩, fun z => ?_⟩
  · rw [eu, show (T - (T - 1) - 1).toNat = 0 by omega]
    exact (rfl : g = g)
  · rcases bes_ne (w := w) (c := g) hR hw with y | y
    · exact y z.2
    · omega
theorem mul_b {a b : Int} (ha : 0 ≤ a ∧ a ≤ 3) (hb : 0 ≤ b ∧ b ≤ 30) : 0 ≤ a * b ∧ a * b ≤ 90 := by
  have h1 := Int.mul_nonneg ha.1 hb.1
  have h2 := Int.mul_le_mul_of_nonneg_right ha.2 hb.1
  omega
noncomputable def wtM (l : Int → Int) (r : Int) : Int := if ldd l r then l 6 else 1
noncomputable def mPln (l : Int → Int) (r g : Int) : Int × Int := if ¬ (isR l r ∧ isC l g) then (1, 0) else if 0 < rb l r 3 then (6, rb l r 3) else if rb l r 0 = g then (9, 0) else if ¬ ent l g then (4, g) else if fwM l r g < 0 then (10, 0) else if rb l r 1 < wtM l r * mvM l r g (fwM l r g) then (11, wtM l r * mvM l r g (fwM l r g)) else (0, 0)
noncomputable def rPln (l : Int → Int) (r g : Int) : Int → Int := cpI (gpP l r g (fwM l r g)) (u1 (u1 l (104 + 36 * r + 3) (fwM l r g)) (104 + 36 * r + 4) (wtM l r)) 0 (104 + 36 * r + 6) (fwM l r g)
/-- the same state but for scratch rows -/
def MX (M M' : q_Im) : Prop := M' 0 = M 0 ∧ M' 1 = M 1 ∧ M' 2 = M 2 ∧ M' 3 = M 3 ∧ M' 11 = M 11
theorem cpI_cg {f f' q : Int → Int} {d n : Int} (h : ∀ i, 0 ≤ i → i < n → f i = f' i) : cpI f q 0 d n = cpI f' q 0 d n := by
  funext i
  show (if d ≤ i ∧ i < d + n then f (0 + (i - d)) else q i) = if d ≤ i ∧ i < d + n then f' (0 + (i - d)) else q i
  by_cases z : d ≤ i ∧ i < d + n
  · rw [if_pos z, if_pos z]; exact h _ (by omega) (by omega)
  · rw [if_neg z, if_neg z]
theorem u05 {f : Int → Int} {j : Nat} (hj : 0 ≠ j) : uA (uM M 0 5 v) j f = uM (uA M j f) 0 5 v := by
  show uA (uA M 0 _) j f = uA (uA M j f) 0 (u1 (uA M j f 0) 5 v)
  rw [uA_comm hj, uA_ne hj]
end RA7
