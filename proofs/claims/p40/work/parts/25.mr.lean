/-! what the reference's methods answer, readings (printed by program) -/
section MR
variable {E : q_E} {h : q_H} {am : Nat} {M : q_Im}
theorem ahd_r {s : Int → Int} (hR : Rg s) {r t : Int} (h1 : isR s r) (h2 : 0 ≤ t) : 0 ≤ ahd s r t ∧ ahd s r t < cs s := by
  obtain ⟨hr, g0, g1, g3, g4, gc, g5, g6, g7, gk, gl, gr, go⟩ := hR
  obtain ⟨e0, e1, e2, e3, e4, e5, e6⟩ := gr r h1.1 h1.2
  unfold ahd ahf
  split
  · exact e0
  · split
    · have := e6 (rb s r 3 - 1) (by omega) (by omega)
      rw [show 6 + rb s r 3 - 1 = 6 + (rb s r 3 - 1) by omega]
      exact this
    · have := e6 (t - 1) (by omega) (by omega)
      rw [show 6 + t - 1 = 6 + (t - 1) by omega]
      exact this
end MR
