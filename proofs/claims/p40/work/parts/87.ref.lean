/-! the one string: charAt, indexOf (printed by program) -/
section RB4
variable {E : q_E} {h h' : q_H} {N sa ba : Nat} {Mm M' : q_M} {pc : Nat} {ls st : List Value} {c k z : Int}
theorem sb_g (h0 : h.1 ba = none) (hb : E.2 ba = some (.byte, 4, q_vf [46, 35, 43, 64])) (h1 : 0 ≤ z) (h2 : z < 4) : q_gB E h ba (zi z) = some (.int (zi (sgn z))) := by
  unfold q_gB
  rw [h0]
  simp only [hb]
  rw [if_pos (zi_in h1 (n := 4) h2 (by decide)), zi_nat h1 (by omega)]
  rfl
theorem sb_l (h0 : h.1 ba = none) (hb : E.2 ba = some (.byte, 4, q_vf [46, 35, 43, 64])) : q_len E h ba = some (zi 4) := by
  unfold q_len
  rw [h0]
  simp only [hb]
  rfl
theorem i2b_d : ∀ c : Fin 256, (zi ((c : Nat) : Int)).toInt8.toInt32 = zi (if ((c : Nat) : Int) < 128 then ((c : Nat) : Int) else ((c : Nat) : Int) - 256) := by decide +kernel
theorem i2b_c (h : 0 ≤ c ∧ c < 256) : (zi c).toInt8.toInt32 = zi (if c < 128 then c else c - 256) := by
  have := i2b_d ⟨c.toNat, by omega⟩
  have e : ((c.toNat : Nat) : Int) = c := Int.toNat_of_nonneg h.1
  simp only [e] at this
  exact this
theorem sgn_255 (hk : 0 ≤ k ∧ k < 4) : zi (sgn k) &&& zi 255 = zi (sgn k) := by
  rcases (by omega : k = 0 ∨ k = 1 ∨ k = 2 ∨ k = 3) with z | z | z | z <;> rw [z] <;> decide +kernel
end RB4
