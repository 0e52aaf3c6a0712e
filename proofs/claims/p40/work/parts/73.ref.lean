/-! the reference: how far the cells are from one (printed by program) -/
section RY
variable {E : q_E} {h : q_H} {am : Nat} {M M2 : q_Im} {l g : Int → Int} {y k : Int}
def fil (f : Int → Int) (k : Int) : Int → Int := fun i => if 0 ≤ i ∧ i < k then -1 else f i
theorem fil_0 {f : Int → Int} : fil f 0 = f := funext fun i => if_neg (by omega)
theorem fil_s {f : Int → Int} (hk : 0 ≤ k) : u1 (fil f k) k (-1) = fil f (k + 1) := by
  funext i
  show (if i = k then (-1 : Int) else if 0 ≤ i ∧ i < k then -1 else f i) = if 0 ≤ i ∧ i < k + 1 then -1 else f i
  by_cases q : i = k
  · rw [if_pos q, if_pos (by omega)]
  · rw [if_neg q]
    by_cases q2 : 0 ≤ i ∧ i < k
    · rw [if_pos q2, if_pos (by omega)]
    · rw [if_neg q2, if_neg (by omega)]
end RY
