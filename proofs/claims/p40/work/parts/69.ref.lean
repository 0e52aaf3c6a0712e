/-! the reference: a robot taken off (printed by program) -/
section RU
variable {E : q_E} {h : q_H} {am : Nat} {M M2 : q_Im} {l g : Int → Int} {y k : Int}
noncomputable def mTak (l : Int → Int) (y : Int) : Int × Int := if ¬ isR l y then (1, 0) else if 0 ≤ rb l y 2 then (7, rb l y 2) else (0, 0)
/-- the rows behind moved down -/
def rT0 (l : Int → Int) (y : Int) : Int → Int := cpI (u1 l 3 (l 3 - 1)) (u1 l 3 (l 3 - 1)) (104 + 36 * (y + 1)) (104 + 36 * y) (36 * ((u1 l 3 (l 3 - 1)) 3 - y))
/-- the orders' robots told anew -/
def bys (g : Int → Int) (y k : Int) : Int → Int := fun i => if (320 ≤ i ∧ i < 320 + 8 * k ∧ (i - 320) % 8 = 3) ∧ y < g i then g i - 1 else g i
theorem bys_0 : bys g y 0 = g := funext fun i => if_neg (by omega)
theorem bys_k (i : Int) (h : i < 320 ∨ 320 + 8 * k ≤ i) : bys g y k i = g i := if_neg (by omega)
theorem bys_t (hk : 0 ≤ k) (h : y < ob (bys g y k) k 3) : u1 (bys g y k) (320 + 8 * k + 3) (ob (bys g y k) k 3 - 1) = bys g y (k + 1) := by
  have e : ob (bys g y k) k 3 = g (320 + 8 * k + 3) := bys_k _ (by omega)
  rw [e] at h ⊢
  funext i
  by_cases q : i = 320 + 8 * k + 3
  · rw [q, u1_eq]
    exact (if_pos ⟨by omega, h⟩).symm
  · rw [u1_ne q]
    show (if (320 ≤ i ∧ i < 320 + 8 * k ∧ (i - 320) % 8 = 3) ∧ y < g i then g i - 1 else g i) = if (320 ≤ i ∧ i < 320 + 8 * (k + 1) ∧ (i - 320) % 8 = 3) ∧ y < g i then g i - 1 else g i
    by_cases q2 : (320 ≤ i ∧ i < 320 + 8 * k ∧ (i - 320) % 8 = 3) ∧ y < g i
    · rw [if_pos q2, if_pos (by omega)]
    · rw [if_neg q2, if_neg (by omega)]
theorem bys_f (hk : 0 ≤ k) (h : ¬ y < ob (bys g y k) k 3) : u1 (bys g y k) (320 + 8 * k + 3) (ob (bys g y k) k 3 - 0) = bys g y (k + 1) := by
  have e : ob (bys g y k) k 3 = g (320 + 8 * k + 3) := bys_k _ (by omega)
  rw [e] at h ⊢
  funext i
  by_cases q : i = 320 + 8 * k + 3
  · rw [q, u1_eq, Int.sub_zero]
    exact (if_neg (fun z => h z.2)).symm
  · rw [u1_ne q]
    show (if (320 ≤ i ∧ i < 320 + 8 * k ∧ (i - 320) % 8 = 3) ∧ y < g i then g i - 1 else g i) = if (320 ≤ i ∧ i < 320 + 8 * (k + 1) ∧ (i - 320) % 8 = 3) ∧ y < g i then g i - 1 else g i
    by_cases q2 : (320 ≤ i ∧ i < 320 + 8 * k ∧ (i - 320) % 8 = 3) ∧ y < g i
    · rw [if_pos q2, if_pos (by omega)]
    · rw [if_neg q2, if_neg (by omega)]
theorem rT0_o {i : Int} (hi : ¬ i = 3) (h : i < 104 ∨ 320 ≤ i) (hr : isR l y) (hs : l 3 ≤ 6) : rT0 l y i = l i := by
  unfold rT0 cpI
  rw [u1_eq, if_neg (by have := hr.1; have := hr.2; omega), u1_ne hi]
theorem rT0_3 (hr : isR l y) : rT0 l y 3 = l 3 - 1 := by
  unfold rT0 cpI
  rw [u1_eq, if_neg (by have := hr.1; omega)]
end RU
