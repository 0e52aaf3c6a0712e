/-! the reference: reach, farthest (printed by program) -/
section RA1
variable {E : q_E} {h : q_H} {am : Nat} {M M2 : q_Im} {l g : Int → Int} {y k b : Int}
noncomputable def rcN (l : Int → Int) (a : Int) : Int := lpI (fun k x => x + bI (0 ≤ far l a k)) (cs l).toNat 0 0
noncomputable def rchM (l : Int → Int) (a : Int) : Int × Int := if ¬ isC l a then (1, 0) else (0, rcN l a)
def frD (l : Int → Int) (a : Int) : Nat → Int → Int
  | 0, b => b
  | n + 1, b => frD l a n (if far l a b ≤ far l a (n : Nat) then (n : Nat) else b)
theorem frD_b (hk : 0 ≤ k) : frD l y (k + 1).toNat b = frD l y k.toNat (if far l y b ≤ far l y k then k else b) := by
  rw [show (k + 1).toNat = k.toNat + 1 by omega]
  show frD l y k.toNat (if far l y b ≤ far l y (k.toNat : Nat) then (k.toNat : Nat) else b) = _
  rw [Int.toNat_of_nonneg hk]
def frtM (l : Int → Int) (a : Int) : Int × Int := if ¬ isC l a then (1, 0) else (0, frD l a (cs l).toNat a)
end RA1
