/-! the reference: distance (printed by program) -/
section RZ
variable {E : q_E} {h : q_H} {am : Nat} {M M2 : q_Im} {l g : Int → Int} {y k : Int}
/-- the same state, thrown told anew; rows 4 to 10 are free -/
def MS (M M' : q_Im) (t : Int) : Prop := M' 0 = u1 (M 0) 5 t ∧ M' 1 = M 1 ∧ M' 2 = M 2 ∧ M' 3 = M 3 ∧ M' 11 = M 11
def disM (l : Int → Int) (a b : Int) : Int × Int := if ¬ (isC l a ∧ isC l b) then (1, 0) else if far l a b < 0 then (2, 0) else (0, far l a b)
end RZ
