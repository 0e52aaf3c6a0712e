/-! the reference: small readers (printed by program) -/
section RQ
variable {E : q_E} {h : q_H} {am : Nat} {M M2 : q_Im} {l : Int → Int}
def plaM (l : Int → Int) (r t : Int) : Int × Int := if ¬ isR l r then (1, 0) else if t < 0 then (2, 0) else (0, ahd l r t)
noncomputable def resM (l : Int → Int) (c t : Int) : Int × Int := if ¬ isC l c then (1, 0) else if t < 0 then (2, 0) else (0, rin l c t)
noncomputable def ordM (l : Int → Int) (o w : Int) : Int × Int := if ¬ isO l o then (1, 0) else if ¬ inn w 0 5 then (2, 0) else if w = 3 then (0, sto l o) else if w = 4 then (0, ob l o 3) else if w = 5 then (0, ob l o 4) else (0, ob l o w)
def linM (l : Int → Int) (o i : Int) : Int × Int := if ¬ (isO l o ∧ inn i 0 (ob l o 1 - 1)) then (1, 0) else (0, ob l o (5 + i))
noncomputable def robM (l : Int → Int) (r w : Int) : Int × Int := if ¬ isR l r then (1, 0) else if ¬ inn w 0 6 then (2, 0) else if w = 3 then (0, rb l r 3) else if w = 4 then (0, if rb l r 3 = 0 then -1 else ahd l r 30) else if w = 5 then (0, bI (ldd l r)) else if w = 6 then (0, rb l r 5) else (0, rb l r w)
def reaM (k d w : Int) : Int × Int := if k = 0 then (1, 0) else if w = 0 then (0, k) else (0, d)
end RQ
