/-! the reference: release, cancel, set (printed by program) -/
section RO
variable {E : q_E} {h : q_H} {am : Nat} {M M2 : q_Im}
noncomputable def mRel (l : Int → Int) (r : Int) : Int × Int := if ¬ isR l r then (1, 0) else if rb l r 2 < 0 then (7, -1) else (0, 0)
def rRel (l : Int → Int) (r : Int) : Int → Int := u1 (u1 (u1 l (104 + 36 * r + 2) (-1)) (320 + 8 * (rb l r 2) + 3) (-1)) (320 + 8 * (rb l r 2) + 2) 0
noncomputable def mCan (l : Int → Int) (r : Int) : Int × Int := if ¬ isR l r then (1, 0) else if rb l r 3 = 0 then (14, 0) else if 0 ≤ wbe l (rb l r 0) 1 r then (5, wbe l (rb l r 0) 1 r) else (0, 0)
def rCan (l : Int → Int) (r : Int) : Int → Int := u1 l (104 + 36 * r + 3) 0
def mSet (w v : Int) : Int × Int := if ¬ (inn w 0 2 ∧ inn v 1 (mst w)) then (2, 0) else (0, 0)
def rSet (l : Int → Int) (w v : Int) : Int → Int := u1 l (5 + w) v
end RO
