/-! the reference: text, save, restore, undo; a cell (printed by program) -/
section RR
variable {E : q_E} {h : q_H} {am : Nat} {M M2 : q_Im} {l : Int → Int}
def mSav (M : q_Im) : q_Im := uM (uA (uM M 0 5 0) 2 (cpI (M 1) (M 2) 0 0 400)) 0 2 1
def mRes (M : q_Im) : q_Im := if M 0 2 = 0 then uM M 0 5 1 else uM (uA (uM M 0 5 0) 1 (cpI (M 2) (M 1) 0 0 400)) 0 4 0
def mUnd (M : q_Im) : q_Im := if M 0 4 = 0 then uM M 0 5 1 else uA (uM (uM M 0 5 0) 0 4 (M 0 4 - 1)) 1 (cpI (M 3) (M 1) (400 * (M 0 4 - 1)) 0 400)
def mApp (M : q_Im) (c : Int) : q_Im := if M 0 16 = 60 then uM M 0 5 1 else uM (uM (uM M 0 5 0) 11 (M 0 16) c) 0 16 (M 0 16 + 1)
noncomputable def celM (l : Int → Int) (c w : Int) : Int × Int := if ¬ isC l c then (1, 0) else if ¬ inn w 0 3 then (2, 0) else if w = 0 then (0, l (8 + c)) else if w = 1 then (0, bI (ent l c)) else if w = 2 then (0, rin l c 0) else (0, nbC l c)
noncomputable def accM (M : q_Im) (w : Int) : Int × Int := if ¬ inn w 0 16 then (1, 0) else if w = 0 then (0, M 1 0) else if w = 1 then (0, M 1 1) else if w = 2 then (0, M 1 3) else if w = 3 then (0, M 1 4) else if w = 4 ∨ w = 5 ∨ w = 6 then (0, ovO (M 1) (w - 4)) else if w = 7 then (0, ccl (M 1)) else if w = 8 then (0, M 1 2) else if w = 9 then (0, ovR (M 1) 5) else if w = 10 then (0, ovO (M 1) (-1)) else if w = 11 then (0, ovR (M 1) 1) else if w = 12 then (0, M 0 4) else if w = 13 then (0, M 0 16) else (0, M 1 (5 + w - 14))
end RR
