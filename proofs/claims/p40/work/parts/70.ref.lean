/-! the reference: an order (printed by program) -/
section RV
variable {E : q_E} {h : q_H} {am : Nat} {M M2 : q_Im} {l g : Int → Int} {y k : Int}
noncomputable def mOrd (l : Int → Int) (d a b c : Int) : Int × Int := if ¬ (isC l a ∧ (isC l b ∨ b = -1) ∧ (isC l c ∨ c = -1)) then (1, 0) else if ¬ inn d 0 999 ∨ (b = -1 ∧ ¬ c = -1) then (2, 0) else if l 4 = 10 then (3, 0) else if ¬ l (8 + a) = 0 then (12, a) else if ¬ b = -1 ∧ ¬ l (8 + b) = 0 then (12, b) else if ¬ b = -1 ∧ ¬ c = -1 ∧ ¬ l (8 + c) = 0 then (12, c) else (0, 0)
/-- how many lines -/
def cntO (b c : Int) : Int := if b = -1 then 1 else if c = -1 then 2 else 3
def rO1 (l : Int → Int) (d n : Int) (W : Int → Int) : Int → Int := cpI W (u1 (u1 (u1 (u1 (u1 l (320 + 8 * l 4 + 0) d) (320 + 8 * l 4 + 1) n) (320 + 8 * l 4 + 2) 0) (320 + 8 * l 4 + 3) (-1)) (320 + 8 * l 4 + 4) (-1)) 0 (320 + 8 * l 4 + 5) 3
def rOrd (l : Int → Int) (d n : Int) (W : Int → Int) : Int → Int := u1 (rO1 l d n W) 4 (rO1 l d n W 4 + 1)
def lnO (M : q_Im) (a b c : Int) : q_Im := uM (uM (uM (uM M 0 5 0) 4 0 a) 4 1 b) 4 2 c
noncomputable def mMu2 (M1 : q_Im) (rf : Int × Int) (v : Int) (l' : Int → Int) : Int × q_Im := if rf.1 = 0 then (v, uA (mch M1) 1 l') else (0, mrf M1 rf.1 rf.2)
end RV
