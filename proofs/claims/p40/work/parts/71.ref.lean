/-! the reference: a plan's end (printed by program) -/
section RW
variable {E : q_E} {h : q_H} {am : Nat} {M M2 : q_Im} {l g : Int → Int} {y k : Int}
def enL (l : Int → Int) (y : Int) : Int → Int := if rb l y 2 < 0 then l else if ob l (rb l y 2) 2 < ob l (rb l y 2) 1 then u1 l (320 + 8 * rb l y 2 + 2) (ob l (rb l y 2) 2 + (if ob l (rb l y 2) (5 + ob l (rb l y 2) 2) = rb l y 0 then 1 else 0)) else if l (8 + rb l y 0) = 3 then u1 (u1 (u1 l (320 + 8 * rb l y 2 + 4) (l 2)) (320 + 8 * rb l y 2 + 3) (-1)) (104 + 36 * y + 2) (-1) else l
def enV (l : Int → Int) (y : Int) : Int := if rb l y 2 < 0 then 0 else if ob l (rb l y 2) 2 < ob l (rb l y 2) 1 then 0 else if l (8 + rb l y 0) = 3 then 1 else 0
end RW
