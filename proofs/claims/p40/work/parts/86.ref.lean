/-! the reference: distances by a table, the walk (printed by program) -/
section RB3
variable {E : q_E} {h : q_H} {am : Nat} {M M2 : q_Im} {l F f : Int → Int} {r g T t k w v c e d a b s : Int}
noncomputable def arrM (l : Int → Int) (r g : Int) : Int × Int := if ¬ (isR l r ∧ isC l g) then (1, 0) else if rb l r 0 = g then (0, 0) else if ¬ ent l g then (2, 0) else if fwM l r g < 0 then (2, 0) else (0, fwM l r g)
end RB3
