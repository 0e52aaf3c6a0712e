/-! the reference: where a plan can end (printed by program) -/
section RX
variable {E : q_E} {h : q_H} {am : Nat} {M M2 : q_Im} {l g : Int → Int} {y k : Int}
/-- a cell beside from which one comes to g at tick t -/
def cmE (M : q_Im) (r g t w : Int) : Prop := 0 ≤ bes (M 1) g w ∧ ¬ M 5 (48 * (t - 1) + bes (M 1) g w) = 0 ∧ mgo (M 1) r (bes (M 1) g w) g (t - 1)
def cnE (M : q_Im) (r g t : Int) : Prop := (∃ w, (0 ≤ w ∧ w < 4) ∧ cmE M r g t w) ∧ wbe (M 1) g (t + 1) r < 0
end RX
