/-! the reference: add (printed by program) -/
section RN
variable {E : q_E} {h : q_H} {am : Nat} {M M2 : q_Im}
def zro (l : Int → Int) (a k : Int) : Int → Int := fun i => if a ≤ i ∧ i < a + k then 0 else l i
theorem zro_0 {l : Int → Int} {a : Int} : zro l a 0 = l := funext fun i => if_neg (by omega)
theorem zro_s {l : Int → Int} {a k : Int} (hk : 0 ≤ k) : u1 (zro l a k) (a + k) 0 = zro l a (k + 1) := by
  funext i
  show (if i = a + k then (0 : Int) else if a ≤ i ∧ i < a + k then 0 else l i) = if a ≤ i ∧ i < a + (k + 1) then 0 else l i
  by_cases q : i = a + k
  · rw [if_pos q, if_pos (by omega)]
  · rw [if_neg q]
    by_cases q2 : a ≤ i ∧ i < a + k
    · rw [if_pos q2, if_pos (by omega)]
    · rw [if_neg q2, if_neg (by omega)]
theorem uM_uA {f : Int → Int} {j : Nat} {k v : Int} : uM (uA M j f) j k v = uA M j (u1 f k v) := by
  show uA (uA M j f) j (u1 (uA M j f j) k v) = _
  rw [uA_uA, uA_eq]
/-- why the reference refuses to add: 0 if it does not -/
noncomputable def mAdd (l : Int → Int) (c b : Int) : Int × Int := if ¬ isC l c then (1, 0) else if ¬ inn b 0 99 then (2, 0) else if l 3 = 6 then (3, 0) else if ¬ ent l c then (4, c) else if 0 ≤ wbe l c 0 (-1) then (5, wbe l c 0 (-1)) else (0, 0)
def rAdd (l : Int → Int) (c b : Int) : Int → Int := u1 (u1 (u1 (u1 (zro l (104 + 36 * l 3) 36) (104 + 36 * l 3) c) (104 + 36 * l 3 + 1) b) (104 + 36 * l 3 + 2) (-1)) 3 (l 3 + 1)
/-- how a change of the reference ends -/
noncomputable def mMut (M : q_Im) (rf : Int × Int) (v : Int) (l' : Int → Int) : Int × q_Im := if rf.1 = 0 then (v, uA (mch (uM M 0 5 0)) 1 l') else (0, mrf (uM M 0 5 0) rf.1 rf.2)
end RN
