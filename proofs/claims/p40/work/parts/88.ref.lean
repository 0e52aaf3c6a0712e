/-! the reference: letter, tour (printed by program) -/
section RB5
variable {E : q_E} {h : q_H} {am N : Nat} {M M2 : q_Im} {l F f : Int → Int} {r g T t k w v c e d a b s n x y : Int}
noncomputable def letM (l : Int → Int) (c : Int) : Int × Int := if ¬ isC l c then (1, 32) else if 0 ≤ rin l c 0 then (0, 48 + rin l c 0) else if l (56 + c) = 1 then (0, 120) else (0, sgn (l (8 + c)))
/-- sum, last line, whether there is a way so far -/
def trD (l : Int → Int) (o : Int) : Nat → Int → Int → Int → Int → Int × Int × Int
  | 0, _, a, b, y => (a, b, y)
  | n + 1, k, a, b, y => trD l o n (k + 1) (a + far l b (ob l o (5 + k))) (ob l o (5 + k)) (if ¬ y = 0 ∧ 0 ≤ far l b (ob l o (5 + k)) then 1 else 0)
theorem trD_b {o : Int} (hk : k < n) : trD l o (n - k).toNat k a b y = trD l o (n - (k + 1)).toNat (k + 1) (a + far l b (ob l o (5 + k))) (ob l o (5 + k)) (if ¬ y = 0 ∧ 0 ≤ far l b (ob l o (5 + k)) then 1 else 0) := by
  rw [show (n - k).toNat = (n - (k + 1)).toNat + 1 by omega]; rfl
theorem trD_e {o : Int} (hk : n ≤ k) : trD l o (n - k).toNat k a b y = (a, b, y) := by
  rw [show (n - k).toNat = 0 by omega]; rfl
def nrF (l : Int → Int) (b k x : Int) : Int := if (l (8 + k) = 3 ∧ 0 ≤ far l b k) ∧ (x < 0 ∨ far l b k < x) then far l b k else x
def nrD (l : Int → Int) (b : Int) : Int := lpI (nrF l b) (cs l).toNat 0 (-1)
def trW (l : Int → Int) (o : Int) : Int × Int × Int := trD l o (ob l o 1 - 1).toNat 1 0 (ob l o 5) 1
def touM (l : Int → Int) (o : Int) : Int × Int := if ¬ isO l o then (1, 0) else if ¬ (trW l o).2.2 = 0 ∧ 0 ≤ nrD l (trW l o).2.1 then (0, (trW l o).1 + nrD l (trW l o).2.1) else (2, 0)
end RB5
