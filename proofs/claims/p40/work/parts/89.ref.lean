/-! the reference: layout (printed by program) -/
section RB6
variable {E : q_E} {h : q_H} {am N : Nat} {M M2 : q_Im} {l F f q : Int → Int} {r g T t k w v c e d a b s n x y R C R' C' : Int}
/-- where the text goes wrong (-1: nowhere), rows and columns read -/
def wpl (q : Int → Int) (n : Int) : Nat → Int → Int → Int → Int → Int × Int × Int
  | 0, _, x, R, C => (if x < 2 ∨ x < (if R = 1 then x else C) then n else -1, R, if R = 1 then x else C)
  | m + 1, k, x, R, C => if 0 ≤ kd (q k) then (if x = (if R = 1 then 8 else C) then (k, R, C) else wpl q n m (k + 1) (x + 1) R C) else if (q k = 47 ∧ R < 6) ∧ ((R = 1 ∧ 2 ≤ x) ∨ (¬ R = 1 ∧ x = C)) then wpl q n m (k + 1) 0 (R + 1) (if R = 1 then x else C) else (k, R, C)
theorem wpl_b (hk : k < n) : wpl q n (n - k).toNat k x R C = if 0 ≤ kd (q k) then (if x = (if R = 1 then 8 else C) then (k, R, C) else wpl q n (n - (k + 1)).toNat (k + 1) (x + 1) R C) else if (q k = 47 ∧ R < 6) ∧ ((R = 1 ∧ 2 ≤ x) ∨ (¬ R = 1 ∧ x = C)) then wpl q n (n - (k + 1)).toNat (k + 1) 0 (R + 1) (if R = 1 then x else C) else (k, R, C) := by
  rw [show (n - k).toNat = (n - (k + 1)).toNat + 1 by omega]; rfl
theorem wpl_e (hk : n ≤ k) : wpl q n (n - k).toNat k x R C = (if x < 2 ∨ x < (if R = 1 then x else C) then n else -1, R, if R = 1 then x else C) := by
  rw [show (n - k).toNat = 0 by omega]; rfl
def wpW (q : Int → Int) (n : Int) : Int × Int × Int := wpl q n n.toNat 0 0 1 0
theorem im_2 {u v : Int} : uM (uM (uM (uM M 0 18 R) 0 19 C) 0 19 u) 0 18 v = uM (uM M 0 18 v) 0 19 u := by
  show uA (uA (uA (uA M 0 (u1 (M 0) 18 R)) 0 _) 0 _) 0 _ = uA (uA M 0 (u1 (M 0) 18 v)) 0 _
  simp only [uA_uA, uA_eq]
  congr 1
  rw [u1_u1, u1_comm (show (18 : Int) ≠ 19 by decide), u1_u1, u1_comm (show (18 : Int) ≠ 19 by decide)]
theorem im_3 {u : Int} : uM (uM (uM M 0 18 R) 0 19 C) 0 19 u = uM (uM M 0 18 R) 0 19 u := by
  show uA (uA (uA M 0 (u1 (M 0) 18 R)) 0 _) 0 _ = uA (uA M 0 (u1 (M 0) 18 R)) 0 _
  simp only [uA_uA, uA_eq]
  congr 1
  rw [u1_u1]
end RB6
