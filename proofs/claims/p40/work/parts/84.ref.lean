/-! the reference: pass (printed by program) -/
section RB1
variable {E : q_E} {h : q_H} {am : Nat} {M M2 : q_Im} {l l0 f : Int → Int} {r g T t k w v c e d b s : Int}
def mPas (t : Int) : Int × Int := if ¬ inn t 1 99 then (2, 0) else (0, 0)
def pmL : Nat → (Int → Int) → (Int → Int)
  | 0, l => l
  | n + 1, l => pmL n (tmL l)
def pmV : Nat → (Int → Int) → Int → Int
  | 0, _, d => d
  | n + 1, l, d => pmV n (tmL l) (d + tmV l)
theorem pm_b {n : Int} (h : k < n) : pmL (n - k).toNat l = pmL (n - (k + 1)).toNat (tmL l) ∧ pmV (n - k).toNat l d = pmV (n - (k + 1)).toNat (tmL l) (d + tmV l) := by
  rw [show (n - k).toNat = (n - (k + 1)).toNat + 1 by omega]; exact ⟨rfl, rfl⟩
theorem pm_e {n : Int} (h : n ≤ k) : pmL (n - k).toNat l = l ∧ pmV (n - k).toNat l d = d := by
  rw [show (n - k).toNat = 0 by omega]; exact ⟨rfl, rfl⟩
end RB1
