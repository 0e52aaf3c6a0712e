/-! the reference: suited (printed by program) -/
section RA2
variable {E : q_E} {h : q_H} {am : Nat} {M M2 : q_Im} {l : Int → Int} {y k b s g n : Int}
abbrev suC (l : Int → Int) (g k b s : Int) : Prop := rb l k 2 < 0 ∧ 0 ≤ far l (rb l k 0) g ∧ (b < 0 ∨ far l (rb l k 0) g < s ∨ (far l (rb l k 0) g = s ∧ rb l b 1 < rb l k 1))
def suD (l : Int → Int) (g : Int) : Nat → Int → Int → Int → Int
  | 0, _, b, _ => b
  | n + 1, k, b, s => if suC l g k b s then suD l g n (k + 1) k (far l (rb l k 0) g) else suD l g n (k + 1) b s
theorem suD_t (hk : k < n) (c : suC l g k b s) : suD l g (n - k).toNat k b s = suD l g (n - (k + 1)).toNat (k + 1) k (far l (rb l k 0) g) := by
  rw [show (n - k).toNat = (n - (k + 1)).toNat + 1 by omega]
  exact if_pos c
theorem suD_f (hk : k < n) (c : ¬ suC l g k b s) : suD l g (n - k).toNat k b s = suD l g (n - (k + 1)).toNat (k + 1) b s := by
  rw [show (n - k).toNat = (n - (k + 1)).toNat + 1 by omega]
  exact if_neg c
theorem suD_e (hk : n ≤ k) : suD l g (n - k).toNat k b s = b := by
  rw [show (n - k).toNat = 0 by omega]
  rfl
def suW (l : Int → Int) (o : Int) : Int := suD l (ob l o 5) (l 3).toNat 0 (-1) 0
def suiM (l : Int → Int) (o : Int) : Int × Int := if ¬ isO l o then (1, 0) else if suW l o < 0 then (2, 0) else (0, suW l o)
end RA2
