/-! the reference: layout, the walk (printed by program) -/
section RB7
variable {E : q_E} {h : q_H} {am N : Nat} {M M2 : q_Im} {l F f q : Int → Int} {r g T t k w v c e d a b s n x y R C : Int}
/-- the row at first: settings stay -/
def zl (l : Int → Int) (k : Int) : Int → Int := fun i => if 0 ≤ i ∧ i < k ∧ ¬ (5 ≤ i ∧ i ≤ 7) then 0 else l i
theorem zl_0 : zl l 0 = l := funext fun i => if_neg (by omega)
theorem zl_s (hk : 0 ≤ k) : u1 (zl l k) k (if 5 ≤ k ∧ k ≤ 7 then zl l k k else 0) = zl l (k + 1) := by
  funext i
  by_cases z : i = k
  · rw [z, u1_eq]
    by_cases y : 5 ≤ k ∧ k ≤ 7
    · rw [if_pos y]
      show (if 0 ≤ k ∧ k < k ∧ ¬ (5 ≤ k ∧ k ≤ 7) then 0 else l k) = if 0 ≤ k ∧ k < k + 1 ∧ ¬ (5 ≤ k ∧ k ≤ 7) then 0 else l k
      rw [if_neg (by omega), if_neg (by omega)]
    · rw [if_neg y]
      exact (if_pos (by omega)).symm
  · rw [u1_ne z]
    show (if 0 ≤ i ∧ i < k ∧ ¬ (5 ≤ i ∧ i ≤ 7) then 0 else l i) = if 0 ≤ i ∧ i < k + 1 ∧ ¬ (5 ≤ i ∧ i ≤ 7) then 0 else l i
    by_cases y : 0 ≤ i ∧ i < k ∧ ¬ (5 ≤ i ∧ i ≤ 7)
    · rw [if_pos y, if_pos (by omega)]
    · rw [if_neg y, if_neg (by omega)]
/-- the cells of a text -/
def ryL (q : Int → Int) : Nat → Int → Int → (Int → Int) → (Int → Int)
  | 0, _, _, l => l
  | m + 1, k, c, l => if q k = 47 then ryL q m (k + 1) c l else ryL q m (k + 1) (c + 1) (u1 l (8 + c) (kd (q k)))
def ryN (q : Int → Int) : Nat → Int → Int → Int
  | 0, _, c => c
  | m + 1, k, c => if q k = 47 then ryN q m (k + 1) c else ryN q m (k + 1) (c + 1)
theorem ry_b (hk : k < n) : ryL q (n - k).toNat k c l = (if q k = 47 then ryL q (n - (k + 1)).toNat (k + 1) c l else ryL q (n - (k + 1)).toNat (k + 1) (c + 1) (u1 l (8 + c) (kd (q k)))) ∧ ryN q (n - k).toNat k c = (if q k = 47 then ryN q (n - (k + 1)).toNat (k + 1) c else ryN q (n - (k + 1)).toNat (k + 1) (c + 1)) := by
  rw [show (n - k).toNat = (n - (k + 1)).toNat + 1 by omega]; exact ⟨rfl, rfl⟩
theorem ry_e (hk : n ≤ k) : ryL q (n - k).toNat k c l = l ∧ ryN q (n - k).toNat k c = c := by
  rw [show (n - k).toNat = 0 by omega]; exact ⟨rfl, rfl⟩
def layO (M : q_Im) (t : Int) : q_Im := uM (uM (uM (uM (uM M 0 18 (wpW (M 11) (M 0 16)).2.1) 0 19 (wpW (M 11) (M 0 16)).2.2) 0 17 (wpW (M 11) (M 0 16)).1) 0 16 0) 0 5 t
def rLay (l q : Int → Int) (n R C : Int) : Int → Int := ryL q n.toNat 0 0 (u1 (u1 (zl l 400) 0 R) 1 C)
def layM (M : q_Im) : Int × q_Im := if 0 ≤ (wpW (M 11) (M 0 16)).1 then (0, layO M 1) else (ryN (M 11) (M 0 16).toNat 0 0, uA (mch (layO M 0)) 1 (rLay (M 1) (M 11) (M 0 16) (wpW (M 11) (M 0 16)).2.1 (wpW (M 11) (M 0 16)).2.2))
theorem wpl_r (hn : 0 ≤ n ∧ n ≤ 60) : ∀ (m : Nat) (k x R C : Int), 0 ≤ k → k + m = n → (1 ≤ R ∧ R ≤ 6) → (0 ≤ x ∧ x ≤ k) → (0 ≤ C ∧ C ≤ 60) → (-1 ≤ (wpl q n m k x R C).1 ∧ (wpl q n m k x R C).1 ≤ 60) ∧ (1 ≤ (wpl q n m k x R C).2.1 ∧ (wpl q n m k x R C).2.1 ≤ 6) ∧ (0 ≤ (wpl q n m k x R C).2.2 ∧ (wpl q n m k x R C).2.2 ≤ 60) := by
  intro m
  induction m with
  | zero =>
    intro k x R C h0 h1 h2 h3 h4
    show (-1 ≤ (if x < 2 ∨ x < (if R = 1 then x else C) then n else -1) ∧ (if x < 2 ∨ x < (if R = 1 then x else C) then n else -1) ≤ 60) ∧ (1 ≤ R ∧ R ≤ 6) ∧ (0 ≤ (if R = 1 then x else C) ∧ (if R = 1 then x else C) ≤ 60)
    refine ⟨?_, h2, ?_⟩
    · split <;> omega
    · split <;> omega
  | succ m ih =>
    intro k x R C h0 h1 h2 h3 h4
    unfold wpl
    generalize (if R = 1 then (8 : Int) else C) = B8
    split
    · split
      · exact ⟨⟨by show -1 ≤ k; omega, by show k ≤ 60; omega⟩, h2, h4⟩
      · exact ih _ _ _ _ (by omega) (by omega) h2 (by omega) h4
    · split
      · exact ih _ _ _ _ (by omega) (by omega) (by omega) (by omega) (by split <;> omega)
      · exact ⟨⟨by show -1 ≤ k; omega, by show k ≤ 60; omega⟩, h2, h4⟩
theorem wpW_r (hn : 0 ≤ n ∧ n ≤ 60) : (-1 ≤ (wpW q n).1 ∧ (wpW q n).1 ≤ 60) ∧ (1 ≤ (wpW q n).2.1 ∧ (wpW q n).2.1 ≤ 6) ∧ (0 ≤ (wpW q n).2.2 ∧ (wpW q n).2.2 ≤ 60) := wpl_r hn n.toNat 0 0 1 0 (by omega) (by omega) (by omega) (by omega) (by omega)
end RB7
