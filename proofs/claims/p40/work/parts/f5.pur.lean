/-! the text that the law draws: rows laid one behind the other -/
/-- the first n letters of f lead to row R, C columns, x cells in the row -/
def PSt (f : Int → Int) (n : Nat) (R C x : Int) : Prop := ∀ (c : Int → Int) (N : Int) (m : Nat), (∀ i : Int, 0 ≤ i → i < n → c i = f i) → fpl c N (n + m) 0 0 0 0 = fpl c N m n R C x
/-- k cells are laid, of rows of C -/
def TI (C k : Int) (n : Nat) (f : Int → Int) : Prop := ∃ R x : Int, k = R * C + x ∧ 0 ≤ R ∧ (k = 0 → R = 0 ∧ x = 0) ∧ (0 < k → 1 ≤ x ∧ x ≤ C) ∧ (n : Int) = k + R ∧ PSt f n R (if R = 0 then 0 else C) x
section F5
variable {l l' m X L f g : Int → Int} {r r' x y z t T k o c v p q b a w s i j R C d : Int} {n : Nat}
theorem ps_0 : PSt f 0 0 0 0 := fun c N m _ => by rw [Nat.zero_add]; rfl
theorem ps_cell (h : PSt f n R C x) (hg : ∀ i : Int, 0 ≤ i → i < n → g i = f i) (h1 : ¬ g n = 47) (h2 : ¬ kd (g n) = -1) (h3 : cgr R C x) : PSt g (n + 1) R C (x + 1) := fun c N m hc => by
  rw [show n + 1 + m = n + (m + 1) by omega, h c N (m + 1) fun i a b => (hc i a (by omega)).trans (hg i a b)]
  have e := hc n (by omega) (by omega)
  show (if c n = 47 ∧ cer R C x ∧ R + 1 < 6 then fpl c N m (n + 1) (R + 1) x 0 else if ¬ kd (c n) = -1 ∧ cgr R C x then fpl c N m (n + 1) R C (x + 1) else (n, R, C)) = _
  rw [e, if_neg (fun z => h1 z.1), if_pos ⟨h2, h3⟩]
  rfl
theorem ps_row (h : PSt f n R C x) (hg : ∀ i : Int, 0 ≤ i → i < n → g i = f i) (h1 : g n = 47) (h2 : cer R C x) (h3 : R + 1 < 6) : PSt g (n + 1) (R + 1) x 0 := fun c N m hc => by
  rw [show n + 1 + m = n + (m + 1) by omega, h c N (m + 1) fun i a b => (hc i a (by omega)).trans (hg i a b)]
  have e := hc n (by omega) (by omega)
  show (if c n = 47 ∧ cer R C x ∧ R + 1 < 6 then fpl c N m (n + 1) (R + 1) x 0 else if ¬ kd (c n) = -1 ∧ cgr R C x then fpl c N m (n + 1) R C (x + 1) else (n, R, C)) = _
  rw [e, if_pos ⟨h1, h2, h3⟩]
  rfl
theorem ti_0 : TI C 0 0 f := ⟨0, 0, by omega, by omega, fun _ => ⟨rfl, rfl⟩, fun h => absurd h (by omega), rfl, ps_0⟩
/-- what is said of rows and columns, told apart -/
theorem c_36 (h : 3 ≤ C ∧ C ≤ 6) : C = 3 ∨ C = 4 ∨ C = 5 ∨ C = 6 := by omega
theorem ti_b (hC : 3 ≤ C ∧ C ≤ 6) (hR : 2 ≤ R ∧ R ≤ 5) (h : TI C k n f) (h0 : 0 ≤ k) (h1 : k ≤ R * C) : (n : Int) ≤ 40 ∧ 0 ≤ R * C ∧ R * C ≤ 30 := by
  obtain ⟨Q, x, e, e0, e1, e2, e3, _⟩ := h
  rcases c_36 hC with q | q | q | q <;> rw [q] at e h1 ⊢ <;> by_cases hk : k = 0
  all_goals omega
theorem ti_c (hC : 3 ≤ C ∧ C ≤ 6) (hR : 2 ≤ R ∧ R ≤ 5) (h : TI C k n f) (h0 : 0 ≤ k) (h1 : k < R * C) (hs : k ≤ 0 ∨ ¬ k % C = 0) (hg : ∀ i : Int, 0 ≤ i → i < n → g i = f i) (hd : g n = d) (h47 : ¬ d = 47) (hk : ¬ kd d = -1) : TI C (k + 1) (n + 1) g := by
  obtain ⟨Q, x, e, e0, e1, e2, e3, P⟩ := h
  have hx : 0 ≤ x ∧ x < C := by
    by_cases z : k = 0
    · have := e1 z; omega
    · have := e2 (by omega)
      rcases c_36 hC with q | q | q | q <;> rw [q] at e hs this ⊢ <;> omega
  refine ⟨Q, x + 1, by omega, e0, by omega, by omega, by omega, ?_⟩
  refine ps_cell P hg (by rw [hd]; exact h47) (by rw [hd]; exact hk) ?_
  by_cases z : Q = 0
  · rw [if_pos z]
    exact Or.inl ⟨z, by omega⟩
  · rw [if_neg z]
    exact Or.inr ⟨z, hx.2⟩
theorem ti_r (hC : 3 ≤ C ∧ C ≤ 6) (hR : 2 ≤ R ∧ R ≤ 5) (h : TI C k n f) (h0 : 0 < k) (h1 : k < R * C) (hs : k % C = 0) (hg : ∀ i : Int, 0 ≤ i → i < n → g i = f i) (h47 : g n = 47) (hd : g ((n : Int) + 1) = d) (hn : ¬ d = 47) (hk : ¬ kd d = -1) : TI C (k + 1) (n + 2) g := by
  obtain ⟨Q, x, e, e0, e1, e2, e3, P⟩ := h
  have e2 := e2 h0
  have hx : x = C ∧ Q + 1 < 6 := by
    rcases c_36 hC with q | q | q | q <;> rw [q] at e hs e2 h1 ⊢ <;> omega
  have ek : k + 1 = (Q + 1) * C + 1 := by
    rw [Int.add_mul, Int.one_mul]
    omega
  refine ⟨Q + 1, 1, ek, by omega, by omega, by omega, by omega, ?_⟩
  rw [if_neg (by omega)]
  have P1 : PSt g (n + 1) (Q + 1) x 0 := by
    refine ps_row P hg h47 ?_ hx.2
    by_cases z : Q = 0
    · rw [if_pos z]
      unfold cer
      omega
    · rw [if_neg z]
      unfold cer
      omega
  rw [hx.1] at P1
  have hg' : g ((n + 1 : Nat) : Int) = d := by rw [← hd]; congr 1
  exact ps_cell P1 (fun i _ _ => rfl) (by rw [hg']; exact hn) (by rw [hg']; exact hk) (Or.inr ⟨by omega, by omega⟩)
theorem ti_e (hC : 3 ≤ C ∧ C ≤ 6) (hR : 2 ≤ R ∧ R ≤ 5) (h : TI C (R * C) n f) (hg : ∀ i : Int, 0 ≤ i → i < n → g i = f i) : fpl g n n 0 0 0 0 = (-1, R, C) := by
  obtain ⟨Q, x, e, e0, e1, e2, e3, P⟩ := h
  have hx : x = C ∧ Q + 1 = R := by
    have e2 := e2 (by rcases c_36 hC with q | q | q | q <;> rw [q] <;> omega)
    rcases c_36 hC with q | q | q | q <;> rw [q] at e e2 ⊢ <;> omega
  have e4 := P g n 0 hg
  rw [Nat.add_zero] at e4
  rw [e4]
  show (if cer Q (if Q = 0 then 0 else C) x then (-1, Q + 1, x) else ((n : Int), Q, (if Q = 0 then 0 else C))) = _
  rw [if_pos, hx.1, hx.2]
  by_cases z : Q = 0
  · rw [if_pos z]
    unfold cer
    omega
  · rw [if_neg z]
    unfold cer
    omega
end F5
