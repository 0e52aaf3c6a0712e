/-! what the reference's methods answer, readings, second (printed by program) -/
section MS
variable {E : q_E} {h : q_H} {am : Nat} {M : q_Im}
/-- a loop over n places from k on, with one number kept -/
def lpI (g : Int → Int → Int) : Nat → Int → Int → Int
  | 0, _, a => a
  | n + 1, k, a => lpI g n (k + 1) (g k a)
def sto (s : Int → Int) (o : Int) : Int := if 0 ≤ ob s o 4 then 2 else if 0 ≤ ob s o 3 then 1 else 0
abbrev ldd (s : Int → Int) (r : Int) : Prop := 0 ≤ rb s r 2 ∧ 0 < ob s (rb s r 2) 2
def mst (w : Int) : Int := if w = 0 then 20 else if w = 1 then 3 else 30
def ccl (s : Int → Int) : Int := lpI (fun k a => a + s (56 + k)) (cs s).toNat 0 0
def exI (P : Int → Prop) (n : Nat) (k : Int) : Prop := ∃ t, (k ≤ t ∧ t < k + n) ∧ P t
theorem exI_0 {P : Int → Prop} {k : Int} : ¬ exI P 0 k := fun ⟨t, h, _⟩ => by omega
theorem exI_s {P : Int → Prop} {n : Nat} {k : Int} : exI P (n + 1) k ↔ P k ∨ exI P n (k + 1) := by
  constructor
  · rintro ⟨t, h, p⟩
    by_cases e : t = k
    · exact .inl (e ▸ p)
    · exact .inr ⟨t, by omega, p⟩
  · rintro (p | ⟨t, h, p⟩)
    · exact ⟨k, by omega, p⟩
    · exact ⟨t, by omega, p⟩
/-- the least robot but one that is in a cell at a tick from one on -/
abbrev wbA (s : Int → Int) (cell fr but r : Int) : Prop := (∃ t, (fr ≤ t ∧ t ≤ 31) ∧ ahd s r t = cell) ∧ r ≠ but
noncomputable def wbe (s : Int → Int) (cell fr but : Int) : Int := fnd (wbA s cell fr but) (s 3).toNat 0
abbrev okR (s : Int → Int) (robot fr to t r : Int) : Prop := r = robot ∨ (¬ ahd s r (t + 1) = to ∧ ¬ (ahd s r (t + 1) = fr ∧ ahd s r t = to))
abbrev mgo (s : Int → Int) (robot fr to t : Int) : Prop := ent s to ∧ ∀ r, 0 ≤ r → r < s 3 → okR s robot fr to t r
noncomputable def rin (s : Int → Int) (cell t : Int) : Int := fnd (fun r => ahd s r t = cell) (s 3).toNat 0
def ovR (s : Int → Int) (w : Int) : Int := lpI (fun k a => a + rb s k w) (s 3).toNat 0 0
def ovO (s : Int → Int) (st : Int) : Int := lpI (fun k a => a + (if st < 0 then ob s k 2 else if sto s k = st then 1 else 0)) (s 4).toNat 0 0
theorem sto_r {s : Int → Int} {o : Int} : 0 ≤ sto s o ∧ sto s o ≤ 2 := by
  unfold sto
  split
  · omega
  · split <;> omega
abbrev ahO (s : Int → Int) (x y : Int) : Prop := ob s x 0 < ob s y 0 ∨ (ob s x 0 = ob s y 0 ∧ (ob s x 1 - ob s x 2 > ob s y 1 - ob s y 2 ∨ (ob s x 1 - ob s x 2 = ob s y 1 - ob s y 2 ∧ x < y)))
abbrev alI (P : Int → Prop) (lo hi : Int) : Prop := ∀ x, lo ≤ x → x < hi → P x
theorem alI_0 {P : Int → Prop} {lo hi : Int} (h : hi ≤ lo) : alI P lo hi := fun x a b => by omega
theorem alI_s {P : Int → Prop} {lo hi : Int} (h : lo < hi) : alI P lo hi ↔ P lo ∧ alI P (lo + 1) hi := by
  constructor
  · intro k
    exact ⟨k lo (by omega) h, fun x a b => k x (by omega) b⟩
  · rintro ⟨p, k⟩ x a b
    by_cases e : x = lo
    · exact e ▸ p
    · exact k x (by omega) b
theorem fnd_r {P : Int → Prop} : ∀ {n : Nat} {k : Int}, fnd P n k = -1 ∨ (k ≤ fnd P n k ∧ fnd P n k < k + n)
  | 0, k => .inl rfl
  | n + 1, k => by
    by_cases h : P k
    · rw [fnd_t h]; omega
    · rw [fnd_f h]
      have := @fnd_r P n (k + 1)
      omega
theorem ahd_0 {s : Int → Int} {r : Int} : ahd s r 0 = rb s r 0 := by
  unfold ahd ahf
  exact if_pos (.inl rfl)
theorem bes_f {s0 s1 c : Int} (h0 : 1 ≤ s0) (h1 : 2 ≤ s1) (hc : 0 ≤ c) (hd : c < s0 * s1) : (0 ≤ c / s1 ∧ c / s1 < s0) ∧ (0 ≤ c % s1 ∧ c % s1 < s1) ∧ s1 * (c / s1) + c % s1 = c ∧ (s1 * (c / s1 + -1) = s1 * (c / s1) - s1) ∧ (s1 * (c / s1 + 1) = s1 * (c / s1) + s1) ∧ (c / s1 = 0 → s1 * (c / s1) = 0) ∧ (1 ≤ c / s1 → s1 ≤ s1 * (c / s1)) ∧ (c / s1 + 1 < s0 → s1 * (c / s1) + s1 + s1 ≤ s0 * s1) ∧ (c / s1 + 1 = s0 → s1 * (c / s1) + s1 = s0 * s1) := by
  have e := Int.mul_ediv_add_emod c s1
  have a1 : 0 ≤ c / s1 := Int.ediv_nonneg hc (by omega)
  have a2 : c / s1 < s0 := Int.ediv_lt_of_lt_mul (by omega) hd
  have a3 : 0 ≤ c % s1 := Int.emod_nonneg c (by omega)
  have a4 : c % s1 < s1 := Int.emod_lt_of_pos c (by omega)
  generalize hq : c / s1 = q at *
  generalize hm : c % s1 = m at *
  refine ⟨⟨a1, a2⟩, ⟨a3, a4⟩, e, by rw [Int.mul_add]; omega, by rw [Int.mul_add]; omega, fun h => by rw [h, Int.mul_zero], fun h => ?_, fun h => ?_, fun h => ?_⟩
  · have := Int.mul_le_mul_of_nonneg_left h (show 0 ≤ s1 by omega)
    omega
  · have := Int.mul_le_mul_of_nonneg_left (show q + 2 ≤ s0 by omega) (show 0 ≤ s1 by omega)
    rw [Int.mul_add] at this
    rw [Int.mul_comm s0]
    omega
  · have : s1 * (q + 1) = s1 * s0 := by rw [h]
    rw [Int.mul_add] at this
    rw [Int.mul_comm s0]
    omega
theorem bes_r {s : Int → Int} (hR : Rg s) {c w : Int} (h1 : isC s c) : bes s c w = -1 ∨ (0 ≤ bes s c w ∧ bes s c w < cs s) := by
  obtain ⟨hr, g0, g1, g3, g4, gc, g5, g6, g7, gk, gl, gr, go⟩ := id hR
  obtain ⟨a1, a2, a3, a4, a5, a6, a7, a8, a9⟩ := bes_f g0.1 g1.1 h1.1 h1.2
  unfold cs at *
  unfold bes
  unfold cs
  repeat' split
  all_goals omega
theorem wb_i {s : Int → Int} {cell fr but r : Int} (h : False ∨ exI (fun t => ahd s r t = cell) (32 - fr).toNat fr) (k : ¬ r = but) : wbA s cell fr but r := by
  rcases h with h | ⟨t, h, e⟩
  · exact h.elim
  · exact ⟨⟨t, by omega, e⟩, k⟩
theorem wb_n {s : Int → Int} {cell fr but r : Int} (h : (¬ (False ∨ exI (fun t => ahd s r t = cell) (32 - fr).toNat fr)) ∨ r = but) : ¬ wbA s cell fr but r := by
  rintro ⟨⟨t, a, e⟩, k⟩
  rcases h with h | h
  · exact h (.inr ⟨t, by omega, e⟩)
  · exact k h
end MS
